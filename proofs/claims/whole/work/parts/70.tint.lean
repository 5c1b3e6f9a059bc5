/-! ===== tints ===== -/
def clM (M : Nat → Nat) (i : Nat) : Nat → Nat
  | 0 => 0
  | s + 1 => if (M s).testBit i = true then clM M i s ||| M s else clM M i s
theorem clM_lt {M : Nat → Nat} (hM : ∀ s, M s < 4096) (i : Nat) : ∀ n, clM M i n < 4096
  | 0 => (by decide : (0 : Nat) < 4096)
  | n + 1 => by
    rw [clM]
    split
    · exact or_lt12 (clM_lt hM i n) (hM n)
    · exact clM_lt hM i n
def memT (W : Nat → Bool) (k : Nat) (col : Nat → Nat) (t : Nat) : Nat := msk (fun l => decide (l < k) && W l && decide (col l = t)) 12
theorem memT_lt (W : Nat → Bool) (k : Nat) (col : Nat → Nat) (t : Nat) : memT W k col t < 4096 := msk12 _
theorem memT_bit {W : Nat → Bool} {k : Nat} {col : Nat → Nat} {t l : Nat} (hl : l < 12) : (memT W k col t).testBit l = (decide (l < k) && W l && decide (col l = t)) := by
  unfold memT
  rw [msk_bit]; simp [hl]
def tryT {α : Type} (f : Nat → Option α) : Nat → Nat → Option α
  | 0, _ => none
  | c + 1, t => match f t with
    | some x => some x
    | none => tryT f c (t + 1)
def dfs (W : Nat → Bool) (C : Nat → Nat) (m : Nat) : Nat → Nat → (Nat → Nat) → Nat → Option (Nat → Nat)
  | 0, _, col, _ => some col
  | n + 1, k, col, used => if W k = true then tryT (fun t => if memT W k col t &&& C k = 0 then dfs W C m n (k + 1) (va_up col k t) (max used (t + 1)) else none) (min (used + 1) m) 0 else dfs W C m n (k + 1) col used
def stepF (W : Nat → Bool) (C : Nat → Nat) (m n k : Nat) (col : Nat → Nat) (used : Nat) : Nat → Option (Nat → Nat) := fun t => if memT W k col t &&& C k = 0 then dfs W C m n (k + 1) (va_up col k t) (max used (t + 1)) else none
theorem dfs_s {W : Nat → Bool} {C : Nat → Nat} {m n k : Nat} {col : Nat → Nat} {used : Nat} (h : W k = true) : dfs W C m (n + 1) k col used = tryT (stepF W C m n k col used) (min (used + 1) m) 0 := by rw [dfs, if_pos h]; rfl
theorem stepF_t {W : Nat → Bool} {C : Nat → Nat} {m n k : Nat} {col : Nat → Nat} {used t : Nat} (h : memT W k col t &&& C k = 0) : stepF W C m n k col used t = dfs W C m n (k + 1) (va_up col k t) (max used (t + 1)) := if_pos h
theorem stepF_f {W : Nat → Bool} {C : Nat → Nat} {m n k : Nat} {col : Nat → Nat} {used t : Nat} (h : ¬ memT W k col t &&& C k = 0) : stepF W C m n k col used t = none := if_neg h
theorem tryT_s {α : Type} {f : Nat → Option α} {c t : Nat} {x : α} (h : f t = some x) : tryT f (c + 1) t = some x := by rw [tryT, h]
theorem tryT_n {α : Type} {f : Nat → Option α} {c t : Nat} (h : f t = none) : tryT f (c + 1) t = tryT f c (t + 1) := by rw [tryT, h]
theorem shl_1 : ∀ k, k < 12 → nI 1 <<< (nI k &&& 31) = nI (2 ^ k) := by decide +kernel
theorem sh_amt : ∀ k, k < 12 → ((nI k &&& 31).toBitVec.smod 32).toNat = k := by decide +kernel
theorem shr_bit {w k : Nat} (hw : w < 4096) (hk : k < 12) : (nI w >>> (nI k &&& 31)) &&& nI 1 = bz (w.testBit k = true) := by
  rw [pk_shrN (by omega) _ k (sh_amt k hk), fa_and, Nat.and_one_is_mod]
  have : w.testBit k = decide (w / 2 ^ k % 2 = 1) := by rw [Nat.testBit_eq_decide_div_mod_eq]
  rw [bz_c (show w.testBit k = true ↔ w / 2 ^ k % 2 = 1 by rw [this]; simp)]
  rcases Nat.mod_two_eq_zero_or_one (w / 2 ^ k) with e | e
  · rw [e]; decide
  · rw [e]; decide
theorem memT_set {W : Nat → Bool} {k t t' : Nat} {col : Nat → Nat} (hk : k < 12) (hW : W k = true) : memT W (k + 1) (va_up col k t) t' = if t' = t then memT W k col t ||| 2 ^ k else memT W k col t' := by
  have hb : ∀ l, l < 12 → (memT W (k + 1) (va_up col k t) t').testBit l = (decide (l < k + 1) && W l && decide (va_up col k t l = t')) := fun l hl => memT_bit hl
  have hb2 : ∀ t2 l, l < 12 → (memT W k col t2).testBit l = (decide (l < k) && W l && decide (col l = t2)) := fun t2 l hl => memT_bit hl
  by_cases e : t' = t
  · rw [if_pos e]
    apply ext12 (memT_lt _ _ _ _) (or_lt12 (memT_lt _ _ _ _) (pow12 hk))
    intro l hl
    rw [hb l hl, Nat.testBit_or, hb2 t l hl, tb_pow, e]
    by_cases z : l = k
    · subst z; rw [va_up_s]; simp [hW]
    · rw [va_up_ne _ _ z]
      by_cases y : l < k
      · simp [z, y, show l < k + 1 by omega]
      · simp [z, y, show ¬ l < k + 1 by omega]
  · rw [if_neg e]
    apply ext12 (memT_lt _ _ _ _) (memT_lt _ _ _ _)
    intro l hl
    rw [hb l hl, hb2 t' l hl]
    by_cases z : l = k
    · subst z; rw [va_up_s]; simp [Ne.symm e]
    · rw [va_up_ne _ _ z]
      by_cases y : l < k
      · simp [y, show l < k + 1 by omega]
      · simp [y, show ¬ l < k + 1 by omega]
theorem memT_skip {W : Nat → Bool} {k : Nat} {col : Nat → Nat} (hW : W k = false) (t : Nat) : memT W (k + 1) col t = memT W k col t := by
  apply msk_cong
  intro l hl
  by_cases z : l = k
  · subst z; simp [hW]
  · by_cases y : l < k
    · simp [y, show l < k + 1 by omega]
    · simp [y, show ¬ l < k + 1 by omega]
theorem memT_clr {W : Nat → Bool} {k t : Nat} {col : Nat → Nat} (hk : k < 12) : clr k (memT W k col t ||| 2 ^ k) = memT W k col t := by
  apply ext12 (clr_lt (or_lt12 (memT_lt _ _ _ _) (pow12 hk))) (memT_lt _ _ _ _)
  intro l hl
  rw [clr_bit hl, Nat.testBit_or, tb_pow]
  by_cases z : l = k
  · subst z; rw [memT_bit hl]; simp
  · simp [z]
/-- the tinter's rows -/
def TS (W : Nat → Bool) (C : Nat → Nat) (m k : Nat) (col : Nat → Nat) (h : Mem) : Prop := h 6 3 = nI m ∧ (∀ t, t < 12 → h 18 t = nI (memT W k col t)) ∧ (∀ j, j < 12 → h 16 j = nI (C j)) ∧ (∀ l, l < 12 → W l = false → h 17 l = -1000000) ∧ ∀ l, l < k → W l = true → h 17 l = nI (col l)
def C12 (C : Nat → Nat) : Prop := ∀ j, C j < 4096
set_option maxRecDepth 4000 in
theorem l_X4_tintFrom (G : GE) (W : Nat → Bool) (C : Nat → Nat) (hC : C12 C) (m : Nat) (hm : m ≤ 12) (n k : Nat) (hnk : n + 1 + k = 12) (hWk : W k = true) (h : Mem) (hc : Mem) (col : Nat → Nat) (used t : Nat) (hu : used ≤ 12) (IH : ∀ (h : Mem) (col : Nat → Nat) (used : Nat), used ≤ 12 → TS W C m (k + 1) col h → Ct idsA G yX4_tintFrom cX4_tintFrom 5 (some .boolean) (rmD (n + 1)) [.ref (ad G 6), .int (nI (msk W 12)), .int (nI (k + 1)), .int (nI (used))] h (Qi fun v h' => same [17, 18] h h' ∧ ((v = 1 ∧ ∃ col', dfs W C m (n) (k + 1) (col) (used) = some col' ∧ TS W C m 12 col' h') ∨ (v = 0 ∧ dfs W C m (n) (k + 1) (col) (used) = none ∧ TS W C m (k + 1) (col) h')))) (e1 : same [17, 18] h hc) (hT : TS W C m k col hc) (ht : t ≤ min (used + 1) m) : V idsA G RX4 cX4_tintFrom 5 (some .boolean) (rmD (n + 2)) 29 [some (.ref (ad G 6)), some (.int (nI (msk W 12))), some (.int (nI k)), some (.int (nI used)), some (.int (nI t))] [] hc (Qi (fun v h' => same [17, 18] h h' ∧ ((v = 1 ∧ ∃ col', tryT (stepF W C m n k col used) (min (used + 1) m - t) t = some col' ∧ TS W C m 12 col' h') ∨ (v = 0 ∧ tryT (stepF W C m n k col used) (min (used + 1) m - t) t = none ∧ TS W C m k col h')))) := by
  induction hz : min (used + 1) m - t using Nat.strongRecOn generalizing hc t with
  | _ z ih =>
    subst hz
    refine V_iload4 dX4_tintFrom_29 ?_
    refine V_iload3 dX4_tintFrom_31 ?_
    first | refine V_icmp_gt_n 124 dX4_tintFrom_32 (by decide) (by omega) (by omega) (fun c32 => ?_) (fun c32 => ?_) | refine V_icmp_gt 124 dX4_tintFrom_32 (by decide) (fun c32 => ?_) (fun c32 => ?_)
    · refine V_iconst (nI 0) dX4_tintFrom_124 (by decide) ?_
      refine V_zreti dX4_tintFrom_125 (by first | exact bz_01 | exact nI_01 (Or.inl rfl) | exact nI_01 (Or.inr rfl) | assumption) ?_
      have hz : min (used + 1) m - t = 0 := by omega
      rw [hz]
      exact ⟨e1, Or.inr ⟨nI_0, rfl, hT⟩⟩
    · refine V_iload4 dX4_tintFrom_35 ?_
      refine V_aload0 dX4_tintFrom_37 ?_
      refine gX4_32 dX4_tintFrom_38 ?_
      rw [hT.1]
      first | refine V_icmp_ge_n 124 dX4_tintFrom_41 (by decide) (by omega) (by omega) (fun c41 => ?_) (fun c41 => ?_) | refine V_icmp_ge 124 dX4_tintFrom_41 (by decide) (fun c41 => ?_) (fun c41 => ?_)
      · refine V_iconst (nI 0) dX4_tintFrom_124 (by decide) ?_
        refine V_zreti dX4_tintFrom_125 (by first | exact bz_01 | exact nI_01 (Or.inl rfl) | exact nI_01 (Or.inr rfl) | assumption) ?_
        have hz : min (used + 1) m - t = 0 := by omega
        rw [hz]
        exact ⟨e1, Or.inr ⟨nI_0, rfl, hT⟩⟩
      · refine V_aload0 dX4_tintFrom_44 ?_
        refine gX4_18 dX4_tintFrom_45 ?_
        refine V_iload4 dX4_tintFrom_48 ?_
        refine V_iaload (by decide) aI_18 (by decide) rfl (by first | assumption | omega) dX4_tintFrom_50 ?_
        rw [hT.2.1 t (by omega)]
        refine V_aload0 dX4_tintFrom_51 ?_
        refine gX4_9 dX4_tintFrom_52 ?_
        refine V_iload2 dX4_tintFrom_55 ?_
        refine V_iaload (by decide) aI_16 (by decide) rfl (by first | assumption | omega) dX4_tintFrom_56 ?_
        rw [hT.2.2.1 k (by omega)]
        have hm1 : memT W k col t < 4096 := msk12 _
        have hm2 : memT W k col t &&& C k < 4096 := and_lt12 hm1
        first | refine V_iand_n dX4_tintFrom_57 ?_ | refine V_iand dX4_tintFrom_57 ?_
        first | refine V_if_ne_z 118 dX4_tintFrom_58 (by decide) (fun c58 => ?_) (fun c58 => ?_) | refine V_if_ne_n 118 dX4_tintFrom_58 (by decide) (by omega) (fun c58 => ?_) (fun c58 => ?_) | refine V_if_ne 118 dX4_tintFrom_58 (by decide) (fun c58 => ?_) (fun c58 => ?_)
        · first | refine V_iinc4_n 1 dX4_tintFrom_118 (by decide) (by decide) rfl ?_ | refine V_iinc4 (nI 1) dX4_tintFrom_118 (by decide) (by decide) rfl ?_
          refine V_goto 29 dX4_tintFrom_121 (by decide) ?_
          rw [show min (used + 1) m - t = (min (used + 1) m - (t + 1)) + 1 by omega, tryT_n (stepF_f c58)]
          exact ih _ (by omega) hc (t + 1) e1 hT (by omega) rfl
        · refine V_aload0 dX4_tintFrom_61 ?_
          refine gX4_18 dX4_tintFrom_62 ?_
          refine V_iload4 dX4_tintFrom_65 ?_
          refine V_dup2 dX4_tintFrom_67 rfl rfl ?_
          refine V_iaload (by decide) aI_18 (by decide) rfl (by first | assumption | omega) dX4_tintFrom_68 ?_
          rw [hT.2.1 t (by omega)]
          refine V_iconst (nI 1) dX4_tintFrom_69 (by decide) ?_
          refine V_iload2 dX4_tintFrom_70 ?_
          refine V_ishl dX4_tintFrom_71 ?_
          rw [shl_1 k (by omega)]
          first | refine V_ior_n dX4_tintFrom_72 ?_ | refine V_ior dX4_tintFrom_72 ?_
          refine V_iastore (by decide) aI_18 (by decide) rfl (by first | assumption | omega) dX4_tintFrom_73 ?_
          refine V_aload0 dX4_tintFrom_74 ?_
          refine gX4_15 dX4_tintFrom_75 ?_
          refine V_iload2 dX4_tintFrom_78 ?_
          refine V_iload4 dX4_tintFrom_79 ?_
          refine V_iastore (by decide) aI_17 (by decide) rfl (by first | assumption | omega) dX4_tintFrom_81 ?_
          refine V_aload0 dX4_tintFrom_82 ?_
          refine V_iload1 dX4_tintFrom_83 ?_
          refine V_iload2 dX4_tintFrom_84 ?_
          refine V_iconst (nI 1) dX4_tintFrom_85 (by decide) ?_
          first | refine V_iadd_n dX4_tintFrom_86 ?_ | refine V_iadd dX4_tintFrom_86 ?_
          refine V_iload3 dX4_tintFrom_87 ?_
          refine V_iload4 dX4_tintFrom_88 ?_
          refine V_iconst (nI 1) dX4_tintFrom_90 (by decide) ?_
          first | refine V_iadd_n dX4_tintFrom_91 ?_ | refine V_iadd dX4_tintFrom_91 ?_
          refine kX4_43 (by omega) (Nat.le_of_ble_eq_true rfl) dX4_tintFrom_92 ?_
          rw [nI_max (by omega) (by omega)]
          have hT2 : TS W C m (k + 1) (va_up col k t) (wr (wr hc 18 t (nI (memT W k col t ||| 2 ^ k))) 17 k (nI t)) := by
            obtain ⟨q1, q2, q3, q4, q5⟩ := hT
            refine ⟨by rw [wr_c _ _ _ (by decide), wr_c _ _ _ (by decide)]; exact q1, fun t' ht' => ?_, fun j hj => by rw [wr_c _ _ _ (by decide), wr_c _ _ _ (by decide)]; exact q3 j hj, fun l hl hw => ?_, fun l hl hw => ?_⟩
            · rw [wr_c _ _ _ (by decide), memT_set (by omega) hWk]
              by_cases e : t' = t
              · rw [if_pos e, e, wr_s]
              · rw [if_neg e, wr_j _ _ e]; exact q2 t' ht'
            · have e : l ≠ k := fun e => by rw [e, hWk] at hw; cases hw
              rw [wr_j _ _ e, wr_c _ _ _ (by decide)]; exact q4 l hl hw
            · by_cases e : l = k
              · rw [e, wr_s, va_up_s]
              · rw [wr_j _ _ e, wr_c _ _ _ (by decide), va_up_ne _ _ e]; exact q5 l (by omega) hw
          have hff : (stepF W C m n k col used) t = dfs W C m n (k + 1) (va_up col k t) (max used (t + 1)) := stepF_t c58
          refine kX4_36 (IH _ (va_up col k t) (max used (t + 1)) (by omega) hT2) (rOK_d (by omega) (by decide)) (Nat.le_of_ble_eq_true rfl) dX4_tintFrom_95 (fun r95 h95 hq95 => ?_)
          obtain ⟨t1, t2⟩ := hq95
          have s2 : same [17, 18] h h95 := ((e1.wr _ _ (by decide)).wr _ _ (by decide)).tr t1
          rcases t2 with ⟨rfl, col', hd1, hT3⟩ | ⟨rfl, hd1, hT3⟩
          · refine V_if_eq 103 dX4_tintFrom_98 (by decide) (fun c98 => absurd c98 (by decide)) (fun c98 => ?_)
            refine V_iconst (nI 1) dX4_tintFrom_101 (by decide) ?_
            refine V_zreti dX4_tintFrom_102 (by first | exact bz_01 | exact nI_01 (Or.inl rfl) | exact nI_01 (Or.inr rfl) | assumption) ?_
            rw [show min (used + 1) m - t = (min (used + 1) m - (t + 1)) + 1 by omega, tryT_s (hff.trans hd1)]
            exact ⟨s2, Or.inl ⟨by decide, col', rfl, hT3⟩⟩
          · refine V_if_eq 103 dX4_tintFrom_98 (by decide) (fun c98 => ?_) (fun c98 => absurd rfl c98)
            refine V_aload0 dX4_tintFrom_103 ?_
            refine gX4_18 dX4_tintFrom_104 ?_
            refine V_iload4 dX4_tintFrom_107 ?_
            refine V_dup2 dX4_tintFrom_109 rfl rfl ?_
            refine V_iaload (by decide) aI_18 (by decide) rfl (by first | assumption | omega) dX4_tintFrom_110 ?_
            rw [hT3.2.1 t (by omega), memT_set (by omega) hWk, if_pos rfl]
            refine V_iconst (nI 1) dX4_tintFrom_111 (by decide) ?_
            refine V_iload2 dX4_tintFrom_112 ?_
            refine V_ishl dX4_tintFrom_113 ?_
            rw [shl_1 k (by omega)]
            refine V_iconst (-1) dX4_tintFrom_114 (by decide) ?_
            refine V_ixor dX4_tintFrom_115 ?_
            refine V_iand dX4_tintFrom_116 ?_
            rw [clr_eq (l := k) (x := memT W k col t ||| 2 ^ k) (by omega) (or_lt12 (memT_lt _ _ _ _) (pow12 (by omega))), memT_clr (by omega)]
            refine V_iastore (by decide) aI_18 (by decide) rfl (by first | assumption | omega) dX4_tintFrom_117 ?_
            first | refine V_iinc4_n 1 dX4_tintFrom_118 (by decide) (by decide) rfl ?_ | refine V_iinc4 (nI 1) dX4_tintFrom_118 (by decide) (by decide) rfl ?_
            refine V_goto 29 dX4_tintFrom_121 (by decide) ?_
            rw [show min (used + 1) m - t = (min (used + 1) m - (t + 1)) + 1 by omega, tryT_n (hff.trans hd1)]
            refine ih _ (by omega) _ (t + 1) (s2.wr _ _ (by decide)) ?_ (by omega) rfl
            obtain ⟨q1, q2, q3, q4, q5⟩ := hT3
            refine ⟨by rw [wr_c _ _ _ (by decide)]; exact q1, fun t' ht' => ?_, fun j hj => by rw [wr_c _ _ _ (by decide)]; exact q3 j hj, fun l hl hw => by rw [wr_c _ _ _ (by decide)]; exact q4 l hl hw, fun l hl hw => ?_⟩
            · by_cases e : t' = t
              · rw [e, wr_s]
              · rw [wr_j _ _ e, q2 t' ht', memT_set (by omega) hWk, if_neg e]
            · rw [wr_c _ _ _ (by decide), q5 l (by omega) hw, va_up_ne _ _ (by omega)]
set_option maxRecDepth 4000 in
theorem m_X4_tintFrom (G : GE) (W : Nat → Bool) (C : Nat → Nat) (hC : C12 C) (m : Nat) (hm : m ≤ 12) : ∀ (n k : Nat), n + k = 12 → ∀ (h : Mem) (col : Nat → Nat) (used : Nat), used ≤ 12 → TS W C m k col h → Ct idsA G yX4_tintFrom cX4_tintFrom 5 (some .boolean) (rmD (n + 1)) [.ref (ad G 6), .int (nI (msk W 12)), .int (nI (k)), .int (nI (used))] h (Qi fun v h' => same [17, 18] h h' ∧ ((v = 1 ∧ ∃ col', dfs W C m (n) (k) (col) (used) = some col' ∧ TS W C m 12 col' h') ∨ (v = 0 ∧ dfs W C m (n) (k) (col) (used) = none ∧ TS W C m (k) (col) h'))) := by
  intro n
  induction n with
  | zero =>
    intro k hk h col used hu hT
    refine Ct.of [some (.ref (ad G 6)), some (.int (nI (msk W 12))), some (.int (nI k)), some (.int (nI used)), none] (by decide) (Nat.le_of_ble_eq_true rfl) (lvE_ok 1 rfl) ?_
    refine V_iload2 dX4_tintFrom_0 ?_
    refine V_bipush (nI 12) dX4_tintFrom_1 (by decide) ?_
    first | refine V_icmp_lt_n 8 dX4_tintFrom_3 (by decide) (by omega) (by omega) (fun c3 => ?_) (fun c3 => ?_) | refine V_icmp_lt 8 dX4_tintFrom_3 (by decide) (fun c3 => ?_) (fun c3 => ?_)
    · exact absurd c3 (by omega) --end
    · refine V_iconst (nI 1) dX4_tintFrom_6 (by decide) ?_
      refine V_zreti dX4_tintFrom_7 (by first | exact bz_01 | exact nI_01 (Or.inl rfl) | exact nI_01 (Or.inr rfl) | assumption) ?_
      obtain rfl : k = 12 := by omega
      exact ⟨same.rf, Or.inl ⟨by decide, col, rfl, hT⟩⟩
  | succ n IH =>
    intro k hk h col used hu hT
    have hW12 := msk12 W
    refine Ct.of [some (.ref (ad G 6)), some (.int (nI (msk W 12))), some (.int (nI k)), some (.int (nI used)), none] (by decide) (Nat.le_of_ble_eq_true rfl) (lvE_ok 1 rfl) ?_
    refine V_iload2 dX4_tintFrom_0 ?_
    refine V_bipush (nI 12) dX4_tintFrom_1 (by decide) ?_
    first | refine V_icmp_lt_n 8 dX4_tintFrom_3 (by decide) (by omega) (by omega) (fun c3 => ?_) (fun c3 => ?_) | refine V_icmp_lt 8 dX4_tintFrom_3 (by decide) (fun c3 => ?_) (fun c3 => ?_)
    · refine V_iload1 dX4_tintFrom_8 ?_
      refine V_iload2 dX4_tintFrom_9 ?_
      refine V_ishr dX4_tintFrom_10 ?_
      refine V_iconst (nI 1) dX4_tintFrom_11 (by decide) ?_
      refine V_iand dX4_tintFrom_12 ?_
      rw [shr_bit hW12 (by omega), bz_c (show (msk W 12).testBit k = true ↔ W k = true by rw [msk_bit]; simp [show k < 12 by omega])]
      first | refine V_if_ne_z 26 dX4_tintFrom_13 (by decide) (fun c13 => ?_) (fun c13 => ?_) | refine V_if_ne_n 26 dX4_tintFrom_13 (by decide) (by omega) (fun c13 => ?_) (fun c13 => ?_) | refine V_if_ne 26 dX4_tintFrom_13 (by decide) (fun c13 => ?_) (fun c13 => ?_)
      · refine V_iconst (nI 0) dX4_tintFrom_26 (by decide) ?_
        refine V_istore4 dX4_tintFrom_27 (by decide) rfl ?_
        have hdd : dfs W C m (n + 1) k col used = tryT (stepF W C m n k col used) (min (used + 1) m - 0) 0 := by rw [dfs_s c13]; rfl
        rw [hdd]
        exact l_X4_tintFrom G W C hC m hm n k (by omega) c13 h h col used 0 hu (fun h col used hu hT => IH (k + 1) (by omega) h col used hu hT) same.rf hT (Nat.zero_le _)
      · refine V_aload0 dX4_tintFrom_16 ?_
        refine V_iload1 dX4_tintFrom_17 ?_
        refine V_iload2 dX4_tintFrom_18 ?_
        refine V_iconst (nI 1) dX4_tintFrom_19 (by decide) ?_
        first | refine V_iadd_n dX4_tintFrom_20 ?_ | refine V_iadd dX4_tintFrom_20 ?_
        refine V_iload3 dX4_tintFrom_21 ?_
        have hT2 : TS W C m (k + 1) col h := ⟨hT.1, fun t ht => by rw [memT_skip (Bool.eq_false_iff.mpr c13)]; exact hT.2.1 t ht, hT.2.2.1, hT.2.2.2.1, fun l hl hw => hT.2.2.2.2 l (by rcases (show l < k ∨ l = k by omega) with z | z; exact z; exact absurd (z ▸ hw) c13) hw⟩
        refine kX4_36 (IH (k + 1) (by omega) h col used hu hT2) (rOK_d (by omega) (by decide)) (Nat.le_of_ble_eq_true rfl) dX4_tintFrom_22 (fun r22 h22 hq22 => ?_)
        obtain ⟨t1, t2⟩ := hq22
        have hdd : dfs W C m (n + 1) k col used = dfs W C m n (k + 1) col used := by rw [dfs, if_neg c13]
        rcases t2 with ⟨rfl, col', hd1, hT3⟩ | ⟨rfl, hd1, hT3⟩
        · refine V_zreti dX4_tintFrom_25 (Or.inr rfl) ⟨t1, Or.inl ⟨rfl, col', by rw [hdd, hd1], hT3⟩⟩
        · refine V_zreti dX4_tintFrom_25 (Or.inl rfl) ⟨t1, Or.inr ⟨rfl, by rw [hdd, hd1], hT3.1, fun t ht => by rw [← memT_skip (Bool.eq_false_iff.mpr c13)]; exact hT3.2.1 t ht, hT3.2.2.1, hT3.2.2.2.1, fun l hl hw => hT3.2.2.2.2 l (by omega) hw⟩⟩
    · exact absurd (by omega) c3 --end
