/-! ===== the model's tints ===== -/
def TT (N : Ng) (col : Nat → Nat) (k : Nat) (h : Mem) : Prop := ∀ b, b < k → (wmF N b = true → h 119 b = nI (col b) ∧ col b ≤ 12) ∧ (wmF N b = false → h 119 b = -2)
def shB (N : Ng) (b k : Nat) : Nat := fb_ct (fun s => nOn N b s && nOn N k s) 200
def fitP (N : Ng) (col : Nat → Nat) (k t j : Nat) : Prop := ∀ b, b < j → wmF N b = true → col b = t → shB N b k = 0
theorem fit_iff {N : Ng} {col : Nat → Nat} {k t : Nat} (hk : k < 12) : fitP N col k t k ↔ memT (wmF N) k col t &&& nCl N k = 0 := by
  constructor
  · intro h
    apply ext12 (and_lt12 (memT_lt _ _ _ _)) (by decide)
    intro a ha
    rw [Nat.testBit_and, memT_bit ha, Nat.zero_testBit]
    by_cases e : a < k ∧ wmF N a = true ∧ col a = t
    · obtain ⟨e1, e2, e3⟩ := e
      have h0 := (fb_ct_zero (p := fun s => nOn N a s && nOn N k s)).mp (h a e1 e2 e3)
      have hb : (nCl N k).testBit a = false := Bool.eq_false_iff.mpr (fun z => by
        obtain ⟨s, hs, h1, h2⟩ := clM_bit.mp z
        rw [bit_mk hk] at h1
        rw [bit_mk ha] at h2
        have := h0 s hs
        rw [h1, h2] at this
        exact absurd this (by decide))
      rw [hb, Bool.and_false]
    · by_cases e1 : a < k
      · by_cases e2 : wmF N a = true
        · simp [show ¬ col a = t from fun e3 => e ⟨e1, e2, e3⟩]
        · simp [e2]
      · simp [e1]
  · intro h b hb hw hc
    apply fb_ct_zero.mpr
    intro s hs
    by_cases e : nOn N b s = true
    · by_cases e2 : nOn N k s = true
      · exact absurd hc (memT_zero h hb (by omega) hw (clM_bit.mpr ⟨s, hs, by rw [bit_mk hk]; exact e2, by rw [bit_mk (by omega)]; exact e⟩))
      · simp [Bool.eq_false_iff.mpr e2]
    · simp [Bool.eq_false_iff.mpr e]
noncomputable def fitB (N : Ng) (col : Nat → Nat) (k t j : Nat) : Bool := @decide (fitP N col k t j) (Classical.propDecidable _)
theorem fitB_t {N : Ng} {col : Nat → Nat} {k t j : Nat} : fitB N col k t j = true ↔ fitP N col k t j := by unfold fitB; exact @decide_eq_true_iff _ (Classical.propDecidable _)
def usd (W : Nat → Bool) (col : Nat → Nat) : Nat → Nat
  | 0 => 0
  | k + 1 => if W k = true then max (usd W col k) (col k + 1) else usd W col k
theorem usd_cong {W : Nat → Bool} {c c' : Nat → Nat} : ∀ {k : Nat}, (∀ b, b < k → c b = c' b) → usd W c k = usd W c' k
  | 0, _ => rfl
  | k + 1, h => by rw [usd, usd, usd_cong (fun b hb => h b (by omega)), h k (by omega)]
theorem usd_up {W : Nat → Bool} {col : Nat → Nat} {k t : Nat} (h : W k = true) : usd W (va_up col k t) (k + 1) = max (usd W col k) (t + 1) := by
  rw [usd, if_pos h, va_up_s, usd_cong (fun b hb => va_up_ne _ _ (by omega))]
theorem usd_le {N : Ng} {col : Nat → Nat} : ∀ {k : Nat}, (∀ b, b < k → wmF N b = true → col b ≤ 12) → usd (wmF N) col k ≤ 13
  | 0, _ => Nat.zero_le _
  | k + 1, h => by
    have ih := usd_le (N := N) (col := col) (k := k) (fun b hb => h b (by omega))
    rw [usd]
    split
    · rename_i e
      have := h k (by omega) e
      exact Nat.max_le.mpr ⟨ih, by omega⟩
    · exact ih
theorem dn_sub : ∀ k, k < 13 → nI k + (-1) = dn k := by decide +kernel
theorem dn_inc : ∀ k, k < 14 → dn k + nI 1 = nI k := by decide +kernel
theorem dfs_off {W : Nat → Bool} {C : Nat → Nat} {m : Nat} : ∀ {n k : Nat} {col : Nat → Nat} {used : Nat}, (∀ l, k ≤ l → W l = false) → dfs W C m n k col used = some col
  | 0, _, _, _, _ => rfl
  | n + 1, k, col, used, h => by
    rw [dfs_n (h k (Nat.le_refl _))]
    exact dfs_off (fun l hl => h l (by omega))
theorem tn_zero {N : Ng} (h : ∀ l, wmF N l = false) : tnN N = 0 := by
  obtain ⟨h1, h2, h3⟩ := tnN_ok N
  rcases Nat.eq_zero_or_pos (tnN N) with z | z
  · exact z
  · have := h2 0 z
    rw [nDf, dfs_off (fun l _ => h l)] at this
    cases this
theorem tn_pos {N : Ng} {l : Nat} (hl : l < 12) (h : wmF N l = true) : 1 ≤ tnN N := by
  rcases Nat.eq_zero_or_pos (tnN N) with z | z
  · have h1 := tcN_ok N
    rw [z] at h1
    have := ((dfs_sound (by decide) h1).2 l (Nat.zero_le _) hl h).1
    omega
  · exact z
theorem m_le {a : Int32} {b : Nat} (hb : b < 2 ^ 31) (ha : a.toInt ≤ 0) : a ≤ nI b := by
  rw [fa_le, nI_toInt hb]; omega
set_option maxRecDepth 4000 in
theorem l_X6_fits (G : GE) (h : Mem) (N : Ng) (i : Inv N) (r : RBn N h) (k : Nat) (hk : k < 12) (col : Nat → Nat) (t : Nat) (ht : t ≤ 12) (hT : TT N col k h) (hkt : h 119 k = nI t) (j : Nat) (hj : j ≤ k) : V idsB G RX6 cX6_fits 4 (some .boolean) (rmD 1) 4 [some (.ref (ad G 100)), some (.int (nI k)), some (.int (bz (fitB N col k t j = true))), some (.int (nI j))] [] h (Qi (fun v h' => h' = h ∧ v = bz (memT (wmF N) k col t &&& nCl N k = 0))) := by
  induction hn : k - j using Nat.strongRecOn generalizing j with
  | _ n ih =>
    subst hn
    refine V_iload3 dX6_fits_4 ?_
    refine V_iload1 dX6_fits_5 ?_
    first | refine V_icmp_ge_n 58 dX6_fits_6 (by decide) (by omega) (by omega) (fun c6 => ?_) (fun c6 => ?_) | refine V_icmp_ge 58 dX6_fits_6 (by decide) (fun c6 => ?_) (fun c6 => ?_)
    · refine V_iload2 dX6_fits_58 ?_
      refine V_zreti dX6_fits_59 (by first | exact bz_01 | exact nI_01 (Or.inl rfl) | exact nI_01 (Or.inr rfl) | assumption) ?_
      obtain rfl : j = k := by omega
      exact ⟨rfl, bz_c (fitB_t.trans (fit_iff hk))⟩
    · have hlen := i.len (l := j)
      have hwm : wmF N j = true ↔ ¬ (nWy N j).length = 0 := ⟨fun z y => (of_decide_eq_true z) (List.length_eq_zero_iff.mp y), fun z => decide_eq_true (fun y => z (by rw [y]; rfl))⟩
      refine V_iload2 dX6_fits_9 ?_
      first | refine V_if_eq_z 50 dX6_fits_10 (by decide) (fun c10 => ?_) (fun c10 => ?_) | refine V_if_eq_n 50 dX6_fits_10 (by decide) (by omega) (fun c10 => ?_) (fun c10 => ?_) | refine V_if_eq 50 dX6_fits_10 (by decide) (fun c10 => ?_) (fun c10 => ?_)
      · have e0 : nI 0 = bz (fitB N col k t (j + 1) = true) := bz_r0 (fun z => by
          replace z := fitB_t.mp z
          first
          | exact c10 (fitB_t.mpr fun b hb => z b (by omega))
          | exact c43 (z j (Nat.lt_succ_self _) hwj c34))
        refine V_iconst (nI 0) dX6_fits_50 (by decide) ?_
        rw [e0]
        refine V_istore2 dX6_fits_51 (by decide) rfl ?_
        first | refine V_iinc3_n 1 dX6_fits_52 (by decide) (by decide) rfl ?_ | refine V_iinc3 (nI 1) dX6_fits_52 (by decide) (by decide) rfl ?_
        refine V_goto 4 dX6_fits_55 (by decide) ?_
        exact ih _ (by omega) (j + 1) (by omega) rfl
      · refine V_aload0 dX6_fits_13 ?_
        refine gX6_32 dX6_fits_14 ?_
        refine V_iload3 dX6_fits_17 ?_
        refine V_iaload (by decide) aI_111 (by decide) rfl (by first | assumption | omega) dX6_fits_18 ?_
        rw [(r.2.2.2.2.2.1 j (by omega)).1]
        first | refine V_if_eq_z 46 dX6_fits_19 (by decide) (fun c19 => ?_) (fun c19 => ?_) | refine V_if_eq_n 46 dX6_fits_19 (by decide) (by omega) (fun c19 => ?_) (fun c19 => ?_) | refine V_if_eq 46 dX6_fits_19 (by decide) (fun c19 => ?_) (fun c19 => ?_)
        · have e0 : nI 1 = bz (fitB N col k t (j + 1) = true) := bz_r1 (fitB_t.mpr fun b hb hw hc => by
            rcases (show b < j ∨ b = j by omega) with e | e
            · exact fitB_t.mp c10 b e hw hc
            · subst e
              first | exact absurd c19 (hwm.mp hw) | exact absurd hc c34 | exact c43)
          refine V_iconst (nI 1) dX6_fits_46 (by decide) ?_
          refine V_goto 51 dX6_fits_47 (by decide) ?_
          rw [e0]
          refine V_istore2 dX6_fits_51 (by decide) rfl ?_
          first | refine V_iinc3_n 1 dX6_fits_52 (by decide) (by decide) rfl ?_ | refine V_iinc3 (nI 1) dX6_fits_52 (by decide) (by decide) rfl ?_
          refine V_goto 4 dX6_fits_55 (by decide) ?_
          exact ih _ (by omega) (j + 1) (by omega) rfl
        · have hwj := hwm.mpr c19
          have hTj := (hT j (by omega)).1 hwj
          refine V_aload0 dX6_fits_22 ?_
          refine gX6_56 dX6_fits_23 ?_
          refine V_iload3 dX6_fits_26 ?_
          refine V_iaload (by decide) aI_119 (by decide) rfl (by first | assumption | omega) dX6_fits_27 ?_
          rw [hTj.1]
          refine V_aload0 dX6_fits_28 ?_
          refine gX6_56 dX6_fits_29 ?_
          refine V_iload1 dX6_fits_32 ?_
          refine V_iaload (by decide) aI_119 (by decide) rfl (by first | assumption | omega) dX6_fits_33 ?_
          rw [hkt]
          first | refine V_icmp_ne_n 46 dX6_fits_34 (by decide) (by omega) (by omega) (fun c34 => ?_) (fun c34 => ?_) | refine V_icmp_ne 46 dX6_fits_34 (by decide) (fun c34 => ?_) (fun c34 => ?_)
          · have e0 : nI 1 = bz (fitB N col k t (j + 1) = true) := bz_r1 (fitB_t.mpr fun b hb hw hc => by
              rcases (show b < j ∨ b = j by omega) with e | e
              · exact fitB_t.mp c10 b e hw hc
              · subst e
                first | exact absurd c19 (hwm.mp hw) | exact absurd hc c34 | exact c43)
            refine V_iconst (nI 1) dX6_fits_46 (by decide) ?_
            refine V_goto 51 dX6_fits_47 (by decide) ?_
            rw [e0]
            refine V_istore2 dX6_fits_51 (by decide) rfl ?_
            first | refine V_iinc3_n 1 dX6_fits_52 (by decide) (by decide) rfl ?_ | refine V_iinc3 (nI 1) dX6_fits_52 (by decide) (by decide) rfl ?_
            refine V_goto 4 dX6_fits_55 (by decide) ?_
            exact ih _ (by omega) (j + 1) (by omega) rfl
          · refine V_aload0 dX6_fits_37 ?_
            refine V_iload3 dX6_fits_38 ?_
            refine V_iload1 dX6_fits_39 ?_
            refine kX6_163 (m_X6_sharedBy _ _ N i r j k (by omega) hk) (rOK_d (by decide) (by decide)) (Nat.le_of_ble_eq_true rfl) dX6_fits_40 (fun r40 h40 hq40 => ?_)
            obtain ⟨e_, rfl⟩ := hq40
            replace e_ := e_.symm
            subst e_
            have hcb := fb_ct_le (fun s => nOn N j s && nOn N k s) 200
            first | refine V_if_ne_z 50 dX6_fits_43 (by decide) (fun c43 => ?_) (fun c43 => ?_) | refine V_if_ne_n 50 dX6_fits_43 (by decide) (by omega) (fun c43 => ?_) (fun c43 => ?_) | refine V_if_ne 50 dX6_fits_43 (by decide) (fun c43 => ?_) (fun c43 => ?_)
            · have e0 : nI 0 = bz (fitB N col k t (j + 1) = true) := bz_r0 (fun z => by
                replace z := fitB_t.mp z
                first
                | exact c10 (fitB_t.mpr fun b hb => z b (by omega))
                | exact c43 (z j (Nat.lt_succ_self _) hwj c34))
              refine V_iconst (nI 0) dX6_fits_50 (by decide) ?_
              rw [e0]
              refine V_istore2 dX6_fits_51 (by decide) rfl ?_
              first | refine V_iinc3_n 1 dX6_fits_52 (by decide) (by decide) rfl ?_ | refine V_iinc3 (nI 1) dX6_fits_52 (by decide) (by decide) rfl ?_
              refine V_goto 4 dX6_fits_55 (by decide) ?_
              exact ih _ (by omega) (j + 1) (by omega) rfl
            · have e0 : nI 1 = bz (fitB N col k t (j + 1) = true) := bz_r1 (fitB_t.mpr fun b hb hw hc => by
                rcases (show b < j ∨ b = j by omega) with e | e
                · exact fitB_t.mp c10 b e hw hc
                · subst e
                  first | exact absurd c19 (hwm.mp hw) | exact absurd hc c34 | exact c43)
              refine V_iconst (nI 1) dX6_fits_46 (by decide) ?_
              refine V_goto 51 dX6_fits_47 (by decide) ?_
              rw [e0]
              refine V_istore2 dX6_fits_51 (by decide) rfl ?_
              first | refine V_iinc3_n 1 dX6_fits_52 (by decide) (by decide) rfl ?_ | refine V_iinc3 (nI 1) dX6_fits_52 (by decide) (by decide) rfl ?_
              refine V_goto 4 dX6_fits_55 (by decide) ?_
              exact ih _ (by omega) (j + 1) (by omega) rfl
set_option maxRecDepth 4000 in
theorem m_X6_fits (G : GE) (h : Mem) (N : Ng) (i : Inv N) (r : RBn N h) (k : Nat) (hk : k < 12) (col : Nat → Nat) (t : Nat) (ht : t ≤ 12) (hT : TT N col k h) (hkt : h 119 k = nI t) : Ct idsB G yX6_fits cX6_fits 4 (some .boolean) (rmD 1) [.ref (ad G 100), .int (nI k)] h (Qi fun v h' => h' = h ∧ v = bz (memT (wmF N) k col t &&& nCl N k = 0)) := by
  refine Ct.of [some (.ref (ad G 100)), some (.int (nI k)), none, none] (by decide) (Nat.le_of_ble_eq_true rfl) (lvE_ok 2 rfl) ?_
  refine V_iconst (nI 1) dX6_fits_0 (by decide) ?_
  refine V_istore2 dX6_fits_1 (by decide) rfl ?_
  refine V_iconst (nI 0) dX6_fits_2 (by decide) ?_
  refine V_istore3 dX6_fits_3 (by decide) rfl ?_
  have e0 : nI 1 = bz (fitB N col k t 0 = true) := bz_r1 (fitB_t.mpr fun b hb => absurd hb (Nat.not_lt_zero _))
  rw [e0]
  exact l_X6_fits G h N i r k hk col t ht hT hkt 0 (Nat.zero_le _)
