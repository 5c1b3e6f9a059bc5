theorem wk_bad {sh : Nat → Bool} {vis : List Nat} {p : Nat} {x : Int32} {xs : List Int32} (h : ¬ inR x 4) : wk sh vis p (x :: xs) = none := by rw [wk, if_neg h]
theorem wk_step {sh : Nat → Bool} {vis : List Nat} {p d : Nat} {xs : List Int32} (hd : d < 4) : wk sh vis p (nI d :: xs) = (match nb p d with
    | none => none
    | some q => if sh q = true ∨ q ∈ vis then none else wk sh (q :: vis) q xs) := by rw [wk, if_pos (inR_nI hd (by decide)), nI_clamp (by omega)]; cases nb p d <;> rfl
theorem nn_some {a : Nat} : ¬ (none : Option Nat) = some a := fun e => by cases e
set_option maxRecDepth 4000 in
theorem l_X2_isWay_1 (G : GE) (h hc : Mem) (sh : Nat → Bool) (hsh : ∀ p, p < 100 → h 8 p = bz (sh p = true)) (Q : Option Value → Mem → Prop) (l c i n p : Nat) (hp : p ≤ 100) (e1 : same [11] h hc) (e2 : ∀ q, q < p → hc 11 q = bz (sh q = true)) (K : ∀ hc, same [11] h hc → (∀ q, q < 100 → hc 11 q = bz (sh q = true)) → V idsA G RX2 cX2_isWay 7 (some .boolean) (rmD 1) 30 [some (.ref (ad G 4)), some (.ref (ad G (40 + l))), some (.ref (ad G c)), some (.int (nI i)), some (.int (nI n)), some (.int (nI 100)), none] [] hc Q) : V idsA G RX2 cX2_isWay 7 (some .boolean) (rmD 1) 3 [some (.ref (ad G 4)), some (.ref (ad G (40 + l))), some (.ref (ad G c)), some (.int (nI i)), some (.int (nI n)), some (.int (nI p)), none] [] hc Q := by
  induction hn : 100 - p using Nat.strongRecOn generalizing hc p with
  | _ n ih =>
    subst hn
    refine V_iload5 dX2_isWay_3 ?_
    refine V_bipush (nI 100) dX2_isWay_5 (by decide) ?_
    first | refine V_icmp_ge_n 30 dX2_isWay_7 (by decide) (by omega) (by omega) (fun c7 => ?_) (fun c7 => ?_) | refine V_icmp_ge 30 dX2_isWay_7 (by decide) (fun c7 => ?_) (fun c7 => ?_)
    · obtain rfl : p = 100 := by omega
      exact K hc e1 e2
    · refine V_aload0 dX2_isWay_10 ?_
      refine gX2_22 dX2_isWay_11 ?_
      refine V_iload5 dX2_isWay_14 ?_
      refine V_aload0 dX2_isWay_16 ?_
      refine gX2_9 dX2_isWay_17 ?_
      refine V_iload5 dX2_isWay_20 ?_
      refine V_baload (by decide) aZ_8 (by decide) rfl (by first | assumption | omega) dX2_isWay_22 ?_
      rw [e1.at 8 p (by decide), hsh p (by omega)]
      refine V_bastore (by decide) aZ_11 (by decide) rfl (by first | assumption | omega) (by first | exact bz_01 | exact nI_01 (Or.inl rfl) | exact nI_01 (Or.inr rfl) | assumption) dX2_isWay_23 ?_
      first | refine V_iinc5_n 1 dX2_isWay_24 (by decide) (by decide) rfl ?_ | refine V_iinc5 (nI 1) dX2_isWay_24 (by decide) (by decide) rfl ?_
      refine V_goto 3 dX2_isWay_27 (by decide) ?_
      exact ih _ (by omega) _ (p + 1) (by omega) (e1.wr _ _ (by decide)) (lt_s (fun q h1 => by rw [wr_j _ _ (by omega)]; exact e2 q h1) (wr_s _ _ _ _)) rfl
set_option maxRecDepth 4000 in
theorem l_X2_isWay_2 (G : GE) (h : Mem) (sh : Nat → Bool) (l gl c i n m : Nat) (hl : l < 12) (hg : gl < 100) (hcm : c ∈ idsA) (hci : isI c m) (hm : m < 2 ^ 31) (him : i + n ≤ m) (hc11 : c ≠ 11) : ∀ (xs : List Int32) (hc : Mem) (vis : List Nat) (k p : Nat) (hp : p < 100) (hk : k + xs.length = i + n) (e3 : hc (40 + l) 3 = nI gl) (e5 : ∀ j, j < xs.length → hc c (k + j) = xs.getD j 0) (ev : ∀ q, q < 100 → hc 11 q = bz (sh q = true ∨ q ∈ vis)) (e1 : same [11] h hc), V idsA G RX2 cX2_isWay 7 (some .boolean) (rmD 1) 47 [some (.ref (ad G 4)), some (.ref (ad G (40 + l))), some (.ref (ad G c)), some (.int (nI i)), some (.int (nI n)), some (.int (nI p)), some (.int (nI k))] [] hc (Qi (fun r h' => same [11] h h' ∧ r = bz (wk sh vis p xs = some gl))) := by
  intro xs
  induction xs with
  | nil =>
    intro hc vis k p hp hk e3 e5 ev e1
    simp only [List.length_nil, Nat.add_zero] at hk
    refine V_iload6 dX2_isWay_47 ?_
    refine V_iload3 dX2_isWay_49 ?_
    refine V_iload4 dX2_isWay_50 ?_
    first | refine V_iadd_n dX2_isWay_52 ?_ | refine V_iadd dX2_isWay_52 ?_
    first | refine V_icmp_ge_n 112 dX2_isWay_53 (by decide) (by omega) (by omega) (fun c53 => ?_) (fun c53 => ?_) | refine V_icmp_ge 112 dX2_isWay_53 (by decide) (fun c53 => ?_) (fun c53 => ?_)
    · refine V_iload5 dX2_isWay_112 ?_
      refine V_aload1 dX2_isWay_114 ?_
      refine gX2_64 (by first | assumption | omega) dX2_isWay_115 ?_
      rw [e3]
      first | refine V_icmp_ne_n 125 dX2_isWay_118 (by decide) (by omega) (by omega) (fun c118 => ?_) (fun c118 => ?_) | refine V_icmp_ne 125 dX2_isWay_118 (by decide) (fun c118 => ?_) (fun c118 => ?_)
      · refine V_iconst (nI 0) dX2_isWay_125 (by decide) ?_
        refine V_zreti dX2_isWay_126 (by first | exact bz_01 | exact nI_01 (Or.inl rfl) | exact nI_01 (Or.inr rfl) | assumption) ?_
        exact ⟨e1, by first | exact bz_r1 (by rw [wk, c118]) | exact bz_r0 (by rw [wk]; exact fun z => c118 (Option.some.inj z))⟩
      · refine V_iconst (nI 1) dX2_isWay_121 (by decide) ?_
        refine V_goto 126 dX2_isWay_122 (by decide) ?_
        refine V_zreti dX2_isWay_126 (by first | exact bz_01 | exact nI_01 (Or.inl rfl) | exact nI_01 (Or.inr rfl) | assumption) ?_
        exact ⟨e1, by first | exact bz_r1 (by rw [wk, c118]) | exact bz_r0 (by rw [wk]; exact fun z => c118 (Option.some.inj z))⟩
    · exact absurd (by omega) c53 --end
  | cons x xs ih =>
    intro hc vis k p hp hk e3 e5 ev e1
    simp only [List.length_cons] at hk e5
    have e50 := e5 0 (by omega)
    simp only [Nat.add_zero, List.getD_cons_zero] at e50
    refine V_iload6 dX2_isWay_47 ?_
    refine V_iload3 dX2_isWay_49 ?_
    refine V_iload4 dX2_isWay_50 ?_
    first | refine V_iadd_n dX2_isWay_52 ?_ | refine V_iadd dX2_isWay_52 ?_
    first | refine V_icmp_ge_n 112 dX2_isWay_53 (by decide) (by omega) (by omega) (fun c53 => ?_) (fun c53 => ?_) | refine V_icmp_ge 112 dX2_isWay_53 (by decide) (fun c53 => ?_) (fun c53 => ?_)
    · exact absurd c53 (by omega) --end
    · refine V_aload2 dX2_isWay_56 ?_
      refine V_iload6 dX2_isWay_57 ?_
      refine V_iaload (by assumption) (by assumption) (by omega) rfl (by first | assumption | omega) dX2_isWay_59 ?_
      rw [e50]
      refine kX2_60 (m_X5_isDirection _ _ _) (rOK_d (by decide) (by decide)) (Nat.le_of_ble_eq_true rfl) dX2_isWay_60 (fun r60 h60 hq60 => ?_)
      obtain ⟨e_, rfl⟩ := hq60
      replace e_ := e_.symm
      subst e_
      first | refine V_if_eq_z 78 dX2_isWay_63 (by decide) (fun c63 => ?_) (fun c63 => ?_) | refine V_if_eq_n 78 dX2_isWay_63 (by decide) (by omega) (fun c63 => ?_) (fun c63 => ?_) | refine V_if_eq 78 dX2_isWay_63 (by decide) (fun c63 => ?_) (fun c63 => ?_)
      · refine V_iconst (-1) dX2_isWay_78 (by decide) ?_
        refine V_istore5 dX2_isWay_79 (by decide) rfl ?_
        refine V_iload5 dX2_isWay_81 ?_
        first | refine V_if_lt_n 96 dX2_isWay_83 (by decide) (by omega) (fun c83 => ?_) (fun c83 => ?_) | refine V_if_lt 96 dX2_isWay_83 (by decide) (fun c83 => ?_) (fun c83 => ?_)
        · refine V_iconst (nI 0) dX2_isWay_96 (by decide) ?_
          refine V_zreti dX2_isWay_97 (by first | exact bz_01 | exact nI_01 (Or.inl rfl) | exact nI_01 (Or.inr rfl) | assumption) ?_
          exact ⟨e1, bz_r0 (by rw [wk_bad c63]; exact nn_some)⟩
        · exact absurd (by decide) c83 --end
      · obtain ⟨d, hd, rfl⟩ := (inR_iff (by decide)).mp c63
        refine V_iload5 dX2_isWay_66 ?_
        refine V_aload2 dX2_isWay_68 ?_
        refine V_iload6 dX2_isWay_69 ?_
        refine V_iaload (by assumption) (by assumption) (by omega) rfl (by first | assumption | omega) dX2_isWay_71 ?_
        rw [e50]
        refine kX2_39 (m_X5_beside _ _ _ _ (by first | assumption | omega) (by first | assumption | omega)) (rOK_d (by decide) (by decide)) (Nat.le_of_ble_eq_true rfl) dX2_isWay_72 (fun r72 h72 hq72 => ?_)
        obtain ⟨e_, rfl⟩ := hq72
        replace e_ := e_.symm
        subst e_
        cases e : nb p d with
        | none =>
          simp only [oI]
          refine V_goto 79 dX2_isWay_75 (by decide) ?_
          refine V_istore5 dX2_isWay_79 (by decide) rfl ?_
          refine V_iload5 dX2_isWay_81 ?_
          first | refine V_if_lt_n 96 dX2_isWay_83 (by decide) (by omega) (fun c83 => ?_) (fun c83 => ?_) | refine V_if_lt 96 dX2_isWay_83 (by decide) (fun c83 => ?_) (fun c83 => ?_)
          · refine V_iconst (nI 0) dX2_isWay_96 (by decide) ?_
            refine V_zreti dX2_isWay_97 (by first | exact bz_01 | exact nI_01 (Or.inl rfl) | exact nI_01 (Or.inr rfl) | assumption) ?_
            exact ⟨e1, bz_r0 (by rw [wk_step hd, e]; exact nn_some)⟩
          · exact absurd (by decide) c83 --end
        | some q =>
          have hq := nb_lt hp e
          simp only [oI]
          refine V_goto 79 dX2_isWay_75 (by decide) ?_
          refine V_istore5 dX2_isWay_79 (by decide) rfl ?_
          refine V_iload5 dX2_isWay_81 ?_
          first | refine V_if_lt_n 96 dX2_isWay_83 (by decide) (by omega) (fun c83 => ?_) (fun c83 => ?_) | refine V_if_lt 96 dX2_isWay_83 (by decide) (fun c83 => ?_) (fun c83 => ?_)
          · exact c83.elim --end
          · refine V_aload0 dX2_isWay_86 ?_
            refine gX2_22 dX2_isWay_87 ?_
            refine V_iload5 dX2_isWay_90 ?_
            refine V_baload (by decide) aZ_11 (by decide) rfl (by first | assumption | omega) dX2_isWay_92 ?_
            rw [ev q hq]
            first | refine V_if_eq_z 98 dX2_isWay_93 (by decide) (fun c93 => ?_) (fun c93 => ?_) | refine V_if_eq_n 98 dX2_isWay_93 (by decide) (by omega) (fun c93 => ?_) (fun c93 => ?_) | refine V_if_eq 98 dX2_isWay_93 (by decide) (fun c93 => ?_) (fun c93 => ?_)
            · refine V_aload0 dX2_isWay_98 ?_
              refine gX2_22 dX2_isWay_99 ?_
              refine V_iload5 dX2_isWay_102 ?_
              refine V_iconst (nI 1) dX2_isWay_104 (by decide) ?_
              refine V_bastore (by decide) aZ_11 (by decide) rfl (by first | assumption | omega) (by first | exact bz_01 | exact nI_01 (Or.inl rfl) | exact nI_01 (Or.inr rfl) | assumption) dX2_isWay_105 ?_
              first | refine V_iinc6_n 1 dX2_isWay_106 (by decide) (by decide) rfl ?_ | refine V_iinc6 (nI 1) dX2_isWay_106 (by decide) (by decide) rfl ?_
              refine V_goto 47 dX2_isWay_109 (by decide) ?_
              rw [show wk sh vis p (nI d :: xs) = wk sh (q :: vis) q xs by rw [wk_step hd, e]; simp only [if_neg c93]]
              refine ih _ (q :: vis) (k + 1) q hq (by omega) ?_ ?_ ?_ (e1.wr _ _ (by decide))
              · rw [wr_c _ _ _ (by omega)]; exact e3
              · intro j hj
                have := e5 (j + 1) (by omega)
                rw [wr_c _ _ _ hc11, show k + 1 + j = k + (j + 1) by omega, this, List.getD_cons_succ]
              · intro t ht
                by_cases z : t = q
                · subst z; rw [wr_s, bz_t (Or.inr List.mem_cons_self)]; decide
                · rw [wr_j _ _ z, ev t ht]
                  exact bz_c (by simp [z])
            · refine V_iconst (nI 0) dX2_isWay_96 (by decide) ?_
              refine V_zreti dX2_isWay_97 (by first | exact bz_01 | exact nI_01 (Or.inl rfl) | exact nI_01 (Or.inr rfl) | assumption) ?_
              exact ⟨e1, bz_r0 (by rw [wk_step hd, e]; simp only [if_pos c93]; exact nn_some)⟩
set_option maxRecDepth 4000 in
theorem m_X2_isWay (G : GE) (h : Mem) (sh : Nat → Bool) (hsh : ∀ p, p < 100 → h 8 p = bz (sh p = true)) (l a gl c i n m : Nat) (xs : List Int32) (hl : l < 12) (ha : a < 100) (hg : gl < 100) (hcm : c ∈ idsA) (hci : isI c m) (hm : m < 2 ^ 31) (him : i + n ≤ m) (hc11 : c ≠ 11) (ea : h (40 + l) 2 = nI a) (eg : h (40 + l) 3 = nI gl) (hx : xs.length = n) (ex : ∀ j, j < n → h c (i + j) = xs.getD j 0) : Ct idsA G yX2_isWay cX2_isWay 7 (some .boolean) (rmD 1) [.ref (ad G 4), .ref (ad G (40 + l)), .ref (ad G c), .int (nI i), .int (nI n)] h (Qi fun r h' => same [11] h h' ∧ r = bz (wk sh [a] a xs = some gl)) := by
  refine Ct.of [some (.ref (ad G 4)), some (.ref (ad G (40 + l))), some (.ref (ad G c)), some (.int (nI i)), some (.int (nI n)), none, none] (by decide) (Nat.le_of_ble_eq_true rfl) (lvE_ok 2 rfl) ?_
  refine V_iconst (nI 0) dX2_isWay_0 (by decide) ?_
  refine V_istore5 dX2_isWay_1 (by decide) rfl ?_
  refine l_X2_isWay_1 G h h sh hsh _ l c i n 0 (by decide) same.rf (fun _ z => absurd z (Nat.not_lt_zero _)) (fun hc e1 e2 => ?_)
  refine V_aload1 dX2_isWay_30 ?_
  refine gX2_55 (by first | assumption | omega) dX2_isWay_31 ?_
  rw [e1.at _ _ (by first | (simp; done) | (simp; omega)), ea]
  refine V_istore5 dX2_isWay_34 (by decide) rfl ?_
  refine V_aload0 dX2_isWay_36 ?_
  refine gX2_22 dX2_isWay_37 ?_
  refine V_iload5 dX2_isWay_40 ?_
  refine V_iconst (nI 1) dX2_isWay_42 (by decide) ?_
  refine V_bastore (by decide) aZ_11 (by decide) rfl (by first | assumption | omega) (by first | exact bz_01 | exact nI_01 (Or.inl rfl) | exact nI_01 (Or.inr rfl) | assumption) dX2_isWay_43 ?_
  refine V_iload3 dX2_isWay_44 ?_
  refine V_istore6 dX2_isWay_45 (by decide) rfl ?_
  refine l_X2_isWay_2 G h sh l gl c i n m hl hg hcm hci hm him hc11 xs _ [a] i a ha (by rw [hx]) ?_ ?_ ?_ (e1.wr _ _ (by decide))
  · rw [wr_c _ _ _ (by omega), e1.at _ _ (by first | (simp; done) | (simp; omega))]; exact eg
  · intro j hj
    rw [wr_c _ _ _ hc11, e1.at _ _ (by simpa using hc11)]; exact ex j (by omega)
  · intro q hq
    by_cases z : q = a
    · subst z; rw [wr_s, bz_t (Or.inr List.mem_cons_self)]; decide
    · rw [wr_j _ _ z, e2 q hq]
      exact bz_c (by simp [z])
set_option maxRecDepth 4000 in
theorem m_X3_isMissing (G : GE) (h : Mem) (i : Nat) (hi : i < 8) : Ct idsA G yX3_isMissing cX3_isMissing 1 (some .boolean) (rmD 0) [.ref (ad G (20 + i))] h (Qi fun r h' => h' = h ∧ r = bz (h (20 + i) 2 = -1)) := by
  refine Ct.of [some (.ref (ad G (20 + i)))] (by decide) (Nat.le_of_ble_eq_true rfl) (lvE_ok 0 rfl) ?_
  refine V_aload0 dX3_isMissing_0 ?_
  refine gX3_15 (by first | assumption | omega) dX3_isMissing_1 ?_
  refine V_iconst (-1) dX3_isMissing_4 (by decide) ?_
  first | refine V_icmp_ne_n 12 dX3_isMissing_5 (by decide) (by omega) (by omega) (fun c5 => ?_) (fun c5 => ?_) | refine V_icmp_ne 12 dX3_isMissing_5 (by decide) (fun c5 => ?_) (fun c5 => ?_)
  · refine V_iconst (nI 0) dX3_isMissing_12 (by decide) ?_
    refine V_zreti dX3_isMissing_13 (by first | exact bz_01 | exact nI_01 (Or.inl rfl) | exact nI_01 (Or.inr rfl) | assumption) ?_
    exact ⟨rfl, by first | exact bz_r1 c5 | exact bz_r0 c5⟩
  · refine V_iconst (nI 1) dX3_isMissing_8 (by decide) ?_
    refine V_goto 13 dX3_isMissing_9 (by decide) ?_
    refine V_zreti dX3_isMissing_13 (by first | exact bz_01 | exact nI_01 (Or.inl rfl) | exact nI_01 (Or.inr rfl) | assumption) ?_
    exact ⟨rfl, by first | exact bz_r1 c5 | exact bz_r0 c5⟩
set_option maxRecDepth 4000 in
theorem m_X3_end (G : GE) (h : Mem) (i : Nat) (hi : i < 8) : Ct idsA G yX3_end cX3_end 1 none (rmD 0) [.ref (ad G (20 + i))] h (Qv fun h' => h' = wr h (20 + i) 2 (-1)) := by
  refine Ct.of [some (.ref (ad G (20 + i)))] (by decide) (Nat.le_of_ble_eq_true rfl) (lvE_ok 0 rfl) ?_
  refine V_aload0 dX3_end_0 ?_
  refine V_iconst (-1) dX3_end_1 (by decide) ?_
  refine pX3_15 (by first | assumption | omega) dX3_end_2 ?_
  refine V_vreti dX3_end_5 ?_
  exact rfl
set_option maxRecDepth 4000 in
theorem m_X3_holds (G : GE) (h : Mem) (i : Nat) (hi : i < 8) (x n : Int32) : Ct idsA G yX3_holds cX3_holds 3 (some .boolean) (rmD 0) [.ref (ad G (20 + i)), .int x, .int n] h (Qi fun r h' => h' = h ∧ r = bz (0 ≤ x ∧ 0 ≤ n ∧ x ≤ h (20 + i) 2 - n)) := by
  refine Ct.of [some (.ref (ad G (20 + i))), some (.int x), some (.int n)] (by decide) (Nat.le_of_ble_eq_true rfl) (lvE_ok 0 rfl) ?_
  refine V_iload1 dX3_holds_0 ?_
  first | refine V_if_lt_n 22 dX3_holds_1 (by decide) (by omega) (fun c1 => ?_) (fun c1 => ?_) | refine V_if_lt 22 dX3_holds_1 (by decide) (fun c1 => ?_) (fun c1 => ?_)
  · refine V_iconst (nI 0) dX3_holds_22 (by decide) ?_
    refine V_zreti dX3_holds_23 (by first | exact bz_01 | exact nI_01 (Or.inl rfl) | exact nI_01 (Or.inr rfl) | assumption) ?_
    exact ⟨rfl, by first | exact bz_r1 ⟨i_nlt c1, i_nlt c5, i_nlt c15⟩ | exact bz_r0 (fun z => i_lt_n c15 z.2.2) | exact bz_r0 (fun z => i_lt_n c5 z.2.1) | exact bz_r0 (fun z => i_lt_n c1 z.1)⟩
  · refine V_iload2 dX3_holds_4 ?_
    first | refine V_if_lt_n 22 dX3_holds_5 (by decide) (by omega) (fun c5 => ?_) (fun c5 => ?_) | refine V_if_lt 22 dX3_holds_5 (by decide) (fun c5 => ?_) (fun c5 => ?_)
    · refine V_iconst (nI 0) dX3_holds_22 (by decide) ?_
      refine V_zreti dX3_holds_23 (by first | exact bz_01 | exact nI_01 (Or.inl rfl) | exact nI_01 (Or.inr rfl) | assumption) ?_
      exact ⟨rfl, by first | exact bz_r1 ⟨i_nlt c1, i_nlt c5, i_nlt c15⟩ | exact bz_r0 (fun z => i_lt_n c15 z.2.2) | exact bz_r0 (fun z => i_lt_n c5 z.2.1) | exact bz_r0 (fun z => i_lt_n c1 z.1)⟩
    · refine V_iload1 dX3_holds_8 ?_
      refine V_aload0 dX3_holds_9 ?_
      refine gX3_15 (by first | assumption | omega) dX3_holds_10 ?_
      refine V_iload2 dX3_holds_13 ?_
      first | refine V_isub_n dX3_holds_14 (by omega) ?_ | refine V_isub dX3_holds_14 ?_
      first | refine V_icmp_gt_n 22 dX3_holds_15 (by decide) (by omega) (by omega) (fun c15 => ?_) (fun c15 => ?_) | refine V_icmp_gt 22 dX3_holds_15 (by decide) (fun c15 => ?_) (fun c15 => ?_)
      · refine V_iconst (nI 0) dX3_holds_22 (by decide) ?_
        refine V_zreti dX3_holds_23 (by first | exact bz_01 | exact nI_01 (Or.inl rfl) | exact nI_01 (Or.inr rfl) | assumption) ?_
        exact ⟨rfl, by first | exact bz_r1 ⟨i_nlt c1, i_nlt c5, i_nlt c15⟩ | exact bz_r0 (fun z => i_lt_n c15 z.2.2) | exact bz_r0 (fun z => i_lt_n c5 z.2.1) | exact bz_r0 (fun z => i_lt_n c1 z.1)⟩
      · refine V_iconst (nI 1) dX3_holds_18 (by decide) ?_
        refine V_goto 23 dX3_holds_19 (by decide) ?_
        refine V_zreti dX3_holds_23 (by first | exact bz_01 | exact nI_01 (Or.inl rfl) | exact nI_01 (Or.inr rfl) | assumption) ?_
        exact ⟨rfl, by first | exact bz_r1 ⟨i_nlt c1, i_nlt c5, i_nlt c15⟩ | exact bz_r0 (fun z => i_lt_n c15 z.2.2) | exact bz_r0 (fun z => i_lt_n c5 z.2.1) | exact bz_r0 (fun z => i_lt_n c1 z.1)⟩
def nrw (lane v : Int32) : Int32 := if lane = 0 then v.toInt8.toInt32 else if lane = nI 1 then v.toInt16.toInt32 else v
set_option maxRecDepth 4000 in
theorem m_X3_put (G : GE) (h : Mem) (i : Nat) (hi : i < 8) (j : Nat) (hj : j < 60) (v : Int32) : Ct idsA G yX3_put cX3_put 3 (some .int) (rmD 0) [.ref (ad G (20 + i)), .int (nI j), .int v] h (Qi fun r h' => h' = wr h (30 + i) j (nrw (h (20 + i) 1) v) ∧ r = nrw (h (20 + i) 1) v) := by
  refine Ct.of [some (.ref (ad G (20 + i))), some (.int (nI j)), some (.int v)] (by decide) (Nat.le_of_ble_eq_true rfl) (lvE_ok 0 rfl) ?_
  refine V_aload0 dX3_put_0 ?_
  refine gX3_9 (by first | assumption | omega) dX3_put_1 ?_
  refine V_iload1 dX3_put_4 ?_
  refine V_aload0 dX3_put_5 ?_
  refine gX3_19 (by first | assumption | omega) dX3_put_6 ?_
  first | refine V_if_ne_z 17 dX3_put_9 (by decide) (fun c9 => ?_) (fun c9 => ?_) | refine V_if_ne_n 17 dX3_put_9 (by decide) (by omega) (fun c9 => ?_) (fun c9 => ?_) | refine V_if_ne 17 dX3_put_9 (by decide) (fun c9 => ?_) (fun c9 => ?_)
  · refine V_aload0 dX3_put_17 ?_
    refine gX3_19 (by first | assumption | omega) dX3_put_18 ?_
    refine V_iconst (nI 1) dX3_put_21 (by decide) ?_
    first | refine V_icmp_ne_n 30 dX3_put_22 (by decide) (by omega) (by omega) (fun c22 => ?_) (fun c22 => ?_) | refine V_icmp_ne 30 dX3_put_22 (by decide) (fun c22 => ?_) (fun c22 => ?_)
    · refine V_iload2 dX3_put_30 ?_
      refine V_iastore (mem_items (by first | assumption | omega)) (aI_items (by first | assumption | omega)) (by decide) rfl (by first | assumption | omega) dX3_put_31 ?_
      refine V_aload0 dX3_put_32 ?_
      refine gX3_9 (by first | assumption | omega) dX3_put_33 ?_
      refine V_iload1 dX3_put_36 ?_
      refine V_iaload (mem_items (by first | assumption | omega)) (aI_items (by first | assumption | omega)) (by decide) rfl (by first | assumption | omega) dX3_put_37 ?_
      rw [wr_s]
      refine V_ireti dX3_put_38 ?_
      exact ⟨by first | rw [nrw, if_pos c9] | rw [nrw, if_neg c9, if_pos c22] | rw [nrw, if_neg c9, if_neg c22], by first | rw [nrw, if_pos c9] | rw [nrw, if_neg c9, if_pos c22] | rw [nrw, if_neg c9, if_neg c22]⟩
    · refine V_iload2 dX3_put_25 ?_
      refine V_i2s dX3_put_26 ?_
      refine V_goto 31 dX3_put_27 (by decide) ?_
      refine V_iastore (mem_items (by first | assumption | omega)) (aI_items (by first | assumption | omega)) (by decide) rfl (by first | assumption | omega) dX3_put_31 ?_
      refine V_aload0 dX3_put_32 ?_
      refine gX3_9 (by first | assumption | omega) dX3_put_33 ?_
      refine V_iload1 dX3_put_36 ?_
      refine V_iaload (mem_items (by first | assumption | omega)) (aI_items (by first | assumption | omega)) (by decide) rfl (by first | assumption | omega) dX3_put_37 ?_
      rw [wr_s]
      refine V_ireti dX3_put_38 ?_
      exact ⟨by first | rw [nrw, if_pos c9] | rw [nrw, if_neg c9, if_pos c22] | rw [nrw, if_neg c9, if_neg c22], by first | rw [nrw, if_pos c9] | rw [nrw, if_neg c9, if_pos c22] | rw [nrw, if_neg c9, if_neg c22]⟩
  · refine V_iload2 dX3_put_12 ?_
    refine V_i2b dX3_put_13 ?_
    refine V_goto 31 dX3_put_14 (by decide) ?_
    refine V_iastore (mem_items (by first | assumption | omega)) (aI_items (by first | assumption | omega)) (by decide) rfl (by first | assumption | omega) dX3_put_31 ?_
    refine V_aload0 dX3_put_32 ?_
    refine gX3_9 (by first | assumption | omega) dX3_put_33 ?_
    refine V_iload1 dX3_put_36 ?_
    refine V_iaload (mem_items (by first | assumption | omega)) (aI_items (by first | assumption | omega)) (by decide) rfl (by first | assumption | omega) dX3_put_37 ?_
    rw [wr_s]
    refine V_ireti dX3_put_38 ?_
    exact ⟨by first | rw [nrw, if_pos c9] | rw [nrw, if_neg c9, if_pos c22] | rw [nrw, if_neg c9, if_neg c22], by first | rw [nrw, if_pos c9] | rw [nrw, if_neg c9, if_pos c22] | rw [nrw, if_neg c9, if_neg c22]⟩
set_option maxRecDepth 4000 in
theorem l_X3_begin (G : GE) (h hc : Mem) (i n j : Nat) (ln : Int32) (hi : i < 8) (hn : n ≤ 60) (hj : j ≤ n) (e1 : same [20 + i, 30 + i] h hc) (e2 : hc (20 + i) 1 = ln) (e3 : hc (20 + i) 2 = nI n) (e4 : ∀ j', j' < j → hc (30 + i) j' = nI 0) : V idsA G RX3 cX3_begin 4 none (rmD 0) 12 [some (.ref (ad G (20 + i))), some (.int ln), some (.int (nI n)), some (.int (nI j))] [] hc (Qv (fun h' => same [20 + i, 30 + i] h h' ∧ h' (20 + i) 1 = ln ∧ h' (20 + i) 2 = nI n ∧ ∀ j, j < n → h' (30 + i) j = nI 0)) := by
  induction hm : n - j using Nat.strongRecOn generalizing hc j with
  | _ m ih =>
    subst hm
    refine V_iload3 dX3_begin_12 ?_
    refine V_iload2 dX3_begin_13 ?_
    first | refine V_icmp_ge_n 30 dX3_begin_14 (by decide) (by omega) (by omega) (fun c14 => ?_) (fun c14 => ?_) | refine V_icmp_ge 30 dX3_begin_14 (by decide) (fun c14 => ?_) (fun c14 => ?_)
    · refine V_vreti dX3_begin_30 ?_
      obtain rfl : j = n := by omega
      exact ⟨e1, e2, e3, e4⟩
    · refine V_aload0 dX3_begin_17 ?_
      refine gX3_9 (by first | assumption | omega) dX3_begin_18 ?_
      refine V_iload3 dX3_begin_21 ?_
      refine V_iconst (nI 0) dX3_begin_22 (by decide) ?_
      refine V_iastore (mem_items (by first | assumption | omega)) (aI_items (by first | assumption | omega)) (by decide) rfl (by first | assumption | omega) dX3_begin_23 ?_
      first | refine V_iinc3_n 1 dX3_begin_24 (by decide) (by decide) rfl ?_ | refine V_iinc3 (nI 1) dX3_begin_24 (by decide) (by decide) rfl ?_
      refine V_goto 12 dX3_begin_27 (by decide) ?_
      exact ih _ (by omega) _ (j + 1) (by omega) (e1.wr _ _ (by simp)) (by rw [wr_c _ _ _ (by omega)]; exact e2) (by rw [wr_c _ _ _ (by omega)]; exact e3) (lt_s (fun j' h1 => by rw [wr_j _ _ (by omega)]; exact e4 j' h1) (wr_s _ _ _ _)) rfl
set_option maxRecDepth 4000 in
theorem m_X3_begin (G : GE) (h : Mem) (i n : Nat) (ln : Int32) (hi : i < 8) (hn : n ≤ 60) : Ct idsA G yX3_begin cX3_begin 4 none (rmD 0) [.ref (ad G (20 + i)), .int ln, .int (nI n)] h (Qv fun h' => same [20 + i, 30 + i] h h' ∧ h' (20 + i) 1 = ln ∧ h' (20 + i) 2 = nI n ∧ ∀ j, j < n → h' (30 + i) j = nI 0) := by
  refine Ct.of [some (.ref (ad G (20 + i))), some (.int ln), some (.int (nI n)), none] (by decide) (Nat.le_of_ble_eq_true rfl) (lvE_ok 1 rfl) ?_
  refine V_aload0 dX3_begin_0 ?_
  refine V_iload1 dX3_begin_1 ?_
  refine pX3_19 (by first | assumption | omega) dX3_begin_2 ?_
  refine V_aload0 dX3_begin_5 ?_
  refine V_iload2 dX3_begin_6 ?_
  refine pX3_15 (by first | assumption | omega) dX3_begin_7 ?_
  refine V_iconst (nI 0) dX3_begin_10 (by decide) ?_
  refine V_istore3 dX3_begin_11 (by decide) rfl ?_
  exact l_X3_begin G h _ i n 0 ln hi hn (Nat.zero_le _) ((same.rf.wr _ _ (by simp)).wr _ _ (by simp)) (by rw [wr_j _ _ (by decide)]; exact wr_s _ _ _ _) (wr_s _ _ _ _) (fun _ z => absurd z (Nat.not_lt_zero _))
