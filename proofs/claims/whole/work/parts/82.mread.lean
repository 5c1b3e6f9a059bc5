theorem nb_h3 {p d q : Nat} (h : nb p d = some q) (e : d = 3) : 0 < p % 10 := by
  subst e
  simp [nb] at h
  omega
theorem nb_h0 {p d q : Nat} (h : nb p d = some q) (e : d = 0) : 10 ≤ p := by
  subst e
  simp [nb] at h
  omega
theorem prc_in {b s j : Nat} (hb : 1 ≤ b) (h2 : b ≤ 100) (hs : s ≤ 50) (hj : j ≤ 12) : (nI 1 ≤ nI b - nI (j * s) → nI b - nI (j * s) = nI (prc b s j)) ∧ (¬ nI 1 ≤ nI b - nI (j * s) → nI 1 = nI (prc b s j)) := by
  have hjs : j * s ≤ 600 := Nat.le_trans (Nat.mul_le_mul hj hs) (by decide)
  have key : nI 1 ≤ nI b - nI (j * s) ↔ j * s + 1 ≤ b := by
    rw [fa_le, pk_sub_toInt (by omega) (by omega), nI_toInt (by decide)]
    omega
  rw [key]
  unfold prc
  refine ⟨fun z => ?_, fun z => congrArg nI (by omega)⟩
  rw [pk_sub (by omega)]
  exact congrArg nI (by omega)
theorem popc_0 {x : Nat} (h : x < 4096) : ¬ 0 < popc x ↔ x = 0 := by
  have := popc_zero h
  omega
theorem or_0 {a b : Nat} : a ||| b = 0 ↔ a = 0 ∧ b = 0 := Nat.or_eq_zero_iff
set_option maxRecDepth 4000 in
theorem l_X6_widthOf (G : GE) (h : Mem) (N : Ng) (i : Inv N) (r : RBn N h) (s : Nat) (hs : s < 180) (k : Nat) (hk : k ≤ nNl N) : V idsB G RX6 cX6_widthOf 4 (some .int) (rmD 0) 4 [some (.ref (ad G 100)), some (.int (nI s)), some (.int (nI (fb_ct (fun l => nOn N l (phi s)) k))), some (.int (nI k))] [] h (Qi (fun v h' => h' = h ∧ v = nI (popc (nMk N (phi s))))) := by
  induction hn : nNl N - k using Nat.strongRecOn generalizing k with
  | _ n ih =>
    subst hn
    have hnl := i.nl
    refine V_iload3 dX6_widthOf_4 ?_
    refine V_aload0 dX6_widthOf_5 ?_
    refine gX6_102 dX6_widthOf_6 ?_
    rw [r.2.1]
    first | refine V_icmp_ge_n 41 dX6_widthOf_9 (by decide) (by omega) (by omega) (fun c9 => ?_) (fun c9 => ?_) | refine V_icmp_ge 41 dX6_widthOf_9 (by decide) (fun c9 => ?_) (fun c9 => ?_)
    · refine V_iload2 dX6_widthOf_41 ?_
      refine V_ireti dX6_widthOf_42 ?_
      obtain rfl : k = nNl N := by omega
      exact ⟨rfl, by rw [wid_eq i]⟩
    · refine V_iload2 dX6_widthOf_12 ?_
      refine V_aload0 dX6_widthOf_13 ?_
      refine gX6_38 dX6_widthOf_14 ?_
      refine V_sipush (nI 180) dX6_widthOf_17 (by decide) ?_
      refine V_iload3 dX6_widthOf_20 ?_
      first | refine V_imul_n dX6_widthOf_21 ?_ | refine V_imul dX6_widthOf_21 ?_
      refine V_iload1 dX6_widthOf_22 ?_
      first | refine V_iadd_n dX6_widthOf_23 ?_ | refine V_iadd dX6_widthOf_23 ?_
      refine V_baload (by decide) aZ_113 (by decide) rfl (by first | assumption | omega) dX6_widthOf_24 ?_
      rw [r.2.2.2.2.2.2.1 k (by omega) s hs]
      first | refine V_if_eq_z 32 dX6_widthOf_25 (by decide) (fun c25 => ?_) (fun c25 => ?_) | refine V_if_eq_n 32 dX6_widthOf_25 (by decide) (by omega) (fun c25 => ?_) (fun c25 => ?_) | refine V_if_eq 32 dX6_widthOf_25 (by decide) (fun c25 => ?_) (fun c25 => ?_)
      · refine V_iconst (nI 0) dX6_widthOf_32 (by decide) ?_
        first | refine V_iadd_n dX6_widthOf_33 ?_ | refine V_iadd dX6_widthOf_33 ?_
        refine V_istore2 dX6_widthOf_34 (by decide) rfl ?_
        first | refine V_iinc3_n 1 dX6_widthOf_35 (by decide) (by decide) rfl ?_ | refine V_iinc3 (nI 1) dX6_widthOf_35 (by decide) (by decide) rfl ?_
        refine V_goto 4 dX6_widthOf_38 (by decide) ?_
        first
        | rw [ct_t (p := (fun l => nOn N l (phi s))) (n := k) c25]
        | rw [Nat.add_zero, ct_f (p := (fun l => nOn N l (phi s))) (n := k) (Bool.eq_false_iff.mpr c25)]
        exact ih _ (by omega) (k + 1) (by omega) rfl
      · refine V_iconst (nI 1) dX6_widthOf_28 (by decide) ?_
        refine V_goto 33 dX6_widthOf_29 (by decide) ?_
        first | refine V_iadd_n dX6_widthOf_33 ?_ | refine V_iadd dX6_widthOf_33 ?_
        refine V_istore2 dX6_widthOf_34 (by decide) rfl ?_
        first | refine V_iinc3_n 1 dX6_widthOf_35 (by decide) (by decide) rfl ?_ | refine V_iinc3 (nI 1) dX6_widthOf_35 (by decide) (by decide) rfl ?_
        refine V_goto 4 dX6_widthOf_38 (by decide) ?_
        first
        | rw [ct_t (p := (fun l => nOn N l (phi s))) (n := k) c25]
        | rw [Nat.add_zero, ct_f (p := (fun l => nOn N l (phi s))) (n := k) (Bool.eq_false_iff.mpr c25)]
        exact ih _ (by omega) (k + 1) (by omega) rfl
set_option maxRecDepth 4000 in
theorem m_X6_widthOf (G : GE) (h : Mem) (N : Ng) (i : Inv N) (r : RBn N h) (s : Nat) (hs : s < 180) : Ct idsB G yX6_widthOf cX6_widthOf 4 (some .int) (rmD 0) [.ref (ad G 100), .int (nI s)] h (Qi fun v h' => h' = h ∧ v = nI (popc (nMk N (phi s)))) := by
  refine Ct.of [some (.ref (ad G 100)), some (.int (nI s)), none, none] (by decide) (Nat.le_of_ble_eq_true rfl) (lvE_ok 2 rfl) ?_
  refine V_iconst (nI 0) dX6_widthOf_0 (by decide) ?_
  refine V_istore2 dX6_widthOf_1 (by decide) rfl ?_
  refine V_iconst (nI 0) dX6_widthOf_2 (by decide) ?_
  refine V_istore3 dX6_widthOf_3 (by decide) rfl ?_
  exact l_X6_widthOf G h N i r s hs 0 (Nat.zero_le _)
set_option maxRecDepth 4000 in
theorem m_X6_costOf (G : GE) (h : Mem) (N : Ng) (i : Inv N) (r : RBn N h) (w : Nat) (hw : w ≤ 12) : Ct idsB G yX6_costOf cX6_costOf 3 (some .int) (rmD 0) [.ref (ad G 100), .int (nI w)] h (Qi fun v h' => h' = h ∧ v = nI (nPr N w)) := by
  refine Ct.of [some (.ref (ad G 100)), some (.int (nI w)), none] (by decide) (Nat.le_of_ble_eq_true rfl) (lvE_ok 1 rfl) ?_
  refine V_aload0 dX6_costOf_0 ?_
  refine gX6_41 dX6_costOf_1 ?_
  refine V_iconst (nI 0) dX6_costOf_4 (by decide) ?_
  refine V_iaload (by decide) aI_114 (by decide) rfl (by first | assumption | omega) dX6_costOf_5 ?_
  rw [r.2.2.2.2.2.2.2.1]
  refine V_iload1 dX6_costOf_6 ?_
  refine V_aload0 dX6_costOf_7 ?_
  refine gX6_41 dX6_costOf_8 ?_
  refine V_iconst (nI 1) dX6_costOf_11 (by decide) ?_
  refine V_iaload (by decide) aI_114 (by decide) rfl (by first | assumption | omega) dX6_costOf_12 ?_
  rw [r.2.2.2.2.2.2.2.2]
  first | refine V_imul_n dX6_costOf_13 ?_ | refine V_imul dX6_costOf_13 ?_
  refine V_isub dX6_costOf_14 ?_
  obtain ⟨-, -, -, -, -, -, -, i1, i2, i3⟩ := i
  have hp := prc_in i1 i2 i3 hw
  refine V_istore2 dX6_costOf_15 (by decide) rfl ?_
  refine V_iload2 dX6_costOf_16 ?_
  refine V_iconst (nI 1) dX6_costOf_17 (by decide) ?_
  first | refine V_icmp_ge_n 25 dX6_costOf_18 (by decide) (by omega) (by omega) (fun c18 => ?_) (fun c18 => ?_) | refine V_icmp_ge 25 dX6_costOf_18 (by decide) (fun c18 => ?_) (fun c18 => ?_)
  · refine V_iload2 dX6_costOf_25 ?_
    refine V_ireti dX6_costOf_26 ?_
    first
    | exact ⟨rfl, hp.1 c18⟩
    | exact ⟨rfl, hp.2 c18⟩
  · refine V_iconst (nI 1) dX6_costOf_21 (by decide) ?_
    refine V_goto 26 dX6_costOf_22 (by decide) ?_
    refine V_ireti dX6_costOf_26 ?_
    first
    | exact ⟨rfl, hp.1 c18⟩
    | exact ⟨rfl, hp.2 c18⟩
set_option maxRecDepth 4000 in
theorem l_X6_pointOn (G : GE) (h : Mem) (N : Ng) (i : Inv N) (r : RBn N h) (p : Nat) (hp : p < 100) (k : Nat) (hk : k ≤ nNp N) : V idsB G RX6 cX6_pointOn 4 (some .int) (rmD 0) 5 [some (.ref (ad G 100)), some (.int (nI p)), some (.int (oI (ptF (nPp N) k p) (-1000000))), some (.int (nI k))] [] h (Qi (fun v h' => h' = h ∧ v = oI (ptF (nPp N) (nNp N) p) (-1000000))) := by
  induction hn : nNp N - k using Nat.strongRecOn generalizing k with
  | _ n ih =>
    subst hn
    have hnp := i.np
    refine V_iload3 dX6_pointOn_5 ?_
    refine V_aload0 dX6_pointOn_6 ?_
    refine gX6_94 dX6_pointOn_7 ?_
    rw [r.1]
    first | refine V_icmp_ge_n 35 dX6_pointOn_10 (by decide) (by omega) (by omega) (fun c10 => ?_) (fun c10 => ?_) | refine V_icmp_ge 35 dX6_pointOn_10 (by decide) (fun c10 => ?_) (fun c10 => ?_)
    · refine V_iload2 dX6_pointOn_35 ?_
      refine V_ireti dX6_pointOn_36 ?_
      obtain rfl : k = nNp N := by omega
      exact ⟨rfl, rfl⟩
    · refine V_aload0 dX6_pointOn_13 ?_
      refine gX6_23 dX6_pointOn_14 ?_
      refine V_iload3 dX6_pointOn_17 ?_
      refine V_iaload (by decide) aI_107 (by decide) rfl (by first | assumption | omega) dX6_pointOn_18 ?_
      rw [r.2.2.1 k (by omega)]
      have hpk := (i.pt (k := k) (by omega)).1
      refine V_iload1 dX6_pointOn_19 ?_
      first | refine V_icmp_ne_n 27 dX6_pointOn_20 (by decide) (by omega) (by omega) (fun c20 => ?_) (fun c20 => ?_) | refine V_icmp_ne 27 dX6_pointOn_20 (by decide) (fun c20 => ?_) (fun c20 => ?_)
      · refine V_iload2 dX6_pointOn_27 ?_
        refine V_istore2 dX6_pointOn_28 (by decide) rfl ?_
        first | refine V_iinc3_n 1 dX6_pointOn_29 (by decide) (by decide) rfl ?_ | refine V_iinc3 (nI 1) dX6_pointOn_29 (by decide) (by decide) rfl ?_
        refine V_goto 5 dX6_pointOn_32 (by decide) ?_
        have e : oI (ptF (nPp N) (k + 1) p) (-1000000) = (if nPp N k = p then nI k else oI (ptF (nPp N) k p) (-1000000)) := by
          show oI (if nPp N k = p then some k else ptF (nPp N) k p) (-1000000) = _
          split <;> rfl
        first
        | (rw [if_pos c20] at e; rw [← e])
        | (rw [if_neg c20] at e; rw [← e])
        exact ih _ (by omega) (k + 1) (by omega) rfl
      · refine V_iload3 dX6_pointOn_23 ?_
        refine V_goto 28 dX6_pointOn_24 (by decide) ?_
        refine V_istore2 dX6_pointOn_28 (by decide) rfl ?_
        first | refine V_iinc3_n 1 dX6_pointOn_29 (by decide) (by decide) rfl ?_ | refine V_iinc3 (nI 1) dX6_pointOn_29 (by decide) (by decide) rfl ?_
        refine V_goto 5 dX6_pointOn_32 (by decide) ?_
        have e : oI (ptF (nPp N) (k + 1) p) (-1000000) = (if nPp N k = p then nI k else oI (ptF (nPp N) k p) (-1000000)) := by
          show oI (if nPp N k = p then some k else ptF (nPp N) k p) (-1000000) = _
          split <;> rfl
        first
        | (rw [if_pos c20] at e; rw [← e])
        | (rw [if_neg c20] at e; rw [← e])
        exact ih _ (by omega) (k + 1) (by omega) rfl
set_option maxRecDepth 4000 in
theorem m_X6_pointOn (G : GE) (h : Mem) (N : Ng) (i : Inv N) (r : RBn N h) (p : Nat) (hp : p < 100) : Ct idsB G yX6_pointOn cX6_pointOn 4 (some .int) (rmD 0) [.ref (ad G 100), .int (nI p)] h (Qi fun v h' => h' = h ∧ v = oI (ptF (nPp N) (nNp N) p) (-1000000)) := by
  refine Ct.of [some (.ref (ad G 100)), some (.int (nI p)), none, none] (by decide) (Nat.le_of_ble_eq_true rfl) (lvE_ok 2 rfl) ?_
  refine V_ldc ct_X6_93 dX6_pointOn_0 ?_
  refine V_istore2 dX6_pointOn_2 (by decide) rfl ?_
  refine V_iconst (nI 0) dX6_pointOn_3 (by decide) ?_
  refine V_istore3 dX6_pointOn_4 (by decide) rfl ?_
  exact l_X6_pointOn G h N i r p hp 0 (Nat.zero_le _)
set_option maxRecDepth 4000 in
theorem m_X6_isPoint (G : GE) (h : Mem) (N : Ng) (i : Inv N) (r : RBn N h) (x : Int32) : Ct idsB G yX6_isPoint cX6_isPoint 2 (some .boolean) (rmD 1) [.ref (ad G 100), .int x] h (Qi fun v h' => h' = h ∧ v = bz (inR x (nNp N))) := by
  refine Ct.of [some (.ref (ad G 100)), some (.int x)] (by decide) (Nat.le_of_ble_eq_true rfl) (lvE_ok 0 rfl) ?_
  refine V_iload1 dX6_isPoint_0 ?_
  refine V_i2l dX6_isPoint_1 ?_
  refine V_lconst 0 dX6_isPoint_2 (by decide) ?_
  refine V_aload0 dX6_isPoint_3 ?_
  refine gX6_94 dX6_isPoint_4 ?_
  rw [r.1]
  refine V_iconst (nI 1) dX6_isPoint_7 (by decide) ?_
  refine V_isub dX6_isPoint_8 ?_
  refine V_i2l dX6_isPoint_9 ?_
  refine kX6_72 (m_X6_in _ _ _ _ _) (rOK_d (by decide) (by decide)) (Nat.le_of_ble_eq_true rfl) dX6_isPoint_10 (fun r10 h10 hq10 => ?_)
  obtain ⟨e_, rfl⟩ := hq10
  replace e_ := e_.symm
  subst e_
  rw [bz_c (in_e _ (n := nNp N) (nI12 i.np))]
  refine V_zreti dX6_isPoint_13 (by first | exact bz_01 | exact nI_01 (Or.inl rfl) | exact nI_01 (Or.inr rfl) | assumption) ?_
  exact ⟨rfl, rfl⟩
set_option maxRecDepth 4000 in
theorem m_X6_isLine (G : GE) (h : Mem) (N : Ng) (i : Inv N) (r : RBn N h) (x : Int32) : Ct idsB G yX6_isLine cX6_isLine 2 (some .boolean) (rmD 1) [.ref (ad G 100), .int x] h (Qi fun v h' => h' = h ∧ v = bz (inR x (nNl N))) := by
  refine Ct.of [some (.ref (ad G 100)), some (.int x)] (by decide) (Nat.le_of_ble_eq_true rfl) (lvE_ok 0 rfl) ?_
  refine V_iload1 dX6_isLine_0 ?_
  refine V_i2l dX6_isLine_1 ?_
  refine V_lconst 0 dX6_isLine_2 (by decide) ?_
  refine V_aload0 dX6_isLine_3 ?_
  refine gX6_102 dX6_isLine_4 ?_
  rw [r.2.1]
  refine V_iconst (nI 1) dX6_isLine_7 (by decide) ?_
  refine V_isub dX6_isLine_8 ?_
  refine V_i2l dX6_isLine_9 ?_
  refine kX6_72 (m_X6_in _ _ _ _ _) (rOK_d (by decide) (by decide)) (Nat.le_of_ble_eq_true rfl) dX6_isLine_10 (fun r10 h10 hq10 => ?_)
  obtain ⟨e_, rfl⟩ := hq10
  replace e_ := e_.symm
  subst e_
  rw [bz_c (in_e _ (n := nNl N) (nI12 i.nl))]
  refine V_zreti dX6_isLine_13 (by first | exact bz_01 | exact nI_01 (Or.inl rfl) | exact nI_01 (Or.inr rfl) | assumption) ?_
  exact ⟨rfl, rfl⟩
