set_option maxRecDepth 4000 in
theorem m_X6_marked (G : GE) (h : Mem) (S : St) (i : Ok S) (a : RB S h) (l : Nat) (hl : l < nNl S.2.1) (hw : ¬ (nWy S.2.1 l).length = 0) : Ct idsB G yX6_marked cX6_marked 4 (some .int) (rmD 4) [.ref (ad G 100), .int (nI l)] h (Qi fun v h' => v = nI (mkA S.2.1 S.2.2.1 l).1 ∧ RB (S.1, S.2.1, (mkA S.2.1 S.2.2.1 l).2, S.2.2.2) h') := by
  refine Ct.of [some (.ref (ad G 100)), some (.int (nI l)), none, none] (by decide) (Nat.le_of_ble_eq_true rfl) (lvE_ok 2 rfl) ?_
  have hnl := i.1.nl
  refine V_aload0 dX6_marked_0 ?_
  refine V_iload1 dX6_marked_1 ?_
  refine kX6_184 (m_X6_kindOf _ _ S.2.1 i.1 a.2.1 l (by omega) hw) (rOK_d (by decide) (by decide)) (Nat.le_of_ble_eq_true rfl) dX6_marked_2 (fun r2 h2 hq2 => ?_)
  obtain ⟨e_, rfl⟩ := hq2
  replace e_ := e_.symm
  subst e_
  refine V_istore2 dX6_marked_5 (by decide) rfl ?_
  refine V_iload2 dX6_marked_6 ?_
  refine V_iconst (nI 2) dX6_marked_7 (by decide) ?_
  by_cases z0 : swo (nMk S.2.1) l = 0
  · rw [show kdI (nWy S.2.1 l).length (swo (nMk S.2.1) l) = nI 1 from (kd1 hw).mpr z0]
    refine V_icmp_ne 17 dX6_marked_8 (by decide) (fun c8 => ?_) (fun c8 => absurd c8 (by decide))
    refine V_iload2 dX6_marked_17 ?_
    refine V_iconst (nI 3) dX6_marked_18 (by decide) ?_
    refine V_icmp_ne 28 dX6_marked_19 (by decide) (fun c19 => ?_) (fun c19 => absurd c19 (by decide))
    refine V_aload0 dX6_marked_28 ?_
    refine V_bipush (nI 20) dX6_marked_29 (by decide) ?_
    refine kX6_190 (m_X6_began _ _ S a 20) (rOK_d (by decide) (by decide)) (Nat.le_of_ble_eq_true rfl) dX6_marked_31 (fun h31 hq31 => ?_)
    refine V_aload0 dX6_marked_34 ?_
    refine V_iload1 dX6_marked_35 ?_
    refine kX6_145 (m_X6_ownCost _ _ S.2.1 i.1 hq31.2.1 l (by omega)) (rOK_d (by decide) (by decide)) (Nat.le_of_ble_eq_true rfl) dX6_marked_36 (fun r36 h36 hq36 => ?_)
    obtain ⟨e_, rfl⟩ := hq36
    replace e_ := e_.symm
    subst e_
    refine V_istore3 dX6_marked_39 (by decide) rfl ?_
    refine V_iload2 dX6_marked_40 ?_
    refine V_iconst (nI 2) dX6_marked_41 (by decide) ?_
    refine V_icmp_ne 55 dX6_marked_42 (by decide) (fun c42 => ?_) (fun c42 => absurd c42 (by decide))
    refine V_iload2 dX6_marked_55 ?_
    refine V_iconst (nI 3) dX6_marked_56 (by decide) ?_
    refine V_icmp_ne 70 dX6_marked_57 (by decide) (fun c57 => ?_) (fun c57 => absurd c57 (by decide))
    refine V_iload3 dX6_marked_70 ?_
    refine V_ireti dX6_marked_71 ?_
    rw [mkA, if_pos (show nSw S.2.1 l = 0 from z0)]
    exact ⟨rfl, hq31⟩
  by_cases z1 : swo (nMk S.2.1) l = (nWy S.2.1 l).length
  · rw [show kdI (nWy S.2.1 l).length (swo (nMk S.2.1) l) = nI 2 from (kd2 hw z0).mpr z1]
    refine V_icmp_ne 17 dX6_marked_8 (by decide) (fun c8 => absurd rfl c8) (fun c8 => ?_)
    refine V_aload0 dX6_marked_11 ?_
    refine V_bipush (nI 21) dX6_marked_12 (by decide) ?_
    refine kX6_190 (m_X6_began _ _ S a 21) (rOK_d (by decide) (by decide)) (Nat.le_of_ble_eq_true rfl) dX6_marked_14 (fun h14 hq14 => ?_)
    refine V_iload2 dX6_marked_17 ?_
    refine V_iconst (nI 3) dX6_marked_18 (by decide) ?_
    refine V_icmp_ne 28 dX6_marked_19 (by decide) (fun c19 => ?_) (fun c19 => absurd c19 (by decide))
    refine V_aload0 dX6_marked_28 ?_
    refine V_bipush (nI 20) dX6_marked_29 (by decide) ?_
    refine kX6_190 (m_X6_began _ _ _ hq14 20) (rOK_d (by decide) (by decide)) (Nat.le_of_ble_eq_true rfl) dX6_marked_31 (fun h31 hq31 => ?_)
    refine V_aload0 dX6_marked_34 ?_
    refine V_iload1 dX6_marked_35 ?_
    refine kX6_145 (m_X6_ownCost _ _ S.2.1 i.1 hq31.2.1 l (by omega)) (rOK_d (by decide) (by decide)) (Nat.le_of_ble_eq_true rfl) dX6_marked_36 (fun r36 h36 hq36 => ?_)
    obtain ⟨e_, rfl⟩ := hq36
    replace e_ := e_.symm
    subst e_
    refine V_istore3 dX6_marked_39 (by decide) rfl ?_
    refine V_iload2 dX6_marked_40 ?_
    refine V_iconst (nI 2) dX6_marked_41 (by decide) ?_
    refine V_icmp_ne 55 dX6_marked_42 (by decide) (fun c42 => absurd rfl c42) (fun c42 => ?_)
    refine V_iload3 dX6_marked_45 ?_
    refine V_aload0 dX6_marked_46 ?_
    refine V_iload1 dX6_marked_47 ?_
    refine kX6_193 (m_X6_sized _ _ (lvS (lvS S 21) 20) i hq31 l hl hw) (rOK_d (by decide) (by decide)) (Nat.le_of_ble_eq_true rfl) dX6_marked_48 (fun r48 h48 hq48 => ?_)
    obtain ⟨rfl, q2⟩ := hq48
    first | refine V_iadd_n dX6_marked_51 ?_ | refine V_iadd dX6_marked_51 ?_
    refine V_goto 71 dX6_marked_52 (by decide) ?_
    refine V_ireti dX6_marked_71 ?_
    rw [mkA, if_neg (show ¬ nSw S.2.1 l = 0 from z0), if_pos (show nSw S.2.1 l = nLn S.2.1 l from z1)]
    have es : szA S.2.1 (lvT (lvT S.2.2.1 21) 20) l = (2 * nLn S.2.1 l, lvT (lvT (lvT (lvT S.2.2.1 21) 20) 12) 10) := by rw [szA, if_neg (show ¬ nSw S.2.1 l = 0 from z0), if_pos (show nSw S.2.1 l = nLn S.2.1 l from z1)]
    replace q2 : RB (S.1, S.2.1, (szA S.2.1 (lvT (lvT S.2.2.1 21) 20) l).2, S.2.2.2) h48 := q2
    rw [es] at q2
    refine ⟨?_, q2⟩
    show nI (ownC S.2.1 l + (szA S.2.1 (lvT (lvT S.2.2.1 21) 20) l).1) = _
    rw [es]
  rw [show kdI (nWy S.2.1 l).length (swo (nMk S.2.1) l) = nI 3 by unfold kdI; rw [if_neg hw, if_neg z0, if_neg z1]]
  refine V_icmp_ne 17 dX6_marked_8 (by decide) (fun c8 => ?_) (fun c8 => absurd c8 (by decide))
  refine V_iload2 dX6_marked_17 ?_
  refine V_iconst (nI 3) dX6_marked_18 (by decide) ?_
  refine V_icmp_ne 28 dX6_marked_19 (by decide) (fun c19 => absurd rfl c19) (fun c19 => ?_)
  refine V_aload0 dX6_marked_22 ?_
  refine V_bipush (nI 22) dX6_marked_23 (by decide) ?_
  refine kX6_190 (m_X6_began _ _ S a 22) (rOK_d (by decide) (by decide)) (Nat.le_of_ble_eq_true rfl) dX6_marked_25 (fun h25 hq25 => ?_)
  refine V_aload0 dX6_marked_28 ?_
  refine V_bipush (nI 20) dX6_marked_29 (by decide) ?_
  refine kX6_190 (m_X6_began _ _ _ hq25 20) (rOK_d (by decide) (by decide)) (Nat.le_of_ble_eq_true rfl) dX6_marked_31 (fun h31 hq31 => ?_)
  refine V_aload0 dX6_marked_34 ?_
  refine V_iload1 dX6_marked_35 ?_
  refine kX6_145 (m_X6_ownCost _ _ S.2.1 i.1 hq31.2.1 l (by omega)) (rOK_d (by decide) (by decide)) (Nat.le_of_ble_eq_true rfl) dX6_marked_36 (fun r36 h36 hq36 => ?_)
  obtain ⟨e_, rfl⟩ := hq36
  replace e_ := e_.symm
  subst e_
  refine V_istore3 dX6_marked_39 (by decide) rfl ?_
  refine V_iload2 dX6_marked_40 ?_
  refine V_iconst (nI 2) dX6_marked_41 (by decide) ?_
  refine V_icmp_ne 55 dX6_marked_42 (by decide) (fun c42 => ?_) (fun c42 => absurd c42 (by decide))
  refine V_iload2 dX6_marked_55 ?_
  refine V_iconst (nI 3) dX6_marked_56 (by decide) ?_
  refine V_icmp_ne 70 dX6_marked_57 (by decide) (fun c57 => absurd rfl c57) (fun c57 => ?_)
  refine V_iload3 dX6_marked_60 ?_
  refine V_aload0 dX6_marked_61 ?_
  refine V_iload1 dX6_marked_62 ?_
  refine kX6_181 (m_X6_sharing _ _ S.2.1 i.1 hq31.2.1 l (by omega)) (rOK_d (by decide) (by decide)) (Nat.le_of_ble_eq_true rfl) dX6_marked_63 (fun r63 h63 hq63 => ?_)
  obtain ⟨e_, rfl⟩ := hq63
  replace e_ := e_.symm
  subst e_
  first | refine V_iadd_n dX6_marked_66 ?_ | refine V_iadd dX6_marked_66 ?_
  refine V_goto 71 dX6_marked_67 (by decide) ?_
  refine V_ireti dX6_marked_71 ?_
  rw [mkA, if_neg (show ¬ nSw S.2.1 l = 0 from z0), if_neg (show ¬ nSw S.2.1 l = nLn S.2.1 l from z1)]
  exact ⟨rfl, hq31⟩
