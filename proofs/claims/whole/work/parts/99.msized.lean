theorem kd1 {len n : Nat} (h : ¬ len = 0) : kdI len n = nI 1 ↔ n = 0 := by
  unfold kdI
  rw [if_neg h]
  by_cases e : n = 0
  · rw [if_pos e]; exact ⟨fun _ => e, fun _ => rfl⟩
  · rw [if_neg e]
    refine ⟨fun z => ?_, fun z => absurd z e⟩
    split at z <;> exact absurd z (by decide)
theorem kd2 {len n : Nat} (h : ¬ len = 0) (h0 : ¬ n = 0) : kdI len n = nI 2 ↔ n = len := by
  unfold kdI
  rw [if_neg h, if_neg h0]
  by_cases e : n = len
  · rw [if_pos e]; exact ⟨fun _ => e, fun _ => rfl⟩
  · rw [if_neg e]
    exact ⟨fun z => absurd z (by decide), fun z => absurd z e⟩
set_option maxRecDepth 4000 in
theorem m_X6_sized (G : GE) (h : Mem) (S : St) (i : Ok S) (a : RB S h) (l : Nat) (hl : l < nNl S.2.1) (hw : ¬ (nWy S.2.1 l).length = 0) : Ct idsB G yX6_sized cX6_sized 3 (some .int) (rmD 3) [.ref (ad G 100), .int (nI l)] h (Qi fun v h' => v = nI (szA S.2.1 S.2.2.1 l).1 ∧ RB (S.1, S.2.1, (szA S.2.1 S.2.2.1 l).2, S.2.2.2) h') := by
  refine Ct.of [some (.ref (ad G 100)), some (.int (nI l)), none] (by decide) (Nat.le_of_ble_eq_true rfl) (lvE_ok 1 rfl) ?_
  have hnl := i.1.nl
  refine V_aload0 dX6_sized_0 ?_
  refine V_iload1 dX6_sized_1 ?_
  refine kX6_184 (m_X6_kindOf _ _ S.2.1 i.1 a.2.1 l (by omega) hw) (rOK_d (by decide) (by decide)) (Nat.le_of_ble_eq_true rfl) dX6_sized_2 (fun r2 h2 hq2 => ?_)
  obtain ⟨e_, rfl⟩ := hq2
  replace e_ := e_.symm
  subst e_
  refine V_istore2 dX6_sized_5 (by decide) rfl ?_
  refine V_iload2 dX6_sized_6 ?_
  refine V_iconst (nI 1) dX6_sized_7 (by decide) ?_
  refine V_icmp_ne 36 dX6_sized_8 (by decide) (fun c8 => ?_) (fun c8 => ?_)
  · skip
    refine V_iload2 dX6_sized_36 ?_
    refine V_iconst (nI 2) dX6_sized_37 (by decide) ?_
    refine V_icmp_ne 62 dX6_sized_38 (by decide) (fun c38 => ?_) (fun c38 => ?_)
    · skip
      refine V_aload0 dX6_sized_62 ?_
      refine V_bipush (nI 13) dX6_sized_63 (by decide) ?_
      refine kX6_190 (m_X6_began _ _ S a 13) (rOK_d (by decide) (by decide)) (Nat.le_of_ble_eq_true rfl) dX6_sized_65 (fun h65 hq65 => ?_)
      refine V_aload0 dX6_sized_68 ?_
      refine V_bipush (nI 10) dX6_sized_69 (by decide) ?_
      refine kX6_190 (m_X6_began _ _ _ hq65 10) (rOK_d (by decide) (by decide)) (Nat.le_of_ble_eq_true rfl) dX6_sized_71 (fun h71 hq71 => ?_)
      refine V_aload0 dX6_sized_74 ?_
      refine V_bipush (nI 22) dX6_sized_75 (by decide) ?_
      refine kX6_190 (m_X6_began _ _ _ hq71 22) (rOK_d (by decide) (by decide)) (Nat.le_of_ble_eq_true rfl) dX6_sized_77 (fun h77 hq77 => ?_)
      refine V_aload0 dX6_sized_80 ?_
      refine V_bipush (nI 20) dX6_sized_81 (by decide) ?_
      refine kX6_190 (m_X6_began _ _ _ hq77 20) (rOK_d (by decide) (by decide)) (Nat.le_of_ble_eq_true rfl) dX6_sized_83 (fun h83 hq83 => ?_)
      refine V_aload0 dX6_sized_86 ?_
      refine gX6_32 dX6_sized_87 ?_
      refine V_iload1 dX6_sized_90 ?_
      refine V_iaload (by decide) aI_111 (by decide) rfl (by first | assumption | omega) dX6_sized_91 ?_
      rw [(hq83.2.1.2.2.2.2.2.1 l (by omega)).1]
      refine V_aload0 dX6_sized_92 ?_
      refine V_iload1 dX6_sized_93 ?_
      refine kX6_145 (m_X6_ownCost _ _ S.2.1 i.1 hq83.2.1 l (by omega)) (rOK_d (by decide) (by decide)) (Nat.le_of_ble_eq_true rfl) dX6_sized_94 (fun r94 h94 hq94 => ?_)
      obtain ⟨e_, rfl⟩ := hq94
      replace e_ := e_.symm
      subst e_
      first | refine V_iadd_n dX6_sized_97 ?_ | refine V_iadd dX6_sized_97 ?_
      refine V_aload0 dX6_sized_98 ?_
      refine V_iload1 dX6_sized_99 ?_
      refine kX6_181 (m_X6_sharing _ _ S.2.1 i.1 hq83.2.1 l (by omega)) (rOK_d (by decide) (by decide)) (Nat.le_of_ble_eq_true rfl) dX6_sized_100 (fun r100 h100 hq100 => ?_)
      obtain ⟨e_, rfl⟩ := hq100
      replace e_ := e_.symm
      subst e_
      first | refine V_iadd_n dX6_sized_103 ?_ | refine V_iadd dX6_sized_103 ?_
      refine V_ireti dX6_sized_104 ?_
      rw [kd1 hw] at c8
      rw [kd2 hw c8] at c38
      rw [szA, if_neg (show ¬ nSw S.2.1 l = 0 from c8), if_neg (show ¬ nSw S.2.1 l = nLn S.2.1 l from c38)]
      exact ⟨congrArg nI (Nat.add_assoc _ _ _), hq83⟩
    · skip
      refine V_aload0 dX6_sized_41 ?_
      refine V_bipush (nI 12) dX6_sized_42 (by decide) ?_
      refine kX6_190 (m_X6_began _ _ S a 12) (rOK_d (by decide) (by decide)) (Nat.le_of_ble_eq_true rfl) dX6_sized_44 (fun h44 hq44 => ?_)
      refine V_aload0 dX6_sized_47 ?_
      refine V_bipush (nI 10) dX6_sized_48 (by decide) ?_
      refine kX6_190 (m_X6_began _ _ _ hq44 10) (rOK_d (by decide) (by decide)) (Nat.le_of_ble_eq_true rfl) dX6_sized_50 (fun h50 hq50 => ?_)
      refine V_iconst (nI 2) dX6_sized_53 (by decide) ?_
      refine V_aload0 dX6_sized_54 ?_
      refine gX6_32 dX6_sized_55 ?_
      refine V_iload1 dX6_sized_58 ?_
      refine V_iaload (by decide) aI_111 (by decide) rfl (by first | assumption | omega) dX6_sized_59 ?_
      rw [(hq50.2.1.2.2.2.2.2.1 l (by omega)).1]
      first | refine V_imul_n dX6_sized_60 ?_ | refine V_imul dX6_sized_60 ?_
      refine V_ireti dX6_sized_61 ?_
      rw [kd1 hw] at c8
      rw [kd2 hw c8] at c38
      rw [szA, if_neg (show ¬ nSw S.2.1 l = 0 from c8), if_pos (show nSw S.2.1 l = nLn S.2.1 l from c38)]
      exact ⟨rfl, hq50⟩
  · skip
    refine V_aload0 dX6_sized_11 ?_
    refine V_bipush (nI 11) dX6_sized_12 (by decide) ?_
    refine kX6_190 (m_X6_began _ _ S a 11) (rOK_d (by decide) (by decide)) (Nat.le_of_ble_eq_true rfl) dX6_sized_14 (fun h14 hq14 => ?_)
    refine V_aload0 dX6_sized_17 ?_
    refine V_bipush (nI 10) dX6_sized_18 (by decide) ?_
    refine kX6_190 (m_X6_began _ _ _ hq14 10) (rOK_d (by decide) (by decide)) (Nat.le_of_ble_eq_true rfl) dX6_sized_20 (fun h20 hq20 => ?_)
    refine V_aload0 dX6_sized_23 ?_
    refine gX6_32 dX6_sized_24 ?_
    refine V_iload1 dX6_sized_27 ?_
    refine V_iaload (by decide) aI_111 (by decide) rfl (by first | assumption | omega) dX6_sized_28 ?_
    rw [(hq20.2.1.2.2.2.2.2.1 l (by omega)).1]
    refine V_aload0 dX6_sized_29 ?_
    refine V_iload1 dX6_sized_30 ?_
    refine kX6_160 (m_X6_detourOf _ _ S.2.1 i.1 hq20.2.1 l hl) (rOK_d (by decide) (by decide)) (Nat.le_of_ble_eq_true rfl) dX6_sized_31 (fun r31 h31 hq31 => ?_)
    obtain ⟨e_, rfl⟩ := hq31
    replace e_ := e_.symm
    subst e_
    first | refine V_iadd_n dX6_sized_34 ?_ | refine V_iadd dX6_sized_34 ?_
    refine V_ireti dX6_sized_35 ?_
    rw [kd1 hw] at c8
    rw [szA, if_pos (show nSw S.2.1 l = 0 from c8)]
    exact ⟨rfl, hq20⟩
