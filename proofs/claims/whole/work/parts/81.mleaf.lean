set_option maxRecDepth 4000 in
theorem m_X6_in (G : GE) (h : Mem) (x y z : Int64) : Ct idsB G yX6_in cX6_in 6 (some .boolean) (rmD 0) [.long x, .long y, .long z] h (Qi fun r h' => h' = h ∧ r = bz (y ≤ x ∧ x ≤ z)) := by
  refine Ct.of [some (.long x), none, some (.long y), none, some (.long z), none] (by decide) (Nat.le_of_ble_eq_true rfl) (lvE_ok 0 rfl) ?_
  refine V_lload0 dX6_in_0 ?_
  refine V_lload2 dX6_in_1 ?_
  refine V_lcmp dX6_in_2 ?_
  first | refine V_if_lt_n 17 dX6_in_3 (by decide) (by omega) (fun c3 => ?_) (fun c3 => ?_) | refine V_if_lt 17 dX6_in_3 (by decide) (fun c3 => ?_) (fun c3 => ?_)
  · rw [lg_cmp_lt] at c3
    refine V_iconst (nI 0) dX6_in_17 (by decide) ?_
    refine V_zreti dX6_in_18 (by first | exact bz_01 | exact nI_01 (Or.inl rfl) | exact nI_01 (Or.inr rfl) | assumption) ?_
    first
    | exact ⟨rfl, bz_r1 ⟨Int64.not_lt.mp c3, Int64.not_lt.mp c10⟩⟩
    | exact ⟨rfl, bz_r0 (fun z => Int64.not_lt.mpr z.2 c10)⟩
    | exact ⟨rfl, bz_r0 (fun z => Int64.not_lt.mpr z.1 c3)⟩
  · rw [lg_cmp_lt] at c3
    refine V_lload0 dX6_in_6 ?_
    refine V_lload4 dX6_in_7 ?_
    refine V_lcmp dX6_in_9 ?_
    first | refine V_if_gt_n 17 dX6_in_10 (by decide) (by omega) (fun c10 => ?_) (fun c10 => ?_) | refine V_if_gt 17 dX6_in_10 (by decide) (fun c10 => ?_) (fun c10 => ?_)
    · rw [lg_cmp_gt] at c10
      refine V_iconst (nI 0) dX6_in_17 (by decide) ?_
      refine V_zreti dX6_in_18 (by first | exact bz_01 | exact nI_01 (Or.inl rfl) | exact nI_01 (Or.inr rfl) | assumption) ?_
      first
      | exact ⟨rfl, bz_r1 ⟨Int64.not_lt.mp c3, Int64.not_lt.mp c10⟩⟩
      | exact ⟨rfl, bz_r0 (fun z => Int64.not_lt.mpr z.2 c10)⟩
      | exact ⟨rfl, bz_r0 (fun z => Int64.not_lt.mpr z.1 c3)⟩
    · rw [lg_cmp_gt] at c10
      refine V_iconst (nI 1) dX6_in_13 (by decide) ?_
      refine V_goto 18 dX6_in_14 (by decide) ?_
      refine V_zreti dX6_in_18 (by first | exact bz_01 | exact nI_01 (Or.inl rfl) | exact nI_01 (Or.inr rfl) | assumption) ?_
      first
      | exact ⟨rfl, bz_r1 ⟨Int64.not_lt.mp c3, Int64.not_lt.mp c10⟩⟩
      | exact ⟨rfl, bz_r0 (fun z => Int64.not_lt.mpr z.2 c10)⟩
      | exact ⟨rfl, bz_r0 (fun z => Int64.not_lt.mpr z.1 c3)⟩
set_option maxRecDepth 4000 in
theorem m_X6_isSheet (G : GE) (h : Mem) (x : Int32) : Ct idsB G yX6_isSheet cX6_isSheet 1 (some .boolean) (rmD 1) [.int x] h (Qi fun r h' => h' = h ∧ r = bz (inR x 8)) := by
  refine Ct.of [some (.int x)] (by decide) (Nat.le_of_ble_eq_true rfl) (lvE_ok 0 rfl) ?_
  refine V_iload0 dX6_isSheet_0 ?_
  refine V_i2l dX6_isSheet_1 ?_
  refine V_lconst 0 dX6_isSheet_2 (by decide) ?_
  refine V_ldc2_w ct_X6_70 dX6_isSheet_3 ?_
  refine kX6_72 (m_X6_in _ _ _ _ _) (rOK_d (by decide) (by decide)) (Nat.le_of_ble_eq_true rfl) dX6_isSheet_6 (fun r6 h6 hq6 => ?_)
  obtain ⟨e_, rfl⟩ := hq6
  replace e_ := e_.symm
  subst e_
  rw [bz_c (in_e _ (n := 8) (by decide))]
  refine V_zreti dX6_isSheet_9 (by first | exact bz_01 | exact nI_01 (Or.inl rfl) | exact nI_01 (Or.inr rfl) | assumption) ?_
  exact ⟨rfl, rfl⟩
set_option maxRecDepth 4000 in
theorem m_X6_isOn (G : GE) (h : Mem) (x y : Int32) : Ct idsB G yX6_isOn cX6_isOn 2 (some .boolean) (rmD 1) [.int x, .int y] h (Qi fun r h' => h' = h ∧ r = bz (inR x 10 ∧ inR y 10)) := by
  refine Ct.of [some (.int x), some (.int y)] (by decide) (Nat.le_of_ble_eq_true rfl) (lvE_ok 0 rfl) ?_
  refine V_iload0 dX6_isOn_0 ?_
  refine V_i2l dX6_isOn_1 ?_
  refine V_lconst 0 dX6_isOn_2 (by decide) ?_
  refine V_ldc2_w ct_X6_87 dX6_isOn_3 ?_
  refine kX6_72 (m_X6_in _ _ _ _ _) (rOK_d (by decide) (by decide)) (Nat.le_of_ble_eq_true rfl) dX6_isOn_6 (fun r6 h6 hq6 => ?_)
  obtain ⟨e_, rfl⟩ := hq6
  replace e_ := e_.symm
  subst e_
  rw [bz_c (in_e _ (n := 10) (by decide))]
  first | refine V_if_eq_z 28 dX6_isOn_9 (by decide) (fun c9 => ?_) (fun c9 => ?_) | refine V_if_eq_n 28 dX6_isOn_9 (by decide) (by omega) (fun c9 => ?_) (fun c9 => ?_) | refine V_if_eq 28 dX6_isOn_9 (by decide) (fun c9 => ?_) (fun c9 => ?_)
  · refine V_iconst (nI 0) dX6_isOn_28 (by decide) ?_
    refine V_zreti dX6_isOn_29 (by first | exact bz_01 | exact nI_01 (Or.inl rfl) | exact nI_01 (Or.inr rfl) | assumption) ?_
    first
    | exact ⟨rfl, bz_r1 ⟨c9, c21⟩⟩
    | exact ⟨rfl, bz_r0 (fun z => c21 z.2)⟩
    | exact ⟨rfl, bz_r0 (fun z => c9 z.1)⟩
  · refine V_iload1 dX6_isOn_12 ?_
    refine V_i2l dX6_isOn_13 ?_
    refine V_lconst 0 dX6_isOn_14 (by decide) ?_
    refine V_ldc2_w ct_X6_87 dX6_isOn_15 ?_
    refine kX6_72 (m_X6_in _ _ _ _ _) (rOK_d (by decide) (by decide)) (Nat.le_of_ble_eq_true rfl) dX6_isOn_18 (fun r18 h18 hq18 => ?_)
    obtain ⟨e_, rfl⟩ := hq18
    replace e_ := e_.symm
    subst e_
    rw [bz_c (in_e _ (n := 10) (by decide))]
    first | refine V_if_eq_z 28 dX6_isOn_21 (by decide) (fun c21 => ?_) (fun c21 => ?_) | refine V_if_eq_n 28 dX6_isOn_21 (by decide) (by omega) (fun c21 => ?_) (fun c21 => ?_) | refine V_if_eq 28 dX6_isOn_21 (by decide) (fun c21 => ?_) (fun c21 => ?_)
    · refine V_iconst (nI 0) dX6_isOn_28 (by decide) ?_
      refine V_zreti dX6_isOn_29 (by first | exact bz_01 | exact nI_01 (Or.inl rfl) | exact nI_01 (Or.inr rfl) | assumption) ?_
      first
      | exact ⟨rfl, bz_r1 ⟨c9, c21⟩⟩
      | exact ⟨rfl, bz_r0 (fun z => c21 z.2)⟩
      | exact ⟨rfl, bz_r0 (fun z => c9 z.1)⟩
    · refine V_iconst (nI 1) dX6_isOn_24 (by decide) ?_
      refine V_goto 29 dX6_isOn_25 (by decide) ?_
      refine V_zreti dX6_isOn_29 (by first | exact bz_01 | exact nI_01 (Or.inl rfl) | exact nI_01 (Or.inr rfl) | assumption) ?_
      first
      | exact ⟨rfl, bz_r1 ⟨c9, c21⟩⟩
      | exact ⟨rfl, bz_r0 (fun z => c21 z.2)⟩
      | exact ⟨rfl, bz_r0 (fun z => c9 z.1)⟩
set_option maxRecDepth 4000 in
theorem m_X6_found (G : GE) (h : Mem) (f : Nat) : Ct idsB G yX6_found cX6_found 2 (some .int) (rmD 0) [.ref (ad G 100), .int (nI f)] h (Qi fun r h' => h' = wr h 100 1 (nI f) ∧ r = -1000010 - nI f) := by
  refine Ct.of [some (.ref (ad G 100)), some (.int (nI f))] (by decide) (Nat.le_of_ble_eq_true rfl) (lvE_ok 0 rfl) ?_
  refine V_aload0 dX6_found_0 ?_
  refine V_iload1 dX6_found_1 ?_
  refine pX6_66 dX6_found_2 ?_
  refine V_ldc ct_X6_69 dX6_found_5 ?_
  refine V_iload1 dX6_found_7 ?_
  first | refine V_isub_n dX6_found_8 (by omega) ?_ | refine V_isub dX6_found_8 ?_
  refine V_ireti dX6_found_9 ?_
  exact ⟨rfl, rfl⟩
set_option maxRecDepth 4000 in
theorem m_X6_go (G : GE) (h : Mem) (p d : Nat) (hp : p < 100) (hd : d < 4) : Ct idsB G yX6_go cX6_go 4 (some .int) (rmD 2) [.int (nI p), .int (nI d)] h (Qi fun r h' => h' = h ∧ r = oI (nb p d) (-1000000)) := by
  refine Ct.of [some (.int (nI p)), some (.int (nI d)), none, none] (by decide) (Nat.le_of_ble_eq_true rfl) (lvE_ok 2 rfl) ?_
  refine V_iload0 dX6_go_0 ?_
  refine V_bipush (nI 10) dX6_go_1 (by decide) ?_
  first | refine V_irem_n dX6_go_3 (by omega) (by omega) (by omega) ?_ | refine V_irem dX6_go_3 (by decide) ?_
  refine V_iload1 dX6_go_4 ?_
  refine V_iconst (nI 1) dX6_go_5 (by decide) ?_
  first | refine V_icmp_ne_n 13 dX6_go_6 (by decide) (by omega) (by omega) (fun c6 => ?_) (fun c6 => ?_) | refine V_icmp_ne 13 dX6_go_6 (by decide) (fun c6 => ?_) (fun c6 => ?_)
  · refine V_iload1 dX6_go_13 ?_
    refine V_iconst (nI 3) dX6_go_14 (by decide) ?_
    first | refine V_icmp_ne_n 22 dX6_go_15 (by decide) (by omega) (by omega) (fun c15 => ?_) (fun c15 => ?_) | refine V_icmp_ne 22 dX6_go_15 (by decide) (fun c15 => ?_) (fun c15 => ?_)
    · refine V_iconst (nI 0) dX6_go_22 (by decide) ?_
      refine V_iadd dX6_go_23 ?_
      refine V_istore2 dX6_go_24 (by decide) rfl ?_
      refine V_iload0 dX6_go_25 ?_
      refine V_bipush (nI 10) dX6_go_26 (by decide) ?_
      first | refine V_idiv_n dX6_go_28 (by omega) (by omega) (by omega) ?_ | refine V_idiv dX6_go_28 (by decide) ?_
      refine V_iload1 dX6_go_29 ?_
      refine V_iconst (nI 2) dX6_go_30 (by decide) ?_
      first | refine V_icmp_ne_n 38 dX6_go_31 (by decide) (by omega) (by omega) (fun c31 => ?_) (fun c31 => ?_) | refine V_icmp_ne 38 dX6_go_31 (by decide) (fun c31 => ?_) (fun c31 => ?_)
      · refine V_iload1 dX6_go_38 ?_
        first | refine V_if_ne_z 46 dX6_go_39 (by decide) (fun c39 => ?_) (fun c39 => ?_) | refine V_if_ne_n 46 dX6_go_39 (by decide) (by omega) (fun c39 => ?_) (fun c39 => ?_) | refine V_if_ne 46 dX6_go_39 (by decide) (fun c39 => ?_) (fun c39 => ?_)
        · refine V_iconst (nI 0) dX6_go_46 (by decide) ?_
          refine V_iadd dX6_go_47 ?_
          refine V_istore3 dX6_go_48 (by decide) rfl ?_
          refine V_iload2 dX6_go_49 ?_
          refine V_iload3 dX6_go_50 ?_
          refine kX6_89 (m_X6_isOn _ _ _ _) (rOK_d (by decide) (by decide)) (Nat.le_of_ble_eq_true rfl) dX6_go_51 (fun r51 h51 hq51 => ?_)
          have e1_ := hq51.1
          have e2_ := hq51.2
          clear hq51
          subst e1_
          rw [e2_]
          clear e2_
          first | refine V_if_eq_z 66 dX6_go_54 (by decide) (fun c54 => ?_) (fun c54 => ?_) | refine V_if_eq_n 66 dX6_go_54 (by decide) (by omega) (fun c54 => ?_) (fun c54 => ?_) | refine V_if_eq 66 dX6_go_54 (by decide) (fun c54 => ?_) (fun c54 => ?_)
          · refine V_ldc ct_X6_93 dX6_go_66 ?_
            refine V_ireti dX6_go_68 ?_
            refine ⟨rfl, ?_⟩
            obtain rfl | rfl | rfl | rfl : d = 0 ∨ d = 1 ∨ d = 2 ∨ d = 3 := by omega
            all_goals first | (exfalso; omega) | (clear hd; revert c54; revert p; decide +kernel)
          · refine V_bipush (nI 10) dX6_go_57 (by decide) ?_
            refine V_iload3 dX6_go_59 ?_
            refine V_imul dX6_go_60 ?_
            refine V_iload2 dX6_go_61 ?_
            refine V_iadd dX6_go_62 ?_
            refine V_goto 68 dX6_go_63 (by decide) ?_
            refine V_ireti dX6_go_68 ?_
            refine ⟨rfl, ?_⟩
            obtain rfl | rfl | rfl | rfl : d = 0 ∨ d = 1 ∨ d = 2 ∨ d = 3 := by omega
            all_goals first | (exfalso; omega) | (clear hd; revert c54; revert p; decide +kernel)
        · refine V_iconst (-1) dX6_go_42 (by decide) ?_
          refine V_goto 47 dX6_go_43 (by decide) ?_
          refine V_iadd dX6_go_47 ?_
          refine V_istore3 dX6_go_48 (by decide) rfl ?_
          refine V_iload2 dX6_go_49 ?_
          refine V_iload3 dX6_go_50 ?_
          refine kX6_89 (m_X6_isOn _ _ _ _) (rOK_d (by decide) (by decide)) (Nat.le_of_ble_eq_true rfl) dX6_go_51 (fun r51 h51 hq51 => ?_)
          have e1_ := hq51.1
          have e2_ := hq51.2
          clear hq51
          subst e1_
          rw [e2_]
          clear e2_
          first | refine V_if_eq_z 66 dX6_go_54 (by decide) (fun c54 => ?_) (fun c54 => ?_) | refine V_if_eq_n 66 dX6_go_54 (by decide) (by omega) (fun c54 => ?_) (fun c54 => ?_) | refine V_if_eq 66 dX6_go_54 (by decide) (fun c54 => ?_) (fun c54 => ?_)
          · refine V_ldc ct_X6_93 dX6_go_66 ?_
            refine V_ireti dX6_go_68 ?_
            refine ⟨rfl, ?_⟩
            obtain rfl | rfl | rfl | rfl : d = 0 ∨ d = 1 ∨ d = 2 ∨ d = 3 := by omega
            all_goals first | (exfalso; omega) | (clear hd; revert c54; revert p; decide +kernel)
          · refine V_bipush (nI 10) dX6_go_57 (by decide) ?_
            refine V_iload3 dX6_go_59 ?_
            refine V_imul dX6_go_60 ?_
            refine V_iload2 dX6_go_61 ?_
            refine V_iadd dX6_go_62 ?_
            refine V_goto 68 dX6_go_63 (by decide) ?_
            refine V_ireti dX6_go_68 ?_
            refine ⟨rfl, ?_⟩
            obtain rfl | rfl | rfl | rfl : d = 0 ∨ d = 1 ∨ d = 2 ∨ d = 3 := by omega
            all_goals first | (exfalso; omega) | (clear hd; revert c54; revert p; decide +kernel)
      · refine V_iconst (nI 1) dX6_go_34 (by decide) ?_
        refine V_goto 47 dX6_go_35 (by decide) ?_
        refine V_iadd dX6_go_47 ?_
        refine V_istore3 dX6_go_48 (by decide) rfl ?_
        refine V_iload2 dX6_go_49 ?_
        refine V_iload3 dX6_go_50 ?_
        refine kX6_89 (m_X6_isOn _ _ _ _) (rOK_d (by decide) (by decide)) (Nat.le_of_ble_eq_true rfl) dX6_go_51 (fun r51 h51 hq51 => ?_)
        have e1_ := hq51.1
        have e2_ := hq51.2
        clear hq51
        subst e1_
        rw [e2_]
        clear e2_
        first | refine V_if_eq_z 66 dX6_go_54 (by decide) (fun c54 => ?_) (fun c54 => ?_) | refine V_if_eq_n 66 dX6_go_54 (by decide) (by omega) (fun c54 => ?_) (fun c54 => ?_) | refine V_if_eq 66 dX6_go_54 (by decide) (fun c54 => ?_) (fun c54 => ?_)
        · refine V_ldc ct_X6_93 dX6_go_66 ?_
          refine V_ireti dX6_go_68 ?_
          refine ⟨rfl, ?_⟩
          obtain rfl | rfl | rfl | rfl : d = 0 ∨ d = 1 ∨ d = 2 ∨ d = 3 := by omega
          all_goals first | (exfalso; omega) | (clear hd; revert c54; revert p; decide +kernel)
        · refine V_bipush (nI 10) dX6_go_57 (by decide) ?_
          refine V_iload3 dX6_go_59 ?_
          refine V_imul dX6_go_60 ?_
          refine V_iload2 dX6_go_61 ?_
          refine V_iadd dX6_go_62 ?_
          refine V_goto 68 dX6_go_63 (by decide) ?_
          refine V_ireti dX6_go_68 ?_
          refine ⟨rfl, ?_⟩
          obtain rfl | rfl | rfl | rfl : d = 0 ∨ d = 1 ∨ d = 2 ∨ d = 3 := by omega
          all_goals first | (exfalso; omega) | (clear hd; revert c54; revert p; decide +kernel)
    · refine V_iconst (-1) dX6_go_18 (by decide) ?_
      refine V_goto 23 dX6_go_19 (by decide) ?_
      refine V_iadd dX6_go_23 ?_
      refine V_istore2 dX6_go_24 (by decide) rfl ?_
      refine V_iload0 dX6_go_25 ?_
      refine V_bipush (nI 10) dX6_go_26 (by decide) ?_
      first | refine V_idiv_n dX6_go_28 (by omega) (by omega) (by omega) ?_ | refine V_idiv dX6_go_28 (by decide) ?_
      refine V_iload1 dX6_go_29 ?_
      refine V_iconst (nI 2) dX6_go_30 (by decide) ?_
      first | refine V_icmp_ne_n 38 dX6_go_31 (by decide) (by omega) (by omega) (fun c31 => ?_) (fun c31 => ?_) | refine V_icmp_ne 38 dX6_go_31 (by decide) (fun c31 => ?_) (fun c31 => ?_)
      · refine V_iload1 dX6_go_38 ?_
        first | refine V_if_ne_z 46 dX6_go_39 (by decide) (fun c39 => ?_) (fun c39 => ?_) | refine V_if_ne_n 46 dX6_go_39 (by decide) (by omega) (fun c39 => ?_) (fun c39 => ?_) | refine V_if_ne 46 dX6_go_39 (by decide) (fun c39 => ?_) (fun c39 => ?_)
        · refine V_iconst (nI 0) dX6_go_46 (by decide) ?_
          refine V_iadd dX6_go_47 ?_
          refine V_istore3 dX6_go_48 (by decide) rfl ?_
          refine V_iload2 dX6_go_49 ?_
          refine V_iload3 dX6_go_50 ?_
          refine kX6_89 (m_X6_isOn _ _ _ _) (rOK_d (by decide) (by decide)) (Nat.le_of_ble_eq_true rfl) dX6_go_51 (fun r51 h51 hq51 => ?_)
          have e1_ := hq51.1
          have e2_ := hq51.2
          clear hq51
          subst e1_
          rw [e2_]
          clear e2_
          first | refine V_if_eq_z 66 dX6_go_54 (by decide) (fun c54 => ?_) (fun c54 => ?_) | refine V_if_eq_n 66 dX6_go_54 (by decide) (by omega) (fun c54 => ?_) (fun c54 => ?_) | refine V_if_eq 66 dX6_go_54 (by decide) (fun c54 => ?_) (fun c54 => ?_)
          · refine V_ldc ct_X6_93 dX6_go_66 ?_
            refine V_ireti dX6_go_68 ?_
            refine ⟨rfl, ?_⟩
            obtain rfl | rfl | rfl | rfl : d = 0 ∨ d = 1 ∨ d = 2 ∨ d = 3 := by omega
            all_goals first | (exfalso; omega) | (clear hd; revert c54; revert p; decide +kernel)
          · refine V_bipush (nI 10) dX6_go_57 (by decide) ?_
            refine V_iload3 dX6_go_59 ?_
            refine V_imul dX6_go_60 ?_
            refine V_iload2 dX6_go_61 ?_
            refine V_iadd dX6_go_62 ?_
            refine V_goto 68 dX6_go_63 (by decide) ?_
            refine V_ireti dX6_go_68 ?_
            refine ⟨rfl, ?_⟩
            obtain rfl | rfl | rfl | rfl : d = 0 ∨ d = 1 ∨ d = 2 ∨ d = 3 := by omega
            all_goals first | (exfalso; omega) | (clear hd; revert c54; revert p; decide +kernel)
        · refine V_iconst (-1) dX6_go_42 (by decide) ?_
          refine V_goto 47 dX6_go_43 (by decide) ?_
          refine V_iadd dX6_go_47 ?_
          refine V_istore3 dX6_go_48 (by decide) rfl ?_
          refine V_iload2 dX6_go_49 ?_
          refine V_iload3 dX6_go_50 ?_
          refine kX6_89 (m_X6_isOn _ _ _ _) (rOK_d (by decide) (by decide)) (Nat.le_of_ble_eq_true rfl) dX6_go_51 (fun r51 h51 hq51 => ?_)
          have e1_ := hq51.1
          have e2_ := hq51.2
          clear hq51
          subst e1_
          rw [e2_]
          clear e2_
          first | refine V_if_eq_z 66 dX6_go_54 (by decide) (fun c54 => ?_) (fun c54 => ?_) | refine V_if_eq_n 66 dX6_go_54 (by decide) (by omega) (fun c54 => ?_) (fun c54 => ?_) | refine V_if_eq 66 dX6_go_54 (by decide) (fun c54 => ?_) (fun c54 => ?_)
          · refine V_ldc ct_X6_93 dX6_go_66 ?_
            refine V_ireti dX6_go_68 ?_
            refine ⟨rfl, ?_⟩
            obtain rfl | rfl | rfl | rfl : d = 0 ∨ d = 1 ∨ d = 2 ∨ d = 3 := by omega
            all_goals first | (exfalso; omega) | (clear hd; revert c54; revert p; decide +kernel)
          · refine V_bipush (nI 10) dX6_go_57 (by decide) ?_
            refine V_iload3 dX6_go_59 ?_
            refine V_imul dX6_go_60 ?_
            refine V_iload2 dX6_go_61 ?_
            refine V_iadd dX6_go_62 ?_
            refine V_goto 68 dX6_go_63 (by decide) ?_
            refine V_ireti dX6_go_68 ?_
            refine ⟨rfl, ?_⟩
            obtain rfl | rfl | rfl | rfl : d = 0 ∨ d = 1 ∨ d = 2 ∨ d = 3 := by omega
            all_goals first | (exfalso; omega) | (clear hd; revert c54; revert p; decide +kernel)
      · refine V_iconst (nI 1) dX6_go_34 (by decide) ?_
        refine V_goto 47 dX6_go_35 (by decide) ?_
        refine V_iadd dX6_go_47 ?_
        refine V_istore3 dX6_go_48 (by decide) rfl ?_
        refine V_iload2 dX6_go_49 ?_
        refine V_iload3 dX6_go_50 ?_
        refine kX6_89 (m_X6_isOn _ _ _ _) (rOK_d (by decide) (by decide)) (Nat.le_of_ble_eq_true rfl) dX6_go_51 (fun r51 h51 hq51 => ?_)
        have e1_ := hq51.1
        have e2_ := hq51.2
        clear hq51
        subst e1_
        rw [e2_]
        clear e2_
        first | refine V_if_eq_z 66 dX6_go_54 (by decide) (fun c54 => ?_) (fun c54 => ?_) | refine V_if_eq_n 66 dX6_go_54 (by decide) (by omega) (fun c54 => ?_) (fun c54 => ?_) | refine V_if_eq 66 dX6_go_54 (by decide) (fun c54 => ?_) (fun c54 => ?_)
        · refine V_ldc ct_X6_93 dX6_go_66 ?_
          refine V_ireti dX6_go_68 ?_
          refine ⟨rfl, ?_⟩
          obtain rfl | rfl | rfl | rfl : d = 0 ∨ d = 1 ∨ d = 2 ∨ d = 3 := by omega
          all_goals first | (exfalso; omega) | (clear hd; revert c54; revert p; decide +kernel)
        · refine V_bipush (nI 10) dX6_go_57 (by decide) ?_
          refine V_iload3 dX6_go_59 ?_
          refine V_imul dX6_go_60 ?_
          refine V_iload2 dX6_go_61 ?_
          refine V_iadd dX6_go_62 ?_
          refine V_goto 68 dX6_go_63 (by decide) ?_
          refine V_ireti dX6_go_68 ?_
          refine ⟨rfl, ?_⟩
          obtain rfl | rfl | rfl | rfl : d = 0 ∨ d = 1 ∨ d = 2 ∨ d = 3 := by omega
          all_goals first | (exfalso; omega) | (clear hd; revert c54; revert p; decide +kernel)
  · refine V_iconst (nI 1) dX6_go_9 (by decide) ?_
    refine V_goto 23 dX6_go_10 (by decide) ?_
    refine V_iadd dX6_go_23 ?_
    refine V_istore2 dX6_go_24 (by decide) rfl ?_
    refine V_iload0 dX6_go_25 ?_
    refine V_bipush (nI 10) dX6_go_26 (by decide) ?_
    first | refine V_idiv_n dX6_go_28 (by omega) (by omega) (by omega) ?_ | refine V_idiv dX6_go_28 (by decide) ?_
    refine V_iload1 dX6_go_29 ?_
    refine V_iconst (nI 2) dX6_go_30 (by decide) ?_
    first | refine V_icmp_ne_n 38 dX6_go_31 (by decide) (by omega) (by omega) (fun c31 => ?_) (fun c31 => ?_) | refine V_icmp_ne 38 dX6_go_31 (by decide) (fun c31 => ?_) (fun c31 => ?_)
    · refine V_iload1 dX6_go_38 ?_
      first | refine V_if_ne_z 46 dX6_go_39 (by decide) (fun c39 => ?_) (fun c39 => ?_) | refine V_if_ne_n 46 dX6_go_39 (by decide) (by omega) (fun c39 => ?_) (fun c39 => ?_) | refine V_if_ne 46 dX6_go_39 (by decide) (fun c39 => ?_) (fun c39 => ?_)
      · refine V_iconst (nI 0) dX6_go_46 (by decide) ?_
        refine V_iadd dX6_go_47 ?_
        refine V_istore3 dX6_go_48 (by decide) rfl ?_
        refine V_iload2 dX6_go_49 ?_
        refine V_iload3 dX6_go_50 ?_
        refine kX6_89 (m_X6_isOn _ _ _ _) (rOK_d (by decide) (by decide)) (Nat.le_of_ble_eq_true rfl) dX6_go_51 (fun r51 h51 hq51 => ?_)
        have e1_ := hq51.1
        have e2_ := hq51.2
        clear hq51
        subst e1_
        rw [e2_]
        clear e2_
        first | refine V_if_eq_z 66 dX6_go_54 (by decide) (fun c54 => ?_) (fun c54 => ?_) | refine V_if_eq_n 66 dX6_go_54 (by decide) (by omega) (fun c54 => ?_) (fun c54 => ?_) | refine V_if_eq 66 dX6_go_54 (by decide) (fun c54 => ?_) (fun c54 => ?_)
        · refine V_ldc ct_X6_93 dX6_go_66 ?_
          refine V_ireti dX6_go_68 ?_
          refine ⟨rfl, ?_⟩
          obtain rfl | rfl | rfl | rfl : d = 0 ∨ d = 1 ∨ d = 2 ∨ d = 3 := by omega
          all_goals first | (exfalso; omega) | (clear hd; revert c54; revert p; decide +kernel)
        · refine V_bipush (nI 10) dX6_go_57 (by decide) ?_
          refine V_iload3 dX6_go_59 ?_
          refine V_imul dX6_go_60 ?_
          refine V_iload2 dX6_go_61 ?_
          refine V_iadd dX6_go_62 ?_
          refine V_goto 68 dX6_go_63 (by decide) ?_
          refine V_ireti dX6_go_68 ?_
          refine ⟨rfl, ?_⟩
          obtain rfl | rfl | rfl | rfl : d = 0 ∨ d = 1 ∨ d = 2 ∨ d = 3 := by omega
          all_goals first | (exfalso; omega) | (clear hd; revert c54; revert p; decide +kernel)
      · refine V_iconst (-1) dX6_go_42 (by decide) ?_
        refine V_goto 47 dX6_go_43 (by decide) ?_
        refine V_iadd dX6_go_47 ?_
        refine V_istore3 dX6_go_48 (by decide) rfl ?_
        refine V_iload2 dX6_go_49 ?_
        refine V_iload3 dX6_go_50 ?_
        refine kX6_89 (m_X6_isOn _ _ _ _) (rOK_d (by decide) (by decide)) (Nat.le_of_ble_eq_true rfl) dX6_go_51 (fun r51 h51 hq51 => ?_)
        have e1_ := hq51.1
        have e2_ := hq51.2
        clear hq51
        subst e1_
        rw [e2_]
        clear e2_
        first | refine V_if_eq_z 66 dX6_go_54 (by decide) (fun c54 => ?_) (fun c54 => ?_) | refine V_if_eq_n 66 dX6_go_54 (by decide) (by omega) (fun c54 => ?_) (fun c54 => ?_) | refine V_if_eq 66 dX6_go_54 (by decide) (fun c54 => ?_) (fun c54 => ?_)
        · refine V_ldc ct_X6_93 dX6_go_66 ?_
          refine V_ireti dX6_go_68 ?_
          refine ⟨rfl, ?_⟩
          obtain rfl | rfl | rfl | rfl : d = 0 ∨ d = 1 ∨ d = 2 ∨ d = 3 := by omega
          all_goals first | (exfalso; omega) | (clear hd; revert c54; revert p; decide +kernel)
        · refine V_bipush (nI 10) dX6_go_57 (by decide) ?_
          refine V_iload3 dX6_go_59 ?_
          refine V_imul dX6_go_60 ?_
          refine V_iload2 dX6_go_61 ?_
          refine V_iadd dX6_go_62 ?_
          refine V_goto 68 dX6_go_63 (by decide) ?_
          refine V_ireti dX6_go_68 ?_
          refine ⟨rfl, ?_⟩
          obtain rfl | rfl | rfl | rfl : d = 0 ∨ d = 1 ∨ d = 2 ∨ d = 3 := by omega
          all_goals first | (exfalso; omega) | (clear hd; revert c54; revert p; decide +kernel)
    · refine V_iconst (nI 1) dX6_go_34 (by decide) ?_
      refine V_goto 47 dX6_go_35 (by decide) ?_
      refine V_iadd dX6_go_47 ?_
      refine V_istore3 dX6_go_48 (by decide) rfl ?_
      refine V_iload2 dX6_go_49 ?_
      refine V_iload3 dX6_go_50 ?_
      refine kX6_89 (m_X6_isOn _ _ _ _) (rOK_d (by decide) (by decide)) (Nat.le_of_ble_eq_true rfl) dX6_go_51 (fun r51 h51 hq51 => ?_)
      have e1_ := hq51.1
      have e2_ := hq51.2
      clear hq51
      subst e1_
      rw [e2_]
      clear e2_
      first | refine V_if_eq_z 66 dX6_go_54 (by decide) (fun c54 => ?_) (fun c54 => ?_) | refine V_if_eq_n 66 dX6_go_54 (by decide) (by omega) (fun c54 => ?_) (fun c54 => ?_) | refine V_if_eq 66 dX6_go_54 (by decide) (fun c54 => ?_) (fun c54 => ?_)
      · refine V_ldc ct_X6_93 dX6_go_66 ?_
        refine V_ireti dX6_go_68 ?_
        refine ⟨rfl, ?_⟩
        obtain rfl | rfl | rfl | rfl : d = 0 ∨ d = 1 ∨ d = 2 ∨ d = 3 := by omega
        all_goals first | (exfalso; omega) | (clear hd; revert c54; revert p; decide +kernel)
      · refine V_bipush (nI 10) dX6_go_57 (by decide) ?_
        refine V_iload3 dX6_go_59 ?_
        refine V_imul dX6_go_60 ?_
        refine V_iload2 dX6_go_61 ?_
        refine V_iadd dX6_go_62 ?_
        refine V_goto 68 dX6_go_63 (by decide) ?_
        refine V_ireti dX6_go_68 ?_
        refine ⟨rfl, ?_⟩
        obtain rfl | rfl | rfl | rfl : d = 0 ∨ d = 1 ∨ d = 2 ∨ d = 3 := by omega
        all_goals first | (exfalso; omega) | (clear hd; revert c54; revert p; decide +kernel)
set_option maxRecDepth 4000 in
theorem m_X6_side (G : GE) (h : Mem) (p d : Nat) (hp : p < 100) (hd : d < 4) (h3 : d = 3 → 0 < p % 10) (h0 : d = 0 → 10 ≤ p) : Ct idsB G yX6_side cX6_side 4 (some .int) (rmD 0) [.int (nI p), .int (nI d)] h (Qi fun r h' => h' = h ∧ r = nI (sB p d)) := by
  refine Ct.of [some (.int (nI p)), some (.int (nI d)), none, none] (by decide) (Nat.le_of_ble_eq_true rfl) (lvE_ok 2 rfl) ?_
  refine V_iload0 dX6_side_0 ?_
  refine V_bipush (nI 10) dX6_side_1 (by decide) ?_
  first | refine V_irem_n dX6_side_3 (by omega) (by omega) (by omega) ?_ | refine V_irem dX6_side_3 (by decide) ?_
  refine V_istore2 dX6_side_4 (by decide) rfl ?_
  refine V_iload0 dX6_side_5 ?_
  refine V_bipush (nI 10) dX6_side_6 (by decide) ?_
  first | refine V_idiv_n dX6_side_8 (by omega) (by omega) (by omega) ?_ | refine V_idiv dX6_side_8 (by decide) ?_
  refine V_istore3 dX6_side_9 (by decide) rfl ?_
  refine V_iload1 dX6_side_10 ?_
  refine V_iconst (nI 1) dX6_side_11 (by decide) ?_
  first | refine V_icmp_ne_n 24 dX6_side_12 (by decide) (by omega) (by omega) (fun c12 => ?_) (fun c12 => ?_) | refine V_icmp_ne 24 dX6_side_12 (by decide) (fun c12 => ?_) (fun c12 => ?_)
  · refine V_iload1 dX6_side_24 ?_
    refine V_iconst (nI 3) dX6_side_25 (by decide) ?_
    first | refine V_icmp_ne_n 40 dX6_side_26 (by decide) (by omega) (by omega) (fun c26 => ?_) (fun c26 => ?_) | refine V_icmp_ne 40 dX6_side_26 (by decide) (fun c26 => ?_) (fun c26 => ?_)
    · refine V_iload1 dX6_side_40 ?_
      refine V_iconst (nI 2) dX6_side_41 (by decide) ?_
      first | refine V_icmp_ne_n 57 dX6_side_42 (by decide) (by omega) (by omega) (fun c42 => ?_) (fun c42 => ?_) | refine V_icmp_ne 57 dX6_side_42 (by decide) (fun c42 => ?_) (fun c42 => ?_)
      · refine V_bipush (nI 90) dX6_side_57 (by decide) ?_
        refine V_bipush (nI 10) dX6_side_59 (by decide) ?_
        refine V_iload3 dX6_side_61 ?_
        refine V_iconst (nI 1) dX6_side_62 (by decide) ?_
        first | refine V_isub_n dX6_side_63 (by omega) ?_ | refine V_isub dX6_side_63 ?_
        first | refine V_imul_n dX6_side_64 ?_ | refine V_imul dX6_side_64 ?_
        first | refine V_iadd_n dX6_side_65 ?_ | refine V_iadd dX6_side_65 ?_
        refine V_iload2 dX6_side_66 ?_
        first | refine V_iadd_n dX6_side_67 ?_ | refine V_iadd dX6_side_67 ?_
        refine V_ireti dX6_side_68 ?_
        refine ⟨rfl, ?_⟩
        unfold sB
        repeat' split
        all_goals first | (exfalso; omega) | (congr 1; omega) | rfl
      · refine V_bipush (nI 90) dX6_side_45 (by decide) ?_
        refine V_bipush (nI 10) dX6_side_47 (by decide) ?_
        refine V_iload3 dX6_side_49 ?_
        first | refine V_imul_n dX6_side_50 ?_ | refine V_imul dX6_side_50 ?_
        first | refine V_iadd_n dX6_side_51 ?_ | refine V_iadd dX6_side_51 ?_
        refine V_iload2 dX6_side_52 ?_
        first | refine V_iadd_n dX6_side_53 ?_ | refine V_iadd dX6_side_53 ?_
        refine V_goto 68 dX6_side_54 (by decide) ?_
        refine V_ireti dX6_side_68 ?_
        refine ⟨rfl, ?_⟩
        unfold sB
        repeat' split
        all_goals first | (exfalso; omega) | (congr 1; omega) | rfl
    · refine V_bipush (nI 9) dX6_side_29 (by decide) ?_
      refine V_iload3 dX6_side_31 ?_
      first | refine V_imul_n dX6_side_32 ?_ | refine V_imul dX6_side_32 ?_
      refine V_iload2 dX6_side_33 ?_
      first | refine V_iadd_n dX6_side_34 ?_ | refine V_iadd dX6_side_34 ?_
      refine V_iconst (nI 1) dX6_side_35 (by decide) ?_
      first | refine V_isub_n dX6_side_36 (by omega) ?_ | refine V_isub dX6_side_36 ?_
      refine V_goto 68 dX6_side_37 (by decide) ?_
      refine V_ireti dX6_side_68 ?_
      refine ⟨rfl, ?_⟩
      unfold sB
      repeat' split
      all_goals first | (exfalso; omega) | (congr 1; omega) | rfl
  · refine V_bipush (nI 9) dX6_side_15 (by decide) ?_
    refine V_iload3 dX6_side_17 ?_
    first | refine V_imul_n dX6_side_18 ?_ | refine V_imul dX6_side_18 ?_
    refine V_iload2 dX6_side_19 ?_
    first | refine V_iadd_n dX6_side_20 ?_ | refine V_iadd dX6_side_20 ?_
    refine V_goto 68 dX6_side_21 (by decide) ?_
    refine V_ireti dX6_side_68 ?_
    refine ⟨rfl, ?_⟩
    unfold sB
    repeat' split
    all_goals first | (exfalso; omega) | (congr 1; omega) | rfl
