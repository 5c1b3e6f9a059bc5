set_option maxRecDepth 4000 in
theorem m_X6_point (G : GE) (h : Mem) (S : St) (i : Ok S) (a : RB S h) (x y : Int32) : Ct idsB G yX6_point cX6_point 4 (some .int) (rmD 2) [.ref (ad G 100), .int x, .int y] h (Qi fun rv h' => rv = (O_point S x y).1 ∧ RB (O_point S x y).2 h') := by
  refine Ct.of [some (.ref (ad G 100)), some (.int x), some (.int y), none] (by decide) (Nat.le_of_ble_eq_true rfl) (lvE_ok 1 rfl) ?_
  refine V_aload0 dX6_point_0 ?_
  refine V_iconst (nI 0) dX6_point_1 (by decide) ?_
  refine pX6_62 dX6_point_2 ?_
  replace a := a.th (nI 0)
  generalize wr h 100 0 (nI 0) = g at a ⊢
  refine V_iload1 dX6_point_5 ?_
  refine V_iload2 dX6_point_6 ?_
  refine kX6_89 (m_X6_isOn _ _ _ _) (rOK_d (by decide) (by decide)) (Nat.le_of_ble_eq_true rfl) dX6_point_7 (fun r7 h7 hq7 => ?_)
  obtain ⟨e_, rfl⟩ := hq7
  replace e_ := e_.symm
  subst e_
  first | refine V_if_ne_z 16 dX6_point_10 (by decide) (fun c10 => ?_) (fun c10 => ?_) | refine V_if_ne_n 16 dX6_point_10 (by decide) (by omega) (fun c10 => ?_) (fun c10 => ?_) | refine V_if_ne 16 dX6_point_10 (by decide) (fun c10 => ?_) (fun c10 => ?_)
  · obtain ⟨x', hx', rfl⟩ := (inR_iff (by decide)).mp c10.1
    obtain ⟨y', hy', rfl⟩ := (inR_iff (by decide)).mp c10.2
    have hp : 10 * y' + x' < 100 := by omega
    have hpe : y' * 10 + x' = 10 * y' + x' := by omega
    have i1 := i.1
    have hnp := i1.np
    have kx := cl_nI (show x' < 2 ^ 31 by omega)
    have ky := cl_nI (show y' < 2 ^ 31 by omega)
    refine V_bipush (nI 10) dX6_point_16 (by decide) ?_
    refine V_iload2 dX6_point_18 ?_
    first | refine V_imul_n dX6_point_19 ?_ | refine V_imul dX6_point_19 ?_
    refine V_iload1 dX6_point_20 ?_
    first | refine V_iadd_n dX6_point_21 ?_ | refine V_iadd dX6_point_21 ?_
    refine V_istore3 dX6_point_22 (by decide) rfl ?_
    refine V_aload0 dX6_point_23 ?_
    refine gX6_19 dX6_point_24 ?_
    refine V_iload3 dX6_point_27 ?_
    refine V_baload (by decide) aZ_105 (by decide) rfl (by first | assumption | omega) dX6_point_28 ?_
    rw [a.2.1.2.2.2.1 _ hp]
    first | refine V_if_ne_z 42 dX6_point_29 (by decide) (fun c29 => ?_) (fun c29 => ?_) | refine V_if_ne_n 42 dX6_point_29 (by decide) (by omega) (fun c29 => ?_) (fun c29 => ?_) | refine V_if_ne 42 dX6_point_29 (by decide) (fun c29 => ?_) (fun c29 => ?_)
    · refine V_ldc ct_X6_100 dX6_point_42 ?_
      refine V_ireti dX6_point_44 ?_
      rw [O_point, ite_t c10, kx, ky, hpe, ite_t (by first | exact Or.inl c29 | exact Or.inr hpt)]
      exact ⟨rfl, a⟩
    · refine V_aload0 dX6_point_32 ?_
      refine V_iload3 dX6_point_33 ?_
      refine kX6_97 (m_X6_pointOn _ _ S.2.1 i1 a.2.1 _ hp) (rOK_d (by decide) (by decide)) (Nat.le_of_ble_eq_true rfl) dX6_point_34 (fun r34 h34 hq34 => ?_)
      obtain ⟨e_, rfl⟩ := hq34
      replace e_ := e_.symm
      subst e_
      refine V_ldc ct_X6_93 dX6_point_37 ?_
      refine V_icmp_eq 45 dX6_point_39 (by decide) (fun c39 => ?_) (fun c39 => ?_)
      · have hpn : ptF (nPp S.2.1) (nNp S.2.1) (10 * y' + x') = none := (oI_ne (fun k hk => ptF_lt i1 hk)).mp c39
        refine V_aload0 dX6_point_45 ?_
        refine gX6_94 dX6_point_46 ?_
        rw [a.2.1.1]
        refine V_bipush (nI 12) dX6_point_49 (by decide) ?_
        first | refine V_icmp_ne_n 57 dX6_point_51 (by decide) (by omega) (by omega) (fun c51 => ?_) (fun c51 => ?_) | refine V_icmp_ne 57 dX6_point_51 (by decide) (fun c51 => ?_) (fun c51 => ?_)
        · refine V_aload0 dX6_point_57 ?_
          refine gX6_23 dX6_point_58 ?_
          refine V_aload0 dX6_point_61 ?_
          refine gX6_94 dX6_point_62 ?_
          rw [a.2.1.1]
          refine V_iload3 dX6_point_65 ?_
          refine V_iastore (by decide) aI_107 (by decide) rfl (show nNp S.2.1 < 12 by omega) dX6_point_66 ?_
          refine V_aload0 dX6_point_67 ?_
          refine V_dup dX6_point_68 rfl ?_
          refine gX6_94 dX6_point_69 ?_
          rw [wr_c _ _ _ (by decide), a.2.1.1]
          refine V_iconst (nI 1) dX6_point_72 (by decide) ?_
          first | refine V_iadd_n dX6_point_73 ?_ | refine V_iadd dX6_point_73 ?_
          refine pX6_94 dX6_point_74 ?_
          refine V_aload0 dX6_point_77 ?_
          refine gX6_94 dX6_point_78 ?_
          rw [wr_s]
          refine V_iconst (nI 1) dX6_point_81 (by decide) ?_
          first | refine V_isub_n dX6_point_82 (by omega) ?_ | refine V_isub dX6_point_82 ?_
          refine V_ireti dX6_point_83 ?_
          rw [O_point, ite_t c10, kx, ky, hpe, ite_f (fun z => z.elim c29 (fun y => y hpn)), ite_f (show ¬ 12 ≤ nNp S.2.1 by omega)]
          exact ⟨rfl, RB_net a (RBn_addP i1 a.2.1 _) (by rw [wr_c _ _ _ (by decide), wr_c _ _ _ (by decide)]) (by rw [wr_c _ _ _ (by decide), wr_c _ _ _ (by decide)]) (by rw [wr_c _ _ _ (by decide), wr_c _ _ _ (by decide)]) (by rw [wr_c _ _ _ (by decide), wr_c _ _ _ (by decide)]) (by rw [wr_j _ _ (by decide), wr_c _ _ _ (by decide)]) (by rw [wr_j _ _ (by decide), wr_c _ _ _ (by decide)])⟩
        · refine V_ldc ct_X6_101 dX6_point_54 ?_
          refine V_ireti dX6_point_56 ?_
          rw [O_point, ite_t c10, kx, ky, hpe, ite_f (fun z => z.elim c29 (fun y => y hpn)), ite_t (show 12 ≤ nNp S.2.1 by omega)]
          exact ⟨rfl, a⟩
      · have hpt : ptF (nPp S.2.1) (nNp S.2.1) (10 * y' + x') ≠ none := fun e => c39 ((oI_ne (fun k hk => ptF_lt i1 hk)).mpr e)
        refine V_ldc ct_X6_100 dX6_point_42 ?_
        refine V_ireti dX6_point_44 ?_
        rw [O_point, ite_t c10, kx, ky, hpe, ite_t (by first | exact Or.inl c29 | exact Or.inr hpt)]
        exact ⟨rfl, a⟩
  · refine V_ldc ct_X6_82 dX6_point_13 ?_
    refine V_ireti dX6_point_15 ?_
    rw [O_point, ite_f c10]
    exact ⟨rfl, a⟩
set_option maxRecDepth 4000 in
theorem m_X6_shut (G : GE) (h : Mem) (S : St) (i : Ok S) (a : RB S h) (x y : Int32) : Ct idsB G yX6_shut cX6_shut 4 (some .int) (rmD 4) [.ref (ad G 100), .int x, .int y] h (Qi fun rv h' => rv = (O_shut S x y).1 ∧ RB (O_shut S x y).2 h') := by
  refine Ct.of [some (.ref (ad G 100)), some (.int x), some (.int y), none] (by decide) (Nat.le_of_ble_eq_true rfl) (lvE_ok 1 rfl) ?_
  refine V_aload0 dX6_shut_0 ?_
  refine V_iconst (nI 0) dX6_shut_1 (by decide) ?_
  refine pX6_62 dX6_shut_2 ?_
  replace a := a.th (nI 0)
  generalize wr h 100 0 (nI 0) = g at a ⊢
  refine V_iload1 dX6_shut_5 ?_
  refine V_iload2 dX6_shut_6 ?_
  refine kX6_89 (m_X6_isOn _ _ _ _) (rOK_d (by decide) (by decide)) (Nat.le_of_ble_eq_true rfl) dX6_shut_7 (fun r7 h7 hq7 => ?_)
  obtain ⟨e_, rfl⟩ := hq7
  replace e_ := e_.symm
  subst e_
  first | refine V_if_ne_z 16 dX6_shut_10 (by decide) (fun c10 => ?_) (fun c10 => ?_) | refine V_if_ne_n 16 dX6_shut_10 (by decide) (by omega) (fun c10 => ?_) (fun c10 => ?_) | refine V_if_ne 16 dX6_shut_10 (by decide) (fun c10 => ?_) (fun c10 => ?_)
  · obtain ⟨x', hx', rfl⟩ := (inR_iff (by decide)).mp c10.1
    obtain ⟨y', hy', rfl⟩ := (inR_iff (by decide)).mp c10.2
    have hp : 10 * y' + x' < 100 := by omega
    have hpe : y' * 10 + x' = 10 * y' + x' := by omega
    have i1 := i.1
    have hnp := i1.np
    have kx := cl_nI (show x' < 2 ^ 31 by omega)
    have ky := cl_nI (show y' < 2 ^ 31 by omega)
    refine V_bipush (nI 10) dX6_shut_16 (by decide) ?_
    refine V_iload2 dX6_shut_18 ?_
    first | refine V_imul_n dX6_shut_19 ?_ | refine V_imul dX6_shut_19 ?_
    refine V_iload1 dX6_shut_20 ?_
    first | refine V_iadd_n dX6_shut_21 ?_ | refine V_iadd dX6_shut_21 ?_
    refine V_istore3 dX6_shut_22 (by decide) rfl ?_
    refine V_aload0 dX6_shut_23 ?_
    refine gX6_19 dX6_shut_24 ?_
    refine V_iload3 dX6_shut_27 ?_
    refine V_baload (by decide) aZ_105 (by decide) rfl (by first | assumption | omega) dX6_shut_28 ?_
    rw [a.2.1.2.2.2.1 _ hp]
    first | refine V_if_eq_z 34 dX6_shut_29 (by decide) (fun c29 => ?_) (fun c29 => ?_) | refine V_if_eq_n 34 dX6_shut_29 (by decide) (by omega) (fun c29 => ?_) (fun c29 => ?_) | refine V_if_eq 34 dX6_shut_29 (by decide) (fun c29 => ?_) (fun c29 => ?_)
    · refine V_aload0 dX6_shut_34 ?_
      refine V_iload3 dX6_shut_35 ?_
      refine kX6_97 (m_X6_pointOn _ _ S.2.1 i1 a.2.1 _ hp) (rOK_d (by decide) (by decide)) (Nat.le_of_ble_eq_true rfl) dX6_shut_36 (fun r36 h36 hq36 => ?_)
      obtain ⟨e_, rfl⟩ := hq36
      replace e_ := e_.symm
      subst e_
      refine V_ldc ct_X6_93 dX6_shut_39 ?_
      refine V_icmp_ne 52 dX6_shut_41 (by decide) (fun c41 => ?_) (fun c41 => ?_)
      · have hpt : ptF (nPp S.2.1) (nNp S.2.1) (10 * y' + x') ≠ none := fun e => c41 ((oI_ne (fun k hk => ptF_lt i1 hk)).mpr e)
        refine V_ldc ct_X6_100 dX6_shut_52 ?_
        refine V_ireti dX6_shut_54 ?_
        rw [O_shut, ite_t c10, kx, ky, hpe, ite_f c29, ite_t (by first | exact Or.inl hpt | exact Or.inr c49)]
        exact ⟨rfl, a⟩
      · have hpn : ptF (nPp S.2.1) (nNp S.2.1) (10 * y' + x') = none := (oI_ne (fun k hk => ptF_lt i1 hk)).mp c41
        refine V_aload0 dX6_shut_44 ?_
        refine V_iload3 dX6_shut_45 ?_
        refine kX6_115 (m_X6_isOfWay _ _ S.2.1 i1 a.2.1 _ hp) (rOK_d (by decide) (by decide)) (Nat.le_of_ble_eq_true rfl) dX6_shut_46 (fun r46 h46 hq46 => ?_)
        obtain ⟨e_, rfl⟩ := hq46
        replace e_ := e_.symm
        subst e_
        first | refine V_if_eq_z 55 dX6_shut_49 (by decide) (fun c49 => ?_) (fun c49 => ?_) | refine V_if_eq_n 55 dX6_shut_49 (by decide) (by omega) (fun c49 => ?_) (fun c49 => ?_) | refine V_if_eq 55 dX6_shut_49 (by decide) (fun c49 => ?_) (fun c49 => ?_)
        · refine V_aload0 dX6_shut_55 ?_
          refine gX6_19 dX6_shut_56 ?_
          refine V_iload3 dX6_shut_59 ?_
          refine V_iconst (nI 1) dX6_shut_60 (by decide) ?_
          refine V_bastore (by decide) aZ_105 (by decide) rfl (by first | assumption | omega) (by first | exact bz_01 | exact nI_01 (Or.inl rfl) | exact nI_01 (Or.inr rfl) | assumption) dX6_shut_61 ?_
          refine V_iconst (nI 1) dX6_shut_62 (by decide) ?_
          refine V_ireti dX6_shut_63 ?_
          rw [O_shut, ite_t c10, kx, ky, hpe, ite_f c29, ite_f (fun z => z.elim (fun y => y hpn) c49)]
          exact ⟨rfl, RB_net a (RBn_sh a.2.1 true) (by rw [wr_c _ _ _ (by decide)]) (by rw [wr_c _ _ _ (by decide)]) (by rw [wr_c _ _ _ (by decide)]) (by rw [wr_c _ _ _ (by decide)]) (by rw [wr_c _ _ _ (by decide)]) (by rw [wr_c _ _ _ (by decide)])⟩
        · refine V_ldc ct_X6_100 dX6_shut_52 ?_
          refine V_ireti dX6_shut_54 ?_
          rw [O_shut, ite_t c10, kx, ky, hpe, ite_f c29, ite_t (by first | exact Or.inl hpt | exact Or.inr c49)]
          exact ⟨rfl, a⟩
    · refine V_iconst (nI 0) dX6_shut_32 (by decide) ?_
      refine V_ireti dX6_shut_33 ?_
      rw [O_shut, ite_t c10, kx, ky, hpe, ite_t c29]
      exact ⟨rfl, a⟩
  · refine V_ldc ct_X6_82 dX6_shut_13 ?_
    refine V_ireti dX6_shut_15 ?_
    rw [O_shut, ite_f c10]
    exact ⟨rfl, a⟩
set_option maxRecDepth 4000 in
theorem m_X6_open (G : GE) (h : Mem) (S : St) (i : Ok S) (a : RB S h) (x y : Int32) : Ct idsB G yX6_open cX6_open 4 (some .int) (rmD 2) [.ref (ad G 100), .int x, .int y] h (Qi fun rv h' => rv = (O_open S x y).1 ∧ RB (O_open S x y).2 h') := by
  refine Ct.of [some (.ref (ad G 100)), some (.int x), some (.int y), none] (by decide) (Nat.le_of_ble_eq_true rfl) (lvE_ok 1 rfl) ?_
  refine V_aload0 dX6_open_0 ?_
  refine V_iconst (nI 0) dX6_open_1 (by decide) ?_
  refine pX6_62 dX6_open_2 ?_
  replace a := a.th (nI 0)
  generalize wr h 100 0 (nI 0) = g at a ⊢
  refine V_iload1 dX6_open_5 ?_
  refine V_iload2 dX6_open_6 ?_
  refine kX6_89 (m_X6_isOn _ _ _ _) (rOK_d (by decide) (by decide)) (Nat.le_of_ble_eq_true rfl) dX6_open_7 (fun r7 h7 hq7 => ?_)
  obtain ⟨e_, rfl⟩ := hq7
  replace e_ := e_.symm
  subst e_
  first | refine V_if_ne_z 16 dX6_open_10 (by decide) (fun c10 => ?_) (fun c10 => ?_) | refine V_if_ne_n 16 dX6_open_10 (by decide) (by omega) (fun c10 => ?_) (fun c10 => ?_) | refine V_if_ne 16 dX6_open_10 (by decide) (fun c10 => ?_) (fun c10 => ?_)
  · obtain ⟨x', hx', rfl⟩ := (inR_iff (by decide)).mp c10.1
    obtain ⟨y', hy', rfl⟩ := (inR_iff (by decide)).mp c10.2
    have hp : 10 * y' + x' < 100 := by omega
    have hpe : y' * 10 + x' = 10 * y' + x' := by omega
    have i1 := i.1
    have hnp := i1.np
    have kx := cl_nI (show x' < 2 ^ 31 by omega)
    have ky := cl_nI (show y' < 2 ^ 31 by omega)
    refine V_aload0 dX6_open_16 ?_
    refine gX6_19 dX6_open_17 ?_
    refine V_bipush (nI 10) dX6_open_20 (by decide) ?_
    refine V_iload2 dX6_open_22 ?_
    first | refine V_imul_n dX6_open_23 ?_ | refine V_imul dX6_open_23 ?_
    refine V_iload1 dX6_open_24 ?_
    first | refine V_iadd_n dX6_open_25 ?_ | refine V_iadd dX6_open_25 ?_
    refine V_baload (by decide) aZ_105 (by decide) rfl (by first | assumption | omega) dX6_open_26 ?_
    rw [a.2.1.2.2.2.1 _ hp]
    refine V_istore3 dX6_open_27 (by decide) rfl ?_
    refine V_aload0 dX6_open_28 ?_
    refine gX6_19 dX6_open_29 ?_
    refine V_bipush (nI 10) dX6_open_32 (by decide) ?_
    refine V_iload2 dX6_open_34 ?_
    first | refine V_imul_n dX6_open_35 ?_ | refine V_imul dX6_open_35 ?_
    refine V_iload1 dX6_open_36 ?_
    first | refine V_iadd_n dX6_open_37 ?_ | refine V_iadd dX6_open_37 ?_
    refine V_iconst (nI 0) dX6_open_38 (by decide) ?_
    refine V_bastore (by decide) aZ_105 (by decide) rfl (by first | assumption | omega) (by first | exact bz_01 | exact nI_01 (Or.inl rfl) | exact nI_01 (Or.inr rfl) | assumption) dX6_open_39 ?_
    refine V_iload3 dX6_open_40 ?_
    first | refine V_if_eq_z 48 dX6_open_41 (by decide) (fun c41 => ?_) (fun c41 => ?_) | refine V_if_eq_n 48 dX6_open_41 (by decide) (by omega) (fun c41 => ?_) (fun c41 => ?_) | refine V_if_eq 48 dX6_open_41 (by decide) (fun c41 => ?_) (fun c41 => ?_)
    · refine V_iconst (nI 0) dX6_open_48 (by decide) ?_
      refine V_ireti dX6_open_49 ?_
      rw [O_open, ite_t c10, kx, ky, hpe]
      refine ⟨by first | exact bz_r1 c41 | exact bz_r0 c41, RB_net a (RBn_sh a.2.1 false) (by rw [wr_c _ _ _ (by decide)]) (by rw [wr_c _ _ _ (by decide)]) (by rw [wr_c _ _ _ (by decide)]) (by rw [wr_c _ _ _ (by decide)]) (by rw [wr_c _ _ _ (by decide)]) (by rw [wr_c _ _ _ (by decide)])⟩
    · refine V_iconst (nI 1) dX6_open_44 (by decide) ?_
      refine V_goto 49 dX6_open_45 (by decide) ?_
      refine V_ireti dX6_open_49 ?_
      rw [O_open, ite_t c10, kx, ky, hpe]
      refine ⟨by first | exact bz_r1 c41 | exact bz_r0 c41, RB_net a (RBn_sh a.2.1 false) (by rw [wr_c _ _ _ (by decide)]) (by rw [wr_c _ _ _ (by decide)]) (by rw [wr_c _ _ _ (by decide)]) (by rw [wr_c _ _ _ (by decide)]) (by rw [wr_c _ _ _ (by decide)]) (by rw [wr_c _ _ _ (by decide)])⟩
  · refine V_ldc ct_X6_82 dX6_open_13 ?_
    refine V_ireti dX6_open_15 ?_
    rw [O_open, ite_f c10]
    exact ⟨rfl, a⟩
set_option maxRecDepth 4000 in
theorem m_X6_line (G : GE) (h : Mem) (S : St) (i : Ok S) (a : RB S h) (x y : Int32) : Ct idsB G yX6_line cX6_line 3 (some .int) (rmD 2) [.ref (ad G 100), .int x, .int y] h (Qi fun rv h' => rv = (O_line S x y).1 ∧ RB (O_line S x y).2 h') := by
  refine Ct.of [some (.ref (ad G 100)), some (.int x), some (.int y)] (by decide) (Nat.le_of_ble_eq_true rfl) (lvE_ok 0 rfl) ?_
  refine V_aload0 dX6_line_0 ?_
  refine V_iconst (nI 0) dX6_line_1 (by decide) ?_
  refine pX6_62 dX6_line_2 ?_
  replace a := a.th (nI 0)
  generalize wr h 100 0 (nI 0) = g at a ⊢
  refine V_aload0 dX6_line_5 ?_
  refine V_iload1 dX6_line_6 ?_
  refine kX6_118 (m_X6_isPoint _ _ S.2.1 i.1 a.2.1 _) (rOK_d (by decide) (by decide)) (Nat.le_of_ble_eq_true rfl) dX6_line_7 (fun r7 h7 hq7 => ?_)
  obtain ⟨e_, rfl⟩ := hq7
  replace e_ := e_.symm
  subst e_
  first | refine V_if_eq_z 26 dX6_line_10 (by decide) (fun c10 => ?_) (fun c10 => ?_) | refine V_if_eq_n 26 dX6_line_10 (by decide) (by omega) (fun c10 => ?_) (fun c10 => ?_) | refine V_if_eq 26 dX6_line_10 (by decide) (fun c10 => ?_) (fun c10 => ?_)
  · refine V_ldc ct_X6_82 dX6_line_26 ?_
    refine V_ireti dX6_line_28 ?_
    first | rw [O_line, ite_f (show ¬ (inR x (nNp S.2.1) ∧ inR y (nNp S.2.1) ∧ x ≠ y) from fun z => c10 z.1)] | rw [O_line, ite_f (show ¬ (inR x (nNp S.2.1) ∧ inR y (nNp S.2.1) ∧ x ≠ y) from fun z => c18 z.2.1)] | rw [O_line, ite_f (show ¬ (inR x (nNp S.2.1) ∧ inR y (nNp S.2.1) ∧ x ≠ y) from fun z => z.2.2 c23)]
    exact ⟨rfl, a⟩
  · refine V_aload0 dX6_line_13 ?_
    refine V_iload2 dX6_line_14 ?_
    refine kX6_118 (m_X6_isPoint _ _ S.2.1 i.1 a.2.1 _) (rOK_d (by decide) (by decide)) (Nat.le_of_ble_eq_true rfl) dX6_line_15 (fun r15 h15 hq15 => ?_)
    obtain ⟨e_, rfl⟩ := hq15
    replace e_ := e_.symm
    subst e_
    first | refine V_if_eq_z 26 dX6_line_18 (by decide) (fun c18 => ?_) (fun c18 => ?_) | refine V_if_eq_n 26 dX6_line_18 (by decide) (by omega) (fun c18 => ?_) (fun c18 => ?_) | refine V_if_eq 26 dX6_line_18 (by decide) (fun c18 => ?_) (fun c18 => ?_)
    · refine V_ldc ct_X6_82 dX6_line_26 ?_
      refine V_ireti dX6_line_28 ?_
      first | rw [O_line, ite_f (show ¬ (inR x (nNp S.2.1) ∧ inR y (nNp S.2.1) ∧ x ≠ y) from fun z => c10 z.1)] | rw [O_line, ite_f (show ¬ (inR x (nNp S.2.1) ∧ inR y (nNp S.2.1) ∧ x ≠ y) from fun z => c18 z.2.1)] | rw [O_line, ite_f (show ¬ (inR x (nNp S.2.1) ∧ inR y (nNp S.2.1) ∧ x ≠ y) from fun z => z.2.2 c23)]
      exact ⟨rfl, a⟩
    · refine V_iload1 dX6_line_21 ?_
      refine V_iload2 dX6_line_22 ?_
      first | refine V_icmp_ne_n 29 dX6_line_23 (by decide) (by omega) (by omega) (fun c23 => ?_) (fun c23 => ?_) | refine V_icmp_ne 29 dX6_line_23 (by decide) (fun c23 => ?_) (fun c23 => ?_)
      · have hg : inR x (nNp S.2.1) ∧ inR y (nNp S.2.1) ∧ x ≠ y := ⟨c10, c18, c23⟩
        have i1 := i.1
        have hnp := i1.np
        have hnl := i1.nl
        obtain ⟨x', hx', rfl⟩ := (inR_iff (by omega)).mp c10
        obtain ⟨y', hy', rfl⟩ := (inR_iff (by omega)).mp c18
        have kx := cl_nI (show x' < 2 ^ 31 by omega)
        have ky := cl_nI (show y' < 2 ^ 31 by omega)
        refine V_aload0 dX6_line_29 ?_
        refine gX6_102 dX6_line_30 ?_
        rw [a.2.1.2.1]
        refine V_bipush (nI 12) dX6_line_33 (by decide) ?_
        first | refine V_icmp_ne_n 41 dX6_line_35 (by decide) (by omega) (by omega) (fun c35 => ?_) (fun c35 => ?_) | refine V_icmp_ne 41 dX6_line_35 (by decide) (fun c35 => ?_) (fun c35 => ?_)
        · refine V_aload0 dX6_line_41 ?_
          refine gX6_26 dX6_line_42 ?_
          refine V_aload0 dX6_line_45 ?_
          refine gX6_102 dX6_line_46 ?_
          rw [a.2.1.2.1]
          refine V_iload1 dX6_line_49 ?_
          refine V_iastore (by decide) aI_109 (by decide) rfl (show nNl S.2.1 < 12 by omega) dX6_line_50 ?_
          refine V_aload0 dX6_line_51 ?_
          refine gX6_29 dX6_line_52 ?_
          refine V_aload0 dX6_line_55 ?_
          refine gX6_102 dX6_line_56 ?_
          rw [wr_c _ _ _ (by decide), a.2.1.2.1]
          refine V_iload2 dX6_line_59 ?_
          refine V_iastore (by decide) aI_110 (by decide) rfl (show nNl S.2.1 < 12 by omega) dX6_line_60 ?_
          refine V_aload0 dX6_line_61 ?_
          refine V_dup dX6_line_62 rfl ?_
          refine gX6_102 dX6_line_63 ?_
          rw [wr_c _ _ _ (by decide), wr_c _ _ _ (by decide), a.2.1.2.1]
          refine V_iconst (nI 1) dX6_line_66 (by decide) ?_
          first | refine V_iadd_n dX6_line_67 ?_ | refine V_iadd dX6_line_67 ?_
          refine pX6_102 dX6_line_68 ?_
          refine V_aload0 dX6_line_71 ?_
          refine gX6_102 dX6_line_72 ?_
          rw [wr_s]
          refine V_iconst (nI 1) dX6_line_75 (by decide) ?_
          first | refine V_isub_n dX6_line_76 (by omega) ?_ | refine V_isub dX6_line_76 ?_
          refine V_ireti dX6_line_77 ?_
          rw [O_line, ite_t hg, ite_f (show ¬ 12 ≤ nNl S.2.1 by omega), kx, ky]
          exact ⟨rfl, RB_net a (RBn_addL i1 a.2.1 _ _) (by rw [wr_c _ _ _ (by decide), wr_c _ _ _ (by decide), wr_c _ _ _ (by decide)]) (by rw [wr_c _ _ _ (by decide), wr_c _ _ _ (by decide), wr_c _ _ _ (by decide)]) (by rw [wr_c _ _ _ (by decide), wr_c _ _ _ (by decide), wr_c _ _ _ (by decide)]) (by rw [wr_c _ _ _ (by decide), wr_c _ _ _ (by decide), wr_c _ _ _ (by decide)]) (by rw [wr_j _ _ (by decide), wr_c _ _ _ (by decide), wr_c _ _ _ (by decide)]) (by rw [wr_j _ _ (by decide), wr_c _ _ _ (by decide), wr_c _ _ _ (by decide)])⟩
        · refine V_ldc ct_X6_101 dX6_line_38 ?_
          refine V_ireti dX6_line_40 ?_
          rw [O_line, ite_t hg, ite_t (show 12 ≤ nNl S.2.1 by omega)]
          exact ⟨rfl, a⟩
      · refine V_ldc ct_X6_82 dX6_line_26 ?_
        refine V_ireti dX6_line_28 ?_
        first | rw [O_line, ite_f (show ¬ (inR x (nNp S.2.1) ∧ inR y (nNp S.2.1) ∧ x ≠ y) from fun z => c10 z.1)] | rw [O_line, ite_f (show ¬ (inR x (nNp S.2.1) ∧ inR y (nNp S.2.1) ∧ x ≠ y) from fun z => c18 z.2.1)] | rw [O_line, ite_f (show ¬ (inR x (nNp S.2.1) ∧ inR y (nNp S.2.1) ∧ x ≠ y) from fun z => z.2.2 c23)]
        exact ⟨rfl, a⟩
