theorem cp_gt {sz : Nat} {x n : Int32} (hs : sz ≤ 60) (hx : ¬ x < 0) (hn : ¬ n < 0) : 0 < lg_cmp (x.toInt64 + n.toInt64) (nI sz).toInt64 ↔ ¬ hld sz x n := by
  have e0 : (0 : Int32).toInt = 0 := by decide
  have b1 := fb_rng x
  have b2 := fb_rng n
  rw [fa_lt] at hx hn
  have t1 := nI_toInt (n := sz) (by omega)
  have t2 : (nI sz - n).toInt = (sz : Int) - n.toInt := by rw [fb_subI (by omega) (by omega), t1]
  have t3 : (x.toInt64 + n.toInt64).toInt = x.toInt + n.toInt := by rw [fb_addL (by rw [Int32.toInt_toInt64, Int32.toInt_toInt64]; omega) (by rw [Int32.toInt_toInt64, Int32.toInt_toInt64]; omega), Int32.toInt_toInt64, Int32.toInt_toInt64]
  unfold hld
  rw [lg_cmp_gt, fa_lt64, Int32.toInt_toInt64, t1, t3, fa_le, fa_le, fa_le, t2]
  omega
set_option maxRecDepth 4000 in
theorem m_X6_drop (G : GE) (h : Mem) (S : St) (i : Ok S) (a : RB S h) (s : Int32) : Ct idsB G yX6_drop cX6_drop 2 (some .int) (rmD 2) [.ref (ad G 100), .int s] h (Qi fun rv h' => rv = (O_drop S s).1 ∧ RB (O_drop S s).2 h') := by
  refine Ct.of [some (.ref (ad G 100)), some (.int s)] (by decide) (Nat.le_of_ble_eq_true rfl) (lvE_ok 0 rfl) ?_
  refine V_aload0 dX6_drop_0 ?_
  refine V_iconst (nI 0) dX6_drop_1 (by decide) ?_
  refine pX6_62 dX6_drop_2 ?_
  replace a := a.th (nI 0)
  generalize wr h 100 0 (nI 0) = g at a ⊢
  refine V_iload1 dX6_drop_5 ?_
  refine kX6_76 (m_X6_isSheet _ _ _) (rOK_d (by decide) (by decide)) (Nat.le_of_ble_eq_true rfl) dX6_drop_6 (fun r6 h6 hq6 => ?_)
  obtain ⟨e_, rfl⟩ := hq6
  replace e_ := e_.symm
  subst e_
  first | refine V_if_ne_z 15 dX6_drop_9 (by decide) (fun c9 => ?_) (fun c9 => ?_) | refine V_if_ne_n 15 dX6_drop_9 (by decide) (by omega) (fun c9 => ?_) (fun c9 => ?_) | refine V_if_ne 15 dX6_drop_9 (by decide) (fun c9 => ?_) (fun c9 => ?_)
  · have hg := c9
    obtain ⟨s', hs', rfl⟩ := (inR_iff (by decide)).mp c9
    have ks := cl_nI (show s' < 2 ^ 31 by omega)
    refine V_aload0 dX6_drop_15 ?_
    refine V_iconst (nI 0) dX6_drop_16 (by decide) ?_
    refine pX6_66 dX6_drop_17 ?_
    replace a := a.st 0
    generalize wr g 100 1 (nI 0) = g1 at a ⊢
    obtain ⟨l1, l2⟩ := ln_neg a.1 hs'
    refine V_aload0 dX6_drop_20 ?_
    refine gX6_7 dX6_drop_21 ?_
    refine V_iload1 dX6_drop_24 ?_
    refine V_iaload (by decide) aI_102 (by decide) rfl (by first | assumption | omega) dX6_drop_25 ?_
    rw [l1]
    first | refine V_if_ge_n 35 dX6_drop_26 (by decide) (by omega) (fun c26 => ?_) (fun c26 => ?_) | refine V_if_ge 35 dX6_drop_26 (by decide) (fun c26 => ?_) (fun c26 => ?_)
    · refine V_aload0 dX6_drop_35 ?_
      refine gX6_7 dX6_drop_36 ?_
      refine V_iload1 dX6_drop_39 ?_
      refine V_iconst (-1) dX6_drop_40 (by decide) ?_
      refine V_iastore (by decide) aI_102 (by decide) rfl (by first | assumption | omega) dX6_drop_41 ?_
      refine V_aload0 dX6_drop_42 ?_
      refine gX6_13 dX6_drop_43 ?_
      refine V_iload1 dX6_drop_46 ?_
      refine V_iaload (by decide) aI_103 (by decide) rfl (by first | assumption | omega) dX6_drop_47 ?_
      refine V_ireti dX6_drop_48 ?_
      have hn : ¬ S.1.1 s' = -1 := fun z => i_le_n c26 (l2.mpr z)
      obtain ⟨y1, y2, y3, y4, y5⟩ := (a.1 s' hs').resolve_left (fun z => hn z.1)
      rw [O_drop, ite_t hg, ks, ite_f hn]
      refine ⟨by rw [wr_c _ _ _ (by decide)]; exact y4, RB_sheets (cs := [102]) a (same.rf.wr _ _ (by decide)) (by decide) (RBs_up a.1 (fun i hi hne => ⟨wr_j _ _ hne, by rw [wr_c _ _ _ (by decide)], fun j hj => by rw [wr_c _ _ _ (by decide)]⟩) (Or.inl ⟨rfl, wr_s _ _ _ _⟩))⟩
    · refine V_aload0 dX6_drop_29 ?_
      refine V_iconst (nI 1) dX6_drop_30 (by decide) ?_
      refine kX6_83 (m_X6_found _ _ _) (rOK_d (by decide) (by decide)) (Nat.le_of_ble_eq_true rfl) dX6_drop_31 (fun r31 h31 hq31 => ?_)
      obtain ⟨e_, rfl⟩ := hq31
      replace e_ := e_.symm
      subst e_
      refine V_ireti dX6_drop_34 ?_
      rw [O_drop, ite_t hg, ks, ite_t (l2.mp (i_nle c26))]
      exact ⟨rfl, a.st 1⟩
  · refine V_ldc ct_X6_82 dX6_drop_12 ?_
    refine V_ireti dX6_drop_14 ?_
    rw [O_drop, ite_f c9]
    exact ⟨rfl, a⟩
set_option maxRecDepth 4000 in
theorem m_X6_set (G : GE) (h : Mem) (S : St) (i : Ok S) (a : RB S h) (s x v : Int32) : Ct idsB G yX6_set cX6_set 4 (some .int) (rmD 2) [.ref (ad G 100), .int s, .int x, .int v] h (Qi fun rv h' => rv = (O_set S s x v).1 ∧ RB (O_set S s x v).2 h') := by
  refine Ct.of [some (.ref (ad G 100)), some (.int s), some (.int x), some (.int v)] (by decide) (Nat.le_of_ble_eq_true rfl) (lvE_ok 0 rfl) ?_
  refine V_aload0 dX6_set_0 ?_
  refine V_iconst (nI 0) dX6_set_1 (by decide) ?_
  refine pX6_62 dX6_set_2 ?_
  replace a := a.th (nI 0)
  generalize wr h 100 0 (nI 0) = g at a ⊢
  refine V_iload1 dX6_set_5 ?_
  refine kX6_76 (m_X6_isSheet _ _ _) (rOK_d (by decide) (by decide)) (Nat.le_of_ble_eq_true rfl) dX6_set_6 (fun r6 h6 hq6 => ?_)
  obtain ⟨e_, rfl⟩ := hq6
  replace e_ := e_.symm
  subst e_
  first | refine V_if_ne_z 15 dX6_set_9 (by decide) (fun c9 => ?_) (fun c9 => ?_) | refine V_if_ne_n 15 dX6_set_9 (by decide) (by omega) (fun c9 => ?_) (fun c9 => ?_) | refine V_if_ne 15 dX6_set_9 (by decide) (fun c9 => ?_) (fun c9 => ?_)
  · have hg := c9
    obtain ⟨s', hs', rfl⟩ := (inR_iff (by decide)).mp c9
    have ks := cl_nI (show s' < 2 ^ 31 by omega)
    refine V_aload0 dX6_set_15 ?_
    refine V_iconst (nI 0) dX6_set_16 (by decide) ?_
    refine pX6_66 dX6_set_17 ?_
    replace a := a.st 0
    generalize wr g 100 1 (nI 0) = g1 at a ⊢
    obtain ⟨l1, l2⟩ := ln_neg a.1 hs'
    refine V_aload0 dX6_set_20 ?_
    refine gX6_7 dX6_set_21 ?_
    refine V_iload1 dX6_set_24 ?_
    refine V_iaload (by decide) aI_102 (by decide) rfl (by first | assumption | omega) dX6_set_25 ?_
    rw [l1]
    first | refine V_if_ge_n 35 dX6_set_26 (by decide) (by omega) (fun c26 => ?_) (fun c26 => ?_) | refine V_if_ge 35 dX6_set_26 (by decide) (fun c26 => ?_) (fun c26 => ?_)
    · have hn : ¬ S.1.1 s' = -1 := fun z => i_le_n c26 (l2.mpr z)
      obtain ⟨y1, y2, y3, y4, y5⟩ := (a.1 s' hs').resolve_left (fun z => hn z.1)
      replace y2 : S.1.2.1 s' ≤ 60 := y2
      replace y4 : g1 103 s' = nI (S.1.2.1 s') := y4
      refine V_iload2 dX6_set_35 ?_
      refine V_i2l dX6_set_36 ?_
      refine V_lconst 0 dX6_set_37 (by decide) ?_
      refine V_aload0 dX6_set_38 ?_
      refine gX6_13 dX6_set_39 ?_
      refine V_iload1 dX6_set_42 ?_
      refine V_iaload (by decide) aI_103 (by decide) rfl (by first | assumption | omega) dX6_set_43 ?_
      rw [y4]
      refine V_iconst (nI 1) dX6_set_44 (by decide) ?_
      refine V_isub dX6_set_45 ?_
      refine V_i2l dX6_set_46 ?_
      refine kX6_72 (m_X6_in _ _ _ _ _) (rOK_d (by decide) (by decide)) (Nat.le_of_ble_eq_true rfl) dX6_set_47 (fun r47 h47 hq47 => ?_)
      obtain ⟨e_, rfl⟩ := hq47
      replace e_ := e_.symm
      subst e_
      rw [bz_c (in_r x (p := 0) (q := nI (S.1.2.1 s') - nI 1) (by decide) (Int32.toInt_toInt64 _))]
      first | refine V_if_ne_z 59 dX6_set_50 (by decide) (fun c50 => ?_) (fun c50 => ?_) | refine V_if_ne_n 59 dX6_set_50 (by decide) (by omega) (fun c50 => ?_) (fun c50 => ?_) | refine V_if_ne 59 dX6_set_50 (by decide) (fun c50 => ?_) (fun c50 => ?_)
      · have hh : hld (S.1.2.1 s') x (nI 1) := ⟨c50.1, by decide, c50.2⟩
        obtain ⟨j, k, rfl, hk1, hjk⟩ := (hld_iff y2).mp hh
        have hj : j < S.1.2.1 s' := by
          have e2 := nI_toInt (n := k) (by omega)
          rw [← hk1, nI_toInt (by decide)] at e2
          omega
        have kj := cl_nI (show j < 2 ^ 31 by omega)
        refine V_aload0 dX6_set_59 ?_
        refine gX6_16 dX6_set_60 ?_
        refine V_bipush (nI 60) dX6_set_63 (by decide) ?_
        refine V_iload1 dX6_set_65 ?_
        first | refine V_imul_n dX6_set_66 ?_ | refine V_imul dX6_set_66 ?_
        refine V_iload2 dX6_set_67 ?_
        first | refine V_iadd_n dX6_set_68 ?_ | refine V_iadd dX6_set_68 ?_
        refine V_aload0 dX6_set_69 ?_
        refine gX6_7 dX6_set_70 ?_
        refine V_iload1 dX6_set_73 ?_
        refine V_iaload (by decide) aI_102 (by decide) rfl (by first | assumption | omega) dX6_set_74 ?_
        rw [l1]
        first | refine V_if_ne_z 83 dX6_set_75 (by decide) (fun c75 => ?_) (fun c75 => ?_) | refine V_if_ne_n 83 dX6_set_75 (by decide) (by omega) (fun c75 => ?_) (fun c75 => ?_) | refine V_if_ne 83 dX6_set_75 (by decide) (fun c75 => ?_) (fun c75 => ?_)
        · refine V_aload0 dX6_set_83 ?_
          refine gX6_7 dX6_set_84 ?_
          refine V_iload1 dX6_set_87 ?_
          refine V_iaload (by decide) aI_102 (by decide) rfl (by first | assumption | omega) dX6_set_88 ?_
          rw [l1]
          refine V_iconst (nI 1) dX6_set_89 (by decide) ?_
          first | refine V_icmp_ne_n 98 dX6_set_90 (by decide) (by omega) (by omega) (fun c90 => ?_) (fun c90 => ?_) | refine V_icmp_ne 98 dX6_set_90 (by decide) (fun c90 => ?_) (fun c90 => ?_)
          · refine V_iload3 dX6_set_98 ?_
            refine V_iastore (by decide) aI_104 (by decide) rfl (by first | assumption | omega) dX6_set_99 ?_
            refine V_aload0 dX6_set_100 ?_
            refine gX6_16 dX6_set_101 ?_
            refine V_bipush (nI 60) dX6_set_104 (by decide) ?_
            refine V_iload1 dX6_set_106 ?_
            first | refine V_imul_n dX6_set_107 ?_ | refine V_imul dX6_set_107 ?_
            refine V_iload2 dX6_set_108 ?_
            first | refine V_iadd_n dX6_set_109 ?_ | refine V_iadd dX6_set_109 ?_
            refine V_iaload (by decide) aI_104 (by decide) rfl (by first | assumption | omega) dX6_set_110 ?_
            rw [wr_s]
            refine V_ireti dX6_set_111 ?_
            rw [O_set, ite_t hg, ks, ite_f hn, ite_t hh, kj]
            first
            | rw [show nrw (S.1.1 s') v = v.toInt8.toInt32 from if_pos c75]
            | rw [show nrw (S.1.1 s') v = v.toInt16.toInt32 from (if_neg c75).trans (if_pos c90)]
            | rw [show nrw (S.1.1 s') v = v from (if_neg c75).trans (if_neg c90)]
            refine ⟨rfl, RB_sheets (cs := [104]) a (same.rf.wr _ _ (by decide)) (by decide) (RBs_up a.1 (fun i hi hne => ⟨by rw [wr_c _ _ _ (by decide)], by rw [wr_c _ _ _ (by decide)], fun t ht => by rw [wr_j _ _ (by omega)]⟩) (Or.inr ⟨y1, y2, by rw [wr_c _ _ _ (by decide)]; exact y3, by rw [wr_c _ _ _ (by decide)]; exact y4, fun t ht => ?_⟩))⟩
            by_cases e : t = j
            · rw [e, wr_s, pk_us]
            · rw [wr_j _ _ (by omega), pk_un e]; exact y5 t ht
          · refine V_iload3 dX6_set_93 ?_
            refine V_i2s dX6_set_94 ?_
            refine V_goto 99 dX6_set_95 (by decide) ?_
            refine V_iastore (by decide) aI_104 (by decide) rfl (by first | assumption | omega) dX6_set_99 ?_
            refine V_aload0 dX6_set_100 ?_
            refine gX6_16 dX6_set_101 ?_
            refine V_bipush (nI 60) dX6_set_104 (by decide) ?_
            refine V_iload1 dX6_set_106 ?_
            first | refine V_imul_n dX6_set_107 ?_ | refine V_imul dX6_set_107 ?_
            refine V_iload2 dX6_set_108 ?_
            first | refine V_iadd_n dX6_set_109 ?_ | refine V_iadd dX6_set_109 ?_
            refine V_iaload (by decide) aI_104 (by decide) rfl (by first | assumption | omega) dX6_set_110 ?_
            rw [wr_s]
            refine V_ireti dX6_set_111 ?_
            rw [O_set, ite_t hg, ks, ite_f hn, ite_t hh, kj]
            first
            | rw [show nrw (S.1.1 s') v = v.toInt8.toInt32 from if_pos c75]
            | rw [show nrw (S.1.1 s') v = v.toInt16.toInt32 from (if_neg c75).trans (if_pos c90)]
            | rw [show nrw (S.1.1 s') v = v from (if_neg c75).trans (if_neg c90)]
            refine ⟨rfl, RB_sheets (cs := [104]) a (same.rf.wr _ _ (by decide)) (by decide) (RBs_up a.1 (fun i hi hne => ⟨by rw [wr_c _ _ _ (by decide)], by rw [wr_c _ _ _ (by decide)], fun t ht => by rw [wr_j _ _ (by omega)]⟩) (Or.inr ⟨y1, y2, by rw [wr_c _ _ _ (by decide)]; exact y3, by rw [wr_c _ _ _ (by decide)]; exact y4, fun t ht => ?_⟩))⟩
            by_cases e : t = j
            · rw [e, wr_s, pk_us]
            · rw [wr_j _ _ (by omega), pk_un e]; exact y5 t ht
        · refine V_iload3 dX6_set_78 ?_
          refine V_i2b dX6_set_79 ?_
          refine V_goto 99 dX6_set_80 (by decide) ?_
          refine V_iastore (by decide) aI_104 (by decide) rfl (by first | assumption | omega) dX6_set_99 ?_
          refine V_aload0 dX6_set_100 ?_
          refine gX6_16 dX6_set_101 ?_
          refine V_bipush (nI 60) dX6_set_104 (by decide) ?_
          refine V_iload1 dX6_set_106 ?_
          first | refine V_imul_n dX6_set_107 ?_ | refine V_imul dX6_set_107 ?_
          refine V_iload2 dX6_set_108 ?_
          first | refine V_iadd_n dX6_set_109 ?_ | refine V_iadd dX6_set_109 ?_
          refine V_iaload (by decide) aI_104 (by decide) rfl (by first | assumption | omega) dX6_set_110 ?_
          rw [wr_s]
          refine V_ireti dX6_set_111 ?_
          rw [O_set, ite_t hg, ks, ite_f hn, ite_t hh, kj]
          first
          | rw [show nrw (S.1.1 s') v = v.toInt8.toInt32 from if_pos c75]
          | rw [show nrw (S.1.1 s') v = v.toInt16.toInt32 from (if_neg c75).trans (if_pos c90)]
          | rw [show nrw (S.1.1 s') v = v from (if_neg c75).trans (if_neg c90)]
          refine ⟨rfl, RB_sheets (cs := [104]) a (same.rf.wr _ _ (by decide)) (by decide) (RBs_up a.1 (fun i hi hne => ⟨by rw [wr_c _ _ _ (by decide)], by rw [wr_c _ _ _ (by decide)], fun t ht => by rw [wr_j _ _ (by omega)]⟩) (Or.inr ⟨y1, y2, by rw [wr_c _ _ _ (by decide)]; exact y3, by rw [wr_c _ _ _ (by decide)]; exact y4, fun t ht => ?_⟩))⟩
          by_cases e : t = j
          · rw [e, wr_s, pk_us]
          · rw [wr_j _ _ (by omega), pk_un e]; exact y5 t ht
      · refine V_aload0 dX6_set_53 ?_
        refine V_iconst (nI 2) dX6_set_54 (by decide) ?_
        refine kX6_83 (m_X6_found _ _ _) (rOK_d (by decide) (by decide)) (Nat.le_of_ble_eq_true rfl) dX6_set_55 (fun r55 h55 hq55 => ?_)
        obtain ⟨e_, rfl⟩ := hq55
        replace e_ := e_.symm
        subst e_
        refine V_ireti dX6_set_58 ?_
        rw [O_set, ite_t hg, ks, ite_f hn, ite_f (fun z => c50 ⟨z.1, z.2.2⟩)]
        exact ⟨rfl, a.st 2⟩
    · refine V_aload0 dX6_set_29 ?_
      refine V_iconst (nI 1) dX6_set_30 (by decide) ?_
      refine kX6_83 (m_X6_found _ _ _) (rOK_d (by decide) (by decide)) (Nat.le_of_ble_eq_true rfl) dX6_set_31 (fun r31 h31 hq31 => ?_)
      obtain ⟨e_, rfl⟩ := hq31
      replace e_ := e_.symm
      subst e_
      refine V_ireti dX6_set_34 ?_
      rw [O_set, ite_t hg, ks, ite_t (l2.mp (i_nle c26))]
      exact ⟨rfl, a.st 1⟩
  · refine V_ldc ct_X6_82 dX6_set_12 ?_
    refine V_ireti dX6_set_14 ?_
    rw [O_set, ite_f c9]
    exact ⟨rfl, a⟩
