theorem neg1_ne {n : Nat} (h : n < 2 ^ 31) : ¬ nI n = -1 := fun e => by
  have h1 := nI_toInt h
  rw [e] at h1
  have : (-1 : Int32).toInt = -1 := by decide
  omega
set_option maxRecDepth 4000 in
theorem m_X5_sheet (G : GE) (h : Mem) (S : St) (a : RA S h) (s l n : Int32) : Ct idsA G yX5_sheet cX5_sheet 4 (some .int) (rmD 1) [.ref (ad G 0), .int s, .int l, .int n] h (Qi fun rv h' => rv = (O_sheet S s l n).1 ∧ RA (O_sheet S s l n).2 h') := by
  refine Ct.of [some (.ref (ad G 0)), some (.int s), some (.int l), some (.int n)] (by decide) (Nat.le_of_ble_eq_true rfl) (lvE_ok 0 rfl) ?_
  refine V_iload1 dX5_sheet_0 ?_
  refine kX5_53 (m_X5_isSheet _ _ _) (rOK_d (by decide) (by decide)) (Nat.le_of_ble_eq_true rfl) dX5_sheet_1 (fun r1 h1 hq1 => ?_)
  obtain ⟨e_, rfl⟩ := hq1
  replace e_ := e_.symm
  subst e_
  first | refine V_if_eq_z 22 dX5_sheet_4 (by decide) (fun c4 => ?_) (fun c4 => ?_) | refine V_if_eq_n 22 dX5_sheet_4 (by decide) (by omega) (fun c4 => ?_) (fun c4 => ?_) | refine V_if_eq 22 dX5_sheet_4 (by decide) (fun c4 => ?_) (fun c4 => ?_)
  · refine V_ldc ct_X5_57 dX5_sheet_22 ?_
    refine V_ireti dX5_sheet_24 ?_
    first | rw [O_sheet, ite_f (show ¬ (inR s 8 ∧ inR l 3 ∧ n ≤ nI 60) from fun z => c4 z.1)] | rw [O_sheet, ite_f (show ¬ (inR (nI s') 8 ∧ inR l 3 ∧ n ≤ nI 60) from fun z => by first | exact i_lt_n c8 z.2.1.1 | exact i_lt_n z.2.1.2 c13 | exact c19 z.2.2)]
    exact ⟨rfl, a⟩
  · obtain ⟨s', hs', rfl⟩ := (inR_iff (by decide)).mp c4
    have hcs := cl_nI (show s' < 2 ^ 31 by omega)
    refine V_iload2 dX5_sheet_7 ?_
    first | refine V_if_lt_n 22 dX5_sheet_8 (by decide) (by omega) (fun c8 => ?_) (fun c8 => ?_) | refine V_if_lt 22 dX5_sheet_8 (by decide) (fun c8 => ?_) (fun c8 => ?_)
    · refine V_ldc ct_X5_57 dX5_sheet_22 ?_
      refine V_ireti dX5_sheet_24 ?_
      first | rw [O_sheet, ite_f (show ¬ (inR s 8 ∧ inR l 3 ∧ n ≤ nI 60) from fun z => c4 z.1)] | rw [O_sheet, ite_f (show ¬ (inR (nI s') 8 ∧ inR l 3 ∧ n ≤ nI 60) from fun z => by first | exact i_lt_n c8 z.2.1.1 | exact i_lt_n z.2.1.2 c13 | exact c19 z.2.2)]
      exact ⟨rfl, a⟩
    · refine V_iload2 dX5_sheet_11 ?_
      refine V_iconst (nI 3) dX5_sheet_12 (by decide) ?_
      first | refine V_icmp_ge_n 22 dX5_sheet_13 (by decide) (by omega) (by omega) (fun c13 => ?_) (fun c13 => ?_) | refine V_icmp_ge 22 dX5_sheet_13 (by decide) (fun c13 => ?_) (fun c13 => ?_)
      · refine V_ldc ct_X5_57 dX5_sheet_22 ?_
        refine V_ireti dX5_sheet_24 ?_
        first | rw [O_sheet, ite_f (show ¬ (inR s 8 ∧ inR l 3 ∧ n ≤ nI 60) from fun z => c4 z.1)] | rw [O_sheet, ite_f (show ¬ (inR (nI s') 8 ∧ inR l 3 ∧ n ≤ nI 60) from fun z => by first | exact i_lt_n c8 z.2.1.1 | exact i_lt_n z.2.1.2 c13 | exact c19 z.2.2)]
        exact ⟨rfl, a⟩
      · refine V_iload3 dX5_sheet_16 ?_
        refine V_bipush (nI 60) dX5_sheet_17 (by decide) ?_
        first | refine V_icmp_le_n 25 dX5_sheet_19 (by decide) (by omega) (by omega) (fun c19 => ?_) (fun c19 => ?_) | refine V_icmp_le 25 dX5_sheet_19 (by decide) (fun c19 => ?_) (fun c19 => ?_)
        · have hg : inR (nI s') 8 ∧ inR l 3 ∧ n ≤ nI 60 := ⟨c4, ⟨i_nlt c8, i_nle c13⟩, c19⟩
          refine V_iload3 dX5_sheet_25 ?_
          first | refine V_if_ge_n 35 dX5_sheet_26 (by decide) (by omega) (fun c26 => ?_) (fun c26 => ?_) | refine V_if_ge 35 dX5_sheet_26 (by decide) (fun c26 => ?_) (fun c26 => ?_)
          · obtain ⟨n', hn', rfl⟩ := nI_of2 (n := 60) (show (nI 60).toInt = (60 : Nat) by decide) (i_le_n c26) c19
            have hcn := cl_nI (show n' < 2 ^ 31 by omega)
            refine V_aload0 dX5_sheet_35 ?_
            refine gX5_11 dX5_sheet_36 ?_
            refine V_iload1 dX5_sheet_39 ?_
            refine V_aaloadS (by decide) rfl (by first | assumption | omega) dX5_sheet_40 ?_
            refine V_iload2 dX5_sheet_41 ?_
            refine V_iload3 dX5_sheet_42 ?_
            refine kX5_62 (by first | assumption | omega) (m_X3_begin _ _ _ _ _ (by first | assumption | omega) (by first | assumption | omega)) (rOK_d (by decide) (by decide)) (Nat.le_of_ble_eq_true rfl) dX5_sheet_43 (fun h43 hq43 => ?_)
            obtain ⟨t1, t2, t3, t4⟩ := hq43
            refine V_aload0 dX5_sheet_46 ?_
            refine V_iload3 dX5_sheet_47 ?_
            refine kX5_66 (m_X5_unfound _ _ _) (rOK_d (by decide) (by decide)) (Nat.le_of_ble_eq_true rfl) dX5_sheet_48 (fun r48 h48 hq48 => ?_)
            obtain ⟨e_, rfl⟩ := hq48
            replace e_ := e_.symm
            subst e_
            refine V_ireti dX5_sheet_51 ?_
            rw [O_sheet, ite_t hg, ite_f (i_le_n c26), hcs, hcn]
            exact ⟨rfl, RA_cells a hs' t1 (RAs_up a.1 hs' t1 (Or.inr ⟨hg.2.1, hn', t2, t3, fun j hj => (t4 j hj).trans nI_0⟩))⟩
          · refine V_aload0 dX5_sheet_29 ?_
            refine V_iconst (nI 4) dX5_sheet_30 (by decide) ?_
            refine kX5_58 (m_X5_found _ _ _) (rOK_d (by decide) (by decide)) (Nat.le_of_ble_eq_true rfl) dX5_sheet_31 (fun r31 h31 hq31 => ?_)
            obtain ⟨e_, rfl⟩ := hq31
            replace e_ := e_.symm
            subst e_
            refine V_ireti dX5_sheet_34 ?_
            rw [O_sheet, ite_t hg, ite_t (i_nle c26)]
            exact ⟨rfl, RA_fnd a 4⟩
        · refine V_ldc ct_X5_57 dX5_sheet_22 ?_
          refine V_ireti dX5_sheet_24 ?_
          first | rw [O_sheet, ite_f (show ¬ (inR s 8 ∧ inR l 3 ∧ n ≤ nI 60) from fun z => c4 z.1)] | rw [O_sheet, ite_f (show ¬ (inR (nI s') 8 ∧ inR l 3 ∧ n ≤ nI 60) from fun z => by first | exact i_lt_n c8 z.2.1.1 | exact i_lt_n z.2.1.2 c13 | exact c19 z.2.2)]
          exact ⟨rfl, a⟩
set_option maxRecDepth 4000 in
theorem m_X5_set (G : GE) (h : Mem) (S : St) (a : RA S h) (s i v : Int32) : Ct idsA G yX5_set cX5_set 5 (some .int) (rmD 1) [.ref (ad G 0), .int s, .int i, .int v] h (Qi fun rv h' => rv = (O_set S s i v).1 ∧ RA (O_set S s i v).2 h') := by
  refine Ct.of [some (.ref (ad G 0)), some (.int s), some (.int i), some (.int v), none] (by decide) (Nat.le_of_ble_eq_true rfl) (lvE_ok 1 rfl) ?_
  refine V_iload1 dX5_set_0 ?_
  refine kX5_53 (m_X5_isSheet _ _ _) (rOK_d (by decide) (by decide)) (Nat.le_of_ble_eq_true rfl) dX5_set_1 (fun r1 h1 hq1 => ?_)
  obtain ⟨e_, rfl⟩ := hq1
  replace e_ := e_.symm
  subst e_
  first | refine V_if_ne_z 10 dX5_set_4 (by decide) (fun c4 => ?_) (fun c4 => ?_) | refine V_if_ne_n 10 dX5_set_4 (by decide) (by omega) (fun c4 => ?_) (fun c4 => ?_) | refine V_if_ne 10 dX5_set_4 (by decide) (fun c4 => ?_) (fun c4 => ?_)
  · obtain ⟨s', hs', rfl⟩ := (inR_iff (by decide)).mp c4
    have hcs := cl_nI (show s' < 2 ^ 31 by omega)
    have hsh := a.1 s' hs'
    refine V_aload0 dX5_set_10 ?_
    refine gX5_11 dX5_set_11 ?_
    refine V_iload1 dX5_set_14 ?_
    refine V_aaloadS (by decide) rfl (by first | assumption | omega) dX5_set_15 ?_
    refine V_astore4 dX5_set_16 (by decide) rfl ?_
    refine V_aload4 dX5_set_18 ?_
    refine kX5_69 (by first | assumption | omega) (m_X3_isMissing _ _ _ (by first | assumption | omega)) (rOK_d (by decide) (by decide)) (Nat.le_of_ble_eq_true rfl) dX5_set_20 (fun r20 h20 hq20 => ?_)
    obtain ⟨e_, rfl⟩ := hq20
    replace e_ := e_.symm
    subst e_
    first | refine V_if_eq_z 32 dX5_set_23 (by decide) (fun c23 => ?_) (fun c23 => ?_) | refine V_if_eq_n 32 dX5_set_23 (by decide) (by omega) (fun c23 => ?_) (fun c23 => ?_) | refine V_if_eq 32 dX5_set_23 (by decide) (fun c23 => ?_) (fun c23 => ?_)
    · have hth : S.1.1 s' ≠ -1 ∧ inR (S.1.1 s') 3 ∧ S.1.2.1 s' ≤ 60 ∧ h (20 + s') 1 = S.1.1 s' ∧ h (20 + s') 2 = nI (S.1.2.1 s') ∧ ∀ j, j < S.1.2.1 s' → h (30 + s') j = S.1.2.2 s' j := by
        rcases hsh with ⟨z1, z2⟩ | ⟨z1, z2⟩
        · exact absurd z2 c23
        · exact ⟨fun e => by rw [e] at z1; exact absurd z1 (by decide), z1, z2⟩
      obtain ⟨g1, g2, g3, g4, g5, g6⟩ := hth
      refine V_aload4 dX5_set_32 ?_
      refine V_iload2 dX5_set_34 ?_
      refine V_iconst (nI 1) dX5_set_35 (by decide) ?_
      refine kX5_73 (by first | assumption | omega) (m_X3_holds _ _ _ (by first | assumption | omega) _ _) (rOK_d (by decide) (by decide)) (Nat.le_of_ble_eq_true rfl) dX5_set_36 (fun r36 h36 hq36 => ?_)
      obtain ⟨e_, rfl⟩ := hq36
      replace e_ := e_.symm
      subst e_
      rw [g5]
      first | refine V_if_ne_z 48 dX5_set_39 (by decide) (fun c39 => ?_) (fun c39 => ?_) | refine V_if_ne_n 48 dX5_set_39 (by decide) (by omega) (fun c39 => ?_) (fun c39 => ?_) | refine V_if_ne 48 dX5_set_39 (by decide) (fun c39 => ?_) (fun c39 => ?_)
      · obtain ⟨j, k, rfl, hk1, hjk⟩ := (hld_iff g3).mp c39
        have hk2 : k = 1 := ((nI_eq (by omega) (by decide)).mp hk1.symm)
        have hcj := cl_nI (show j < 2 ^ 31 by omega)
        refine V_aload0 dX5_set_48 ?_
        refine V_aload4 dX5_set_49 ?_
        refine V_iload2 dX5_set_51 ?_
        refine V_iload3 dX5_set_52 ?_
        refine kX5_77 (by first | assumption | omega) (m_X3_put _ _ _ (by first | assumption | omega) _ (by first | assumption | omega) _) (rOK_d (by decide) (by decide)) (Nat.le_of_ble_eq_true rfl) dX5_set_53 (fun r53 h53 hq53 => ?_)
        obtain ⟨e_, rfl⟩ := hq53
        replace e_ := e_.symm
        subst e_
        refine kX5_66 (m_X5_unfound _ _ _) (rOK_d (by decide) (by decide)) (Nat.le_of_ble_eq_true rfl) dX5_set_56 (fun r56 h56 hq56 => ?_)
        obtain ⟨e_, rfl⟩ := hq56
        replace e_ := e_.symm
        subst e_
        refine V_ireti dX5_set_59 ?_
        rw [O_set, ite_t c4, hcs, ite_f g1, ite_t (show hld (S.1.2.1 s') (nI j) (nI 1) from c39), hcj, g4]
        refine ⟨rfl, RA_cells a hs' (same.rf.wr _ _ (by simp)) (RAs_up a.1 hs' (same.rf.wr _ _ (by simp)) (Or.inr ⟨g2, g3, ?_, ?_, fun t ht => ?_⟩))⟩
        · rw [wr_c _ _ _ (by omega)]; exact g4
        · rw [wr_c _ _ _ (by omega)]; exact g5
        · by_cases e : t = j
          · rw [e, wr_s]; exact pk_us.symm
          · rw [wr_j _ _ e, g6 t ht]; exact (pk_un e).symm
      · refine V_aload0 dX5_set_42 ?_
        refine V_iconst (nI 2) dX5_set_43 (by decide) ?_
        refine kX5_58 (m_X5_found _ _ _) (rOK_d (by decide) (by decide)) (Nat.le_of_ble_eq_true rfl) dX5_set_44 (fun r44 h44 hq44 => ?_)
        obtain ⟨e_, rfl⟩ := hq44
        replace e_ := e_.symm
        subst e_
        refine V_ireti dX5_set_47 ?_
        rw [O_set, ite_t c4, hcs, ite_f g1, ite_f (show ¬ hld (S.1.2.1 s') i (nI 1) from c39)]
        exact ⟨rfl, RA_fnd a 2⟩
    · have hgo : S.1.1 s' = -1 := by
        rcases hsh with ⟨z1, z2⟩ | ⟨z1, z2, z3, z4, z5⟩
        · exact z1
        · rw [z4] at c23; exact absurd c23 (neg1_ne (by omega))
      refine V_aload0 dX5_set_26 ?_
      refine V_iconst (nI 1) dX5_set_27 (by decide) ?_
      refine kX5_58 (m_X5_found _ _ _) (rOK_d (by decide) (by decide)) (Nat.le_of_ble_eq_true rfl) dX5_set_28 (fun r28 h28 hq28 => ?_)
      obtain ⟨e_, rfl⟩ := hq28
      replace e_ := e_.symm
      subst e_
      refine V_ireti dX5_set_31 ?_
      rw [O_set, ite_t c4, hcs, ite_t hgo]
      exact ⟨rfl, RA_fnd a 1⟩
  · refine V_ldc ct_X5_57 dX5_set_7 ?_
    refine V_ireti dX5_set_9 ?_
    rw [O_set, ite_f c4]
    exact ⟨rfl, a⟩
set_option maxRecDepth 4000 in
theorem m_X5_drop (G : GE) (h : Mem) (S : St) (a : RA S h) (s : Int32) : Ct idsA G yX5_drop cX5_drop 4 (some .int) (rmD 1) [.ref (ad G 0), .int s] h (Qi fun rv h' => rv = (O_drop S s).1 ∧ RA (O_drop S s).2 h') := by
  refine Ct.of [some (.ref (ad G 0)), some (.int s), none, none] (by decide) (Nat.le_of_ble_eq_true rfl) (lvE_ok 2 rfl) ?_
  refine V_iload1 dX5_drop_0 ?_
  refine kX5_53 (m_X5_isSheet _ _ _) (rOK_d (by decide) (by decide)) (Nat.le_of_ble_eq_true rfl) dX5_drop_1 (fun r1 h1 hq1 => ?_)
  obtain ⟨e_, rfl⟩ := hq1
  replace e_ := e_.symm
  subst e_
  first | refine V_if_ne_z 10 dX5_drop_4 (by decide) (fun c4 => ?_) (fun c4 => ?_) | refine V_if_ne_n 10 dX5_drop_4 (by decide) (by omega) (fun c4 => ?_) (fun c4 => ?_) | refine V_if_ne 10 dX5_drop_4 (by decide) (fun c4 => ?_) (fun c4 => ?_)
  · obtain ⟨s', hs', rfl⟩ := (inR_iff (by decide)).mp c4
    have hcs := cl_nI (show s' < 2 ^ 31 by omega)
    have hsh := a.1 s' hs'
    refine V_aload0 dX5_drop_10 ?_
    refine gX5_11 dX5_drop_11 ?_
    refine V_iload1 dX5_drop_14 ?_
    refine V_aaloadS (by decide) rfl (by first | assumption | omega) dX5_drop_15 ?_
    refine V_astore2 dX5_drop_16 (by decide) rfl ?_
    refine V_aload2 dX5_drop_17 ?_
    refine kX5_69 (by first | assumption | omega) (m_X3_isMissing _ _ _ (by first | assumption | omega)) (rOK_d (by decide) (by decide)) (Nat.le_of_ble_eq_true rfl) dX5_drop_18 (fun r18 h18 hq18 => ?_)
    obtain ⟨e_, rfl⟩ := hq18
    replace e_ := e_.symm
    subst e_
    first | refine V_if_eq_z 30 dX5_drop_21 (by decide) (fun c21 => ?_) (fun c21 => ?_) | refine V_if_eq_n 30 dX5_drop_21 (by decide) (by omega) (fun c21 => ?_) (fun c21 => ?_) | refine V_if_eq 30 dX5_drop_21 (by decide) (fun c21 => ?_) (fun c21 => ?_)
    · have hth : S.1.1 s' ≠ -1 ∧ inR (S.1.1 s') 3 ∧ S.1.2.1 s' ≤ 60 ∧ h (20 + s') 1 = S.1.1 s' ∧ h (20 + s') 2 = nI (S.1.2.1 s') ∧ ∀ j, j < S.1.2.1 s' → h (30 + s') j = S.1.2.2 s' j := by
        rcases hsh with ⟨z1, z2⟩ | ⟨z1, z2⟩
        · exact absurd z2 c21
        · exact ⟨fun e => by rw [e] at z1; exact absurd z1 (by decide), z1, z2⟩
      obtain ⟨g1, g2, g3, g4, g5, g6⟩ := hth
      refine V_aload2 dX5_drop_30 ?_
      refine gX5_94 (by first | assumption | omega) dX5_drop_31 ?_
      rw [g5]
      refine V_istore3 dX5_drop_34 (by decide) rfl ?_
      refine V_aload2 dX5_drop_35 ?_
      refine kX5_97 (by first | assumption | omega) (m_X3_end _ _ _ (by first | assumption | omega)) (rOK_d (by decide) (by decide)) (Nat.le_of_ble_eq_true rfl) dX5_drop_36 (fun h36 hq36 => ?_)
      replace hq36 := hq36.symm
      subst hq36
      refine V_aload0 dX5_drop_39 ?_
      refine V_iload3 dX5_drop_40 ?_
      refine kX5_66 (m_X5_unfound _ _ _) (rOK_d (by decide) (by decide)) (Nat.le_of_ble_eq_true rfl) dX5_drop_41 (fun r41 h41 hq41 => ?_)
      obtain ⟨e_, rfl⟩ := hq41
      replace e_ := e_.symm
      subst e_
      refine V_ireti dX5_drop_44 ?_
      rw [O_drop, ite_t c4, hcs, ite_f g1]
      exact ⟨rfl, RA_cells a hs' (same.rf.wr _ _ (by simp)) (RAs_up a.1 hs' (same.rf.wr _ _ (by simp)) (Or.inl ⟨rfl, wr_s _ _ _ _⟩))⟩
    · have hgo : S.1.1 s' = -1 := by
        rcases hsh with ⟨z1, z2⟩ | ⟨z1, z2, z3, z4, z5⟩
        · exact z1
        · rw [z4] at c21; exact absurd c21 (neg1_ne (by omega))
      refine V_aload0 dX5_drop_24 ?_
      refine V_iconst (nI 1) dX5_drop_25 (by decide) ?_
      refine kX5_58 (m_X5_found _ _ _) (rOK_d (by decide) (by decide)) (Nat.le_of_ble_eq_true rfl) dX5_drop_26 (fun r26 h26 hq26 => ?_)
      obtain ⟨e_, rfl⟩ := hq26
      replace e_ := e_.symm
      subst e_
      refine V_ireti dX5_drop_29 ?_
      rw [O_drop, ite_t c4, hcs, ite_t hgo]
      exact ⟨rfl, RA_fnd a 1⟩
  · refine V_ldc ct_X5_57 dX5_drop_7 ?_
    refine V_ireti dX5_drop_9 ?_
    rw [O_drop, ite_f c4]
    exact ⟨rfl, a⟩
set_option maxRecDepth 4000 in
theorem m_X5_copy (G : GE) (h : Mem) (S : St) (a : RA S h) (x i y j n : Int32) : Ct idsA G yX5_copy cX5_copy 8 (some .int) (rmD 1) [.ref (ad G 0), .int x, .int i, .int y, .int j, .int n] h (Qi fun rv h' => rv = (O_copy S x i y j n).1 ∧ RA (O_copy S x i y j n).2 h') := by
  refine Ct.of [some (.ref (ad G 0)), some (.int x), some (.int i), some (.int y), some (.int j), some (.int n), none, none] (by decide) (Nat.le_of_ble_eq_true rfl) (lvE_ok 2 rfl) ?_
  refine V_iload1 dX5_copy_0 ?_
  refine kX5_53 (m_X5_isSheet _ _ _) (rOK_d (by decide) (by decide)) (Nat.le_of_ble_eq_true rfl) dX5_copy_1 (fun r1 h1 hq1 => ?_)
  obtain ⟨e_, rfl⟩ := hq1
  replace e_ := e_.symm
  subst e_
  first | refine V_if_eq_z 14 dX5_copy_4 (by decide) (fun c4 => ?_) (fun c4 => ?_) | refine V_if_eq_n 14 dX5_copy_4 (by decide) (by omega) (fun c4 => ?_) (fun c4 => ?_) | refine V_if_eq 14 dX5_copy_4 (by decide) (fun c4 => ?_) (fun c4 => ?_)
  · refine V_ldc ct_X5_57 dX5_copy_14 ?_
    refine V_ireti dX5_copy_16 ?_
    first | rw [O_copy, ite_f (show ¬ (inR x 8 ∧ inR y 8) from fun z => c4 z.1)] | rw [O_copy, ite_f (show ¬ (inR (nI p') 8 ∧ inR y 8) from fun z => c11 z.2)]
    exact ⟨rfl, a⟩
  · obtain ⟨p', hp', rfl⟩ := (inR_iff (by decide)).mp c4
    have hcp := cl_nI (show p' < 2 ^ 31 by omega)
    have hsp := a.1 p' hp'
    refine V_iload3 dX5_copy_7 ?_
    refine kX5_53 (m_X5_isSheet _ _ _) (rOK_d (by decide) (by decide)) (Nat.le_of_ble_eq_true rfl) dX5_copy_8 (fun r8 h8 hq8 => ?_)
    obtain ⟨e_, rfl⟩ := hq8
    replace e_ := e_.symm
    subst e_
    first | refine V_if_ne_z 17 dX5_copy_11 (by decide) (fun c11 => ?_) (fun c11 => ?_) | refine V_if_ne_n 17 dX5_copy_11 (by decide) (by omega) (fun c11 => ?_) (fun c11 => ?_) | refine V_if_ne 17 dX5_copy_11 (by decide) (fun c11 => ?_) (fun c11 => ?_)
    · obtain ⟨q', hq', rfl⟩ := (inR_iff (by decide)).mp c11
      have hcq := cl_nI (show q' < 2 ^ 31 by omega)
      have hsq := a.1 q' hq'
      have hg : inR (nI p') 8 ∧ inR (nI q') 8 := ⟨c4, c11⟩
      refine V_aload0 dX5_copy_17 ?_
      refine gX5_11 dX5_copy_18 ?_
      refine V_iload1 dX5_copy_21 ?_
      refine V_aaloadS (by decide) rfl (by first | assumption | omega) dX5_copy_22 ?_
      refine V_astore6 dX5_copy_23 (by decide) rfl ?_
      refine V_aload0 dX5_copy_25 ?_
      refine gX5_11 dX5_copy_26 ?_
      refine V_iload3 dX5_copy_29 ?_
      refine V_aaloadS (by decide) rfl (by first | assumption | omega) dX5_copy_30 ?_
      refine V_astore7 dX5_copy_31 (by decide) rfl ?_
      refine V_aload6 dX5_copy_33 ?_
      refine kX5_69 (by first | assumption | omega) (m_X3_isMissing _ _ _ (by first | assumption | omega)) (rOK_d (by decide) (by decide)) (Nat.le_of_ble_eq_true rfl) dX5_copy_35 (fun r35 h35 hq35 => ?_)
      obtain ⟨e_, rfl⟩ := hq35
      replace e_ := e_.symm
      subst e_
      first | refine V_if_ne_z 49 dX5_copy_38 (by decide) (fun c38 => ?_) (fun c38 => ?_) | refine V_if_ne_n 49 dX5_copy_38 (by decide) (by omega) (fun c38 => ?_) (fun c38 => ?_) | refine V_if_ne 49 dX5_copy_38 (by decide) (fun c38 => ?_) (fun c38 => ?_)
      · have hgp : S.1.1 p' = -1 := by
          rcases hsp with ⟨z1, z2⟩ | ⟨z1, z2, z3, z4, z5⟩
          · exact z1
          · rw [z4] at c38; exact absurd c38 (neg1_ne (by omega))
        refine V_aload0 dX5_copy_49 ?_
        refine V_iconst (nI 1) dX5_copy_50 (by decide) ?_
        refine kX5_58 (m_X5_found _ _ _) (rOK_d (by decide) (by decide)) (Nat.le_of_ble_eq_true rfl) dX5_copy_51 (fun r51 h51 hq51 => ?_)
        obtain ⟨e_, rfl⟩ := hq51
        replace e_ := e_.symm
        subst e_
        refine V_ireti dX5_copy_54 ?_
        rw [O_copy, ite_t hg, hcp, hcq, ite_t (by first | exact Or.inl hgp | exact Or.inr hgq)]
        exact ⟨rfl, RA_fnd a 1⟩
      · have htp : S.1.1 p' ≠ -1 ∧ inR (S.1.1 p') 3 ∧ S.1.2.1 p' ≤ 60 ∧ h (20 + p') 1 = S.1.1 p' ∧ h (20 + p') 2 = nI (S.1.2.1 p') ∧ ∀ j, j < S.1.2.1 p' → h (30 + p') j = S.1.2.2 p' j := by
          rcases hsp with ⟨z1, z2⟩ | ⟨z1, z2⟩
          · exact absurd z2 c38
          · exact ⟨fun e => by rw [e] at z1; exact absurd z1 (by decide), z1, z2⟩
        obtain ⟨p1, p2, p3, p4, p5, p6⟩ := htp
        refine V_aload7 dX5_copy_41 ?_
        refine kX5_69 (by first | assumption | omega) (m_X3_isMissing _ _ _ (by first | assumption | omega)) (rOK_d (by decide) (by decide)) (Nat.le_of_ble_eq_true rfl) dX5_copy_43 (fun r43 h43 hq43 => ?_)
        obtain ⟨e_, rfl⟩ := hq43
        replace e_ := e_.symm
        subst e_
        first | refine V_if_eq_z 55 dX5_copy_46 (by decide) (fun c46 => ?_) (fun c46 => ?_) | refine V_if_eq_n 55 dX5_copy_46 (by decide) (by omega) (fun c46 => ?_) (fun c46 => ?_) | refine V_if_eq 55 dX5_copy_46 (by decide) (fun c46 => ?_) (fun c46 => ?_)
        · have htq : S.1.1 q' ≠ -1 ∧ inR (S.1.1 q') 3 ∧ S.1.2.1 q' ≤ 60 ∧ h (20 + q') 1 = S.1.1 q' ∧ h (20 + q') 2 = nI (S.1.2.1 q') ∧ ∀ j, j < S.1.2.1 q' → h (30 + q') j = S.1.2.2 q' j := by
            rcases hsq with ⟨z1, z2⟩ | ⟨z1, z2⟩
            · exact absurd z2 c46
            · exact ⟨fun e => by rw [e] at z1; exact absurd z1 (by decide), z1, z2⟩
          obtain ⟨q1, q2, q3, q4, q5, q6⟩ := htq
          refine V_aload6 dX5_copy_55 ?_
          refine gX5_81 (by first | assumption | omega) dX5_copy_57 ?_
          rw [p4]
          refine V_aload7 dX5_copy_60 ?_
          refine gX5_81 (by first | assumption | omega) dX5_copy_62 ?_
          rw [q4]
          first | refine V_icmp_eq_n 74 dX5_copy_65 (by decide) (by omega) (by omega) (fun c65 => ?_) (fun c65 => ?_) | refine V_icmp_eq 74 dX5_copy_65 (by decide) (fun c65 => ?_) (fun c65 => ?_)
          · refine V_aload6 dX5_copy_74 ?_
            refine V_iload2 dX5_copy_76 ?_
            refine V_iload5 dX5_copy_77 ?_
            refine kX5_73 (by first | assumption | omega) (m_X3_holds _ _ _ (by first | assumption | omega) _ _) (rOK_d (by decide) (by decide)) (Nat.le_of_ble_eq_true rfl) dX5_copy_79 (fun r79 h79 hq79 => ?_)
            obtain ⟨e_, rfl⟩ := hq79
            replace e_ := e_.symm
            subst e_
            rw [p5]
            first | refine V_if_eq_z 97 dX5_copy_82 (by decide) (fun c82 => ?_) (fun c82 => ?_) | refine V_if_eq_n 97 dX5_copy_82 (by decide) (by omega) (fun c82 => ?_) (fun c82 => ?_) | refine V_if_eq 97 dX5_copy_82 (by decide) (fun c82 => ?_) (fun c82 => ?_)
            · refine V_aload0 dX5_copy_97 ?_
              refine V_iconst (nI 2) dX5_copy_98 (by decide) ?_
              refine kX5_58 (m_X5_found _ _ _) (rOK_d (by decide) (by decide)) (Nat.le_of_ble_eq_true rfl) dX5_copy_99 (fun r99 h99 hq99 => ?_)
              obtain ⟨e_, rfl⟩ := hq99
              replace e_ := e_.symm
              subst e_
              refine V_ireti dX5_copy_102 ?_
              rw [O_copy, ite_t hg, hcp, hcq, ite_f (fun z => z.elim p1 q1), ite_t c65, ite_f (show ¬ (hld (S.1.2.1 p') i n ∧ hld (S.1.2.1 q') j n) from fun z => by first | exact c94 z.2 | exact c82 z.1)]
              exact ⟨rfl, RA_fnd a 2⟩
            · refine V_aload7 dX5_copy_85 ?_
              refine V_iload4 dX5_copy_87 ?_
              refine V_iload5 dX5_copy_89 ?_
              refine kX5_73 (by first | assumption | omega) (m_X3_holds _ _ _ (by first | assumption | omega) _ _) (rOK_d (by decide) (by decide)) (Nat.le_of_ble_eq_true rfl) dX5_copy_91 (fun r91 h91 hq91 => ?_)
              obtain ⟨e_, rfl⟩ := hq91
              replace e_ := e_.symm
              subst e_
              rw [q5]
              first | refine V_if_ne_z 103 dX5_copy_94 (by decide) (fun c94 => ?_) (fun c94 => ?_) | refine V_if_ne_n 103 dX5_copy_94 (by decide) (by omega) (fun c94 => ?_) (fun c94 => ?_) | refine V_if_ne 103 dX5_copy_94 (by decide) (fun c94 => ?_) (fun c94 => ?_)
              · have hh : hld (S.1.2.1 p') i n ∧ hld (S.1.2.1 q') j n := ⟨c82, c94⟩
                obtain ⟨i', n', rfl, rfl, hin⟩ := (hld_iff p3).mp c82
                obtain ⟨j', n2, rfl, en, hjn⟩ := (hld_iff q3).mp c94
                have en2 : n2 = n' := ((nI_eq (by omega) (by omega)).mp en).symm
                subst en2
                have k1 := cl_nI (show i' < 2 ^ 31 by omega)
                have k2 := cl_nI (show j' < 2 ^ 31 by omega)
                have k3 := cl_nI (show n2 < 2 ^ 31 by omega)
                refine V_aload6 dX5_copy_103 ?_
                refine gX5_85 (by first | assumption | omega) dX5_copy_105 ?_
                refine V_iload2 dX5_copy_108 ?_
                refine V_aload7 dX5_copy_109 ?_
                refine gX5_85 (by first | assumption | omega) dX5_copy_111 ?_
                refine V_iload4 dX5_copy_114 ?_
                refine V_iload5 dX5_copy_116 ?_
                refine V_acopy ml_X5_88 nat_acopy sm_arraycopy in_J10 (mem_items hp') (mem_items hq') (aI_items hp') (aI_items hq') (by decide) (by decide) rfl rfl rfl (by omega) (by omega) (by decide) (by decide) dX5_copy_118 ?_
                refine V_aload0 dX5_copy_121 ?_
                refine V_iload5 dX5_copy_122 ?_
                refine kX5_66 (m_X5_unfound _ _ _) (rOK_d (by decide) (by decide)) (Nat.le_of_ble_eq_true rfl) dX5_copy_124 (fun r124 h124 hq124 => ?_)
                obtain ⟨e_, rfl⟩ := hq124
                replace e_ := e_.symm
                subst e_
                refine V_ireti dX5_copy_127 ?_
                rw [O_copy, ite_t hg, hcp, hcq, ite_f (fun z => z.elim p1 q1), ite_t c65, ite_t hh, k1, k2, k3]
                refine ⟨rfl, RA_cells a hq' (same.rf.up _ (by simp)) (RAs_up a.1 hq' (same.rf.up _ (by simp)) (Or.inr ⟨q2, q3, ?_, ?_, fun t ht => ?_⟩))⟩
                · rw [va_up_ne _ _ (by omega)]; exact q4
                · rw [va_up_ne _ _ (by omega)]; exact q5
                · rw [va_up_s]
                  unfold va_cpy
                  split
                  · exact p6 _ (by omega)
                  · exact q6 t ht
              · refine V_aload0 dX5_copy_97 ?_
                refine V_iconst (nI 2) dX5_copy_98 (by decide) ?_
                refine kX5_58 (m_X5_found _ _ _) (rOK_d (by decide) (by decide)) (Nat.le_of_ble_eq_true rfl) dX5_copy_99 (fun r99 h99 hq99 => ?_)
                obtain ⟨e_, rfl⟩ := hq99
                replace e_ := e_.symm
                subst e_
                refine V_ireti dX5_copy_102 ?_
                rw [O_copy, ite_t hg, hcp, hcq, ite_f (fun z => z.elim p1 q1), ite_t c65, ite_f (show ¬ (hld (S.1.2.1 p') i n ∧ hld (S.1.2.1 q') j n) from fun z => by first | exact c94 z.2 | exact c82 z.1)]
                exact ⟨rfl, RA_fnd a 2⟩
          · refine V_aload0 dX5_copy_68 ?_
            refine V_iconst (nI 5) dX5_copy_69 (by decide) ?_
            refine kX5_58 (m_X5_found _ _ _) (rOK_d (by decide) (by decide)) (Nat.le_of_ble_eq_true rfl) dX5_copy_70 (fun r70 h70 hq70 => ?_)
            obtain ⟨e_, rfl⟩ := hq70
            replace e_ := e_.symm
            subst e_
            refine V_ireti dX5_copy_73 ?_
            rw [O_copy, ite_t hg, hcp, hcq, ite_f (fun z => z.elim p1 q1), ite_f c65]
            exact ⟨rfl, RA_fnd a 5⟩
        · have hgq : S.1.1 q' = -1 := by
            rcases hsq with ⟨z1, z2⟩ | ⟨z1, z2, z3, z4, z5⟩
            · exact z1
            · rw [z4] at c46; exact absurd c46 (neg1_ne (by omega))
          refine V_aload0 dX5_copy_49 ?_
          refine V_iconst (nI 1) dX5_copy_50 (by decide) ?_
          refine kX5_58 (m_X5_found _ _ _) (rOK_d (by decide) (by decide)) (Nat.le_of_ble_eq_true rfl) dX5_copy_51 (fun r51 h51 hq51 => ?_)
          obtain ⟨e_, rfl⟩ := hq51
          replace e_ := e_.symm
          subst e_
          refine V_ireti dX5_copy_54 ?_
          rw [O_copy, ite_t hg, hcp, hcq, ite_t (by first | exact Or.inl hgp | exact Or.inr hgq)]
          exact ⟨rfl, RA_fnd a 1⟩
    · refine V_ldc ct_X5_57 dX5_copy_14 ?_
      refine V_ireti dX5_copy_16 ?_
      first | rw [O_copy, ite_f (show ¬ (inR x 8 ∧ inR y 8) from fun z => c4 z.1)] | rw [O_copy, ite_f (show ¬ (inR (nI p') 8 ∧ inR y 8) from fun z => c11 z.2)]
      exact ⟨rfl, a⟩
