theorem Qi_mono {P P' : Int32 → Mem → Prop} (h : ∀ v h', P v h' → P' v h') : ∀ v h', Qi P v h' → Qi P' v h' := fun _ h' z => z.elim (fun r z => ⟨r, z.1, h r h' z.2⟩)
set_option maxRecDepth 4000 in
theorem l_X6_sheet (G : GE) (h hc : Mem) (l n : Int32) (s : Nat) (hs : s < 8) (k : Nat) (hk : k ≤ 60) (e1 : same [104] h hc) (e2 : ∀ j, j < k → hc 104 (60 * s + j) = nI 0) (e3 : ∀ t, t < 60 * s ∨ 60 * s + 60 ≤ t → hc 104 t = h 104 t) : V idsB G RX6 cX6_sheet 5 (some .int) (rmD 2) 65 [some (.ref (ad G 100)), some (.int (nI s)), some (.int l), some (.int n), some (.int (nI k))] [] hc (Qi (fun v h' => v = n ∧ same [104] h h' ∧ (∀ j, j < 60 → h' 104 (60 * s + j) = nI 0) ∧ ∀ t, t < 60 * s ∨ 60 * s + 60 ≤ t → h' 104 t = h 104 t)) := by
  induction hz : 60 - k using Nat.strongRecOn generalizing hc k with
  | _ z ih =>
    subst hz
    refine V_iload4 dX6_sheet_65 ?_
    refine V_bipush (nI 60) dX6_sheet_67 (by decide) ?_
    first | refine V_icmp_ge_n 91 dX6_sheet_69 (by decide) (by omega) (by omega) (fun c69 => ?_) (fun c69 => ?_) | refine V_icmp_ge 91 dX6_sheet_69 (by decide) (fun c69 => ?_) (fun c69 => ?_)
    · refine V_iload3 dX6_sheet_91 ?_
      refine V_ireti dX6_sheet_92 ?_
      obtain rfl : k = 60 := by omega
      exact ⟨rfl, e1, e2, e3⟩
    · refine V_aload0 dX6_sheet_72 ?_
      refine gX6_16 dX6_sheet_73 ?_
      refine V_bipush (nI 60) dX6_sheet_76 (by decide) ?_
      refine V_iload1 dX6_sheet_78 ?_
      first | refine V_imul_n dX6_sheet_79 ?_ | refine V_imul dX6_sheet_79 ?_
      refine V_iload4 dX6_sheet_80 ?_
      first | refine V_iadd_n dX6_sheet_82 ?_ | refine V_iadd dX6_sheet_82 ?_
      refine V_iconst (nI 0) dX6_sheet_83 (by decide) ?_
      refine V_iastore (by decide) aI_104 (by decide) rfl (by first | assumption | omega) dX6_sheet_84 ?_
      first | refine V_iinc4_n 1 dX6_sheet_85 (by decide) (by decide) rfl ?_ | refine V_iinc4 (nI 1) dX6_sheet_85 (by decide) (by decide) rfl ?_
      refine V_goto 65 dX6_sheet_88 (by decide) ?_
      refine ih _ (by omega) _ (k + 1) (by omega) (e1.wr _ _ (by decide)) (fun j hj => ?_) (fun t ht => by rw [wr_j _ _ (by omega)]; exact e3 t ht) rfl
      by_cases e : j = k
      · rw [e, wr_s]
      · rw [wr_j _ _ (by omega)]; exact e2 j (by omega)
set_option maxRecDepth 4000 in
theorem m_X6_sheet (G : GE) (h : Mem) (S : St) (i : Ok S) (a : RB S h) (s l n : Int32) : Ct idsB G yX6_sheet cX6_sheet 5 (some .int) (rmD 2) [.ref (ad G 100), .int s, .int l, .int n] h (Qi fun rv h' => rv = (O_sheet S s l n).1 ∧ RB (O_sheet S s l n).2 h') := by
  refine Ct.of [some (.ref (ad G 100)), some (.int s), some (.int l), some (.int n), none] (by decide) (Nat.le_of_ble_eq_true rfl) (lvE_ok 1 rfl) ?_
  refine V_aload0 dX6_sheet_0 ?_
  refine V_iconst (nI 0) dX6_sheet_1 (by decide) ?_
  refine pX6_62 dX6_sheet_2 ?_
  replace a := a.th (nI 0)
  generalize wr h 100 0 (nI 0) = g at a ⊢
  refine V_iload1 dX6_sheet_5 ?_
  refine kX6_76 (m_X6_isSheet _ _ _) (rOK_d (by decide) (by decide)) (Nat.le_of_ble_eq_true rfl) dX6_sheet_6 (fun r6 h6 hq6 => ?_)
  obtain ⟨e_, rfl⟩ := hq6
  replace e_ := e_.symm
  subst e_
  first | refine V_if_eq_z 30 dX6_sheet_9 (by decide) (fun c9 => ?_) (fun c9 => ?_) | refine V_if_eq_n 30 dX6_sheet_9 (by decide) (by omega) (fun c9 => ?_) (fun c9 => ?_) | refine V_if_eq 30 dX6_sheet_9 (by decide) (fun c9 => ?_) (fun c9 => ?_)
  · refine V_ldc ct_X6_82 dX6_sheet_30 ?_
    refine V_ireti dX6_sheet_32 ?_
    rw [O_sheet, ite_f (fun z => by first | exact c9 z.1 | exact c21 z.2.1 | exact c27 z.2.2)]
    exact ⟨rfl, a⟩
  · refine V_iload2 dX6_sheet_12 ?_
    refine V_i2l dX6_sheet_13 ?_
    refine V_lconst 0 dX6_sheet_14 (by decide) ?_
    refine V_ldc2_w ct_X6_80 dX6_sheet_15 ?_
    refine kX6_72 (m_X6_in _ _ _ _ _) (rOK_d (by decide) (by decide)) (Nat.le_of_ble_eq_true rfl) dX6_sheet_18 (fun r18 h18 hq18 => ?_)
    obtain ⟨e_, rfl⟩ := hq18
    replace e_ := e_.symm
    subst e_
    rw [bz_c (in_e _ (n := 3) (by decide))]
    first | refine V_if_eq_z 30 dX6_sheet_21 (by decide) (fun c21 => ?_) (fun c21 => ?_) | refine V_if_eq_n 30 dX6_sheet_21 (by decide) (by omega) (fun c21 => ?_) (fun c21 => ?_) | refine V_if_eq 30 dX6_sheet_21 (by decide) (fun c21 => ?_) (fun c21 => ?_)
    · refine V_ldc ct_X6_82 dX6_sheet_30 ?_
      refine V_ireti dX6_sheet_32 ?_
      rw [O_sheet, ite_f (fun z => by first | exact c9 z.1 | exact c21 z.2.1 | exact c27 z.2.2)]
      exact ⟨rfl, a⟩
    · refine V_iload3 dX6_sheet_24 ?_
      refine V_bipush (nI 60) dX6_sheet_25 (by decide) ?_
      first | refine V_icmp_le_n 33 dX6_sheet_27 (by decide) (by omega) (by omega) (fun c27 => ?_) (fun c27 => ?_) | refine V_icmp_le 33 dX6_sheet_27 (by decide) (fun c27 => ?_) (fun c27 => ?_)
      · have hg : inR s 8 ∧ inR l 3 ∧ n ≤ nI 60 := ⟨c9, c21, c27⟩
        obtain ⟨s', hs', rfl⟩ := (inR_iff (by decide)).mp c9
        have ks := cl_nI (show s' < 2 ^ 31 by omega)
        refine V_aload0 dX6_sheet_33 ?_
        refine V_iconst (nI 0) dX6_sheet_34 (by decide) ?_
        refine pX6_66 dX6_sheet_35 ?_
        replace a := a.st 0
        generalize wr g 100 1 (nI 0) = g1 at a ⊢
        refine V_iload3 dX6_sheet_38 ?_
        first | refine V_if_ge_n 48 dX6_sheet_39 (by decide) (by omega) (fun c39 => ?_) (fun c39 => ?_) | refine V_if_ge 48 dX6_sheet_39 (by decide) (fun c39 => ?_) (fun c39 => ?_)
        · obtain ⟨n', hn', rfl⟩ := le_ex (by decide) c39 c27
          have kn := cl_nI (show n' < 2 ^ 31 by omega)
          refine V_aload0 dX6_sheet_48 ?_
          refine gX6_7 dX6_sheet_49 ?_
          refine V_iload1 dX6_sheet_52 ?_
          refine V_iload2 dX6_sheet_53 ?_
          refine V_iastore (by decide) aI_102 (by decide) rfl (by first | assumption | omega) dX6_sheet_54 ?_
          refine V_aload0 dX6_sheet_55 ?_
          refine gX6_13 dX6_sheet_56 ?_
          refine V_iload1 dX6_sheet_59 ?_
          refine V_iload3 dX6_sheet_60 ?_
          refine V_iastore (by decide) aI_103 (by decide) rfl (by first | assumption | omega) dX6_sheet_61 ?_
          refine V_iconst (nI 0) dX6_sheet_62 (by decide) ?_
          refine V_istore4 dX6_sheet_63 (by decide) rfl ?_
          refine V_post (l_X6_sheet G _ _ l _ s' hs' 0 (by decide) same.rf (fun j hj => absurd hj (Nat.not_lt_zero _)) (fun t ht => rfl)) (Qi_mono (fun v h' q => ?_))
          obtain ⟨rfl, q1, q2, q3⟩ := q
          rw [O_sheet, ite_t hg, ite_f (i_le_n c39), ks, kn]
          refine ⟨rfl, RB_sheets a (((same.rf.wr _ _ (by decide)).wr _ _ (by decide)).tr (q1.mono (cs' := [102, 103, 104]) (by simp))) (by decide) (RBs_up a.1 (fun i hi hne => ⟨?_, ?_, fun j hj => ?_⟩) (Or.inr ⟨c21, hn', ?_, ?_, fun j hj => ?_⟩))⟩
          · rw [q1 102 (by decide), wr_c _ _ _ (by decide), wr_j _ _ hne]
          · rw [q1 103 (by decide), wr_j _ _ hne, wr_c _ _ _ (by decide)]
          · rw [q3 _ (by omega), wr_c _ _ _ (by decide), wr_c _ _ _ (by decide)]
          · rw [q1 102 (by decide), wr_c _ _ _ (by decide), wr_s]
          · rw [q1 103 (by decide), wr_s]
          · exact q2 j (by omega)
        · refine V_aload0 dX6_sheet_42 ?_
          refine V_iconst (nI 4) dX6_sheet_43 (by decide) ?_
          refine kX6_83 (m_X6_found _ _ _) (rOK_d (by decide) (by decide)) (Nat.le_of_ble_eq_true rfl) dX6_sheet_44 (fun r44 h44 hq44 => ?_)
          obtain ⟨e_, rfl⟩ := hq44
          replace e_ := e_.symm
          subst e_
          refine V_ireti dX6_sheet_47 ?_
          rw [O_sheet, ite_t hg, ite_t (i_nle c39)]
          exact ⟨rfl, a.st 4⟩
      · refine V_ldc ct_X6_82 dX6_sheet_30 ?_
        refine V_ireti dX6_sheet_32 ?_
        rw [O_sheet, ite_f (fun z => by first | exact c9 z.1 | exact c21 z.2.1 | exact c27 z.2.2)]
        exact ⟨rfl, a⟩
