set_option maxRecDepth 4000 in
theorem m_X6_kindOf (G : GE) (h : Mem) (N : Ng) (i : Inv N) (r : RBn N h) (l : Nat) (hl : l < 12) (hw : ¬ (nWy N l).length = 0) : Ct idsB G yX6_kindOf cX6_kindOf 3 (some .int) (rmD 2) [.ref (ad G 100), .int (nI l)] h (Qi fun v h' => h' = h ∧ v = kdI (nWy N l).length (swo (nMk N) l)) := by
  refine Ct.of [some (.ref (ad G 100)), some (.int (nI l)), none] (by decide) (Nat.le_of_ble_eq_true rfl) (lvE_ok 1 rfl) ?_
  have hsw : swo (nMk N) l ≤ 200 := fb_ct_le _ 200
  have hlen := i.len (l := l)
  refine V_aload0 dX6_kindOf_0 ?_
  refine V_iload1 dX6_kindOf_1 ?_
  refine kX6_181 (m_X6_sharing _ _ N i r l hl) (rOK_d (by decide) (by decide)) (Nat.le_of_ble_eq_true rfl) dX6_kindOf_2 (fun r2 h2 hq2 => ?_)
  obtain ⟨e_, rfl⟩ := hq2
  replace e_ := e_.symm
  subst e_
  refine V_istore2 dX6_kindOf_5 (by decide) rfl ?_
  refine V_iload2 dX6_kindOf_6 ?_
  first | refine V_if_ne_z 14 dX6_kindOf_7 (by decide) (fun c7 => ?_) (fun c7 => ?_) | refine V_if_ne_n 14 dX6_kindOf_7 (by decide) (by omega) (fun c7 => ?_) (fun c7 => ?_) | refine V_if_ne 14 dX6_kindOf_7 (by decide) (fun c7 => ?_) (fun c7 => ?_)
  · refine V_iload2 dX6_kindOf_14 ?_
    refine V_aload0 dX6_kindOf_15 ?_
    refine gX6_32 dX6_kindOf_16 ?_
    refine V_iload1 dX6_kindOf_19 ?_
    refine V_iaload (by decide) aI_111 (by decide) rfl (by first | assumption | omega) dX6_kindOf_20 ?_
    rw [(r.2.2.2.2.2.1 l hl).1]
    first | refine V_icmp_ne_n 28 dX6_kindOf_21 (by decide) (by omega) (by omega) (fun c21 => ?_) (fun c21 => ?_) | refine V_icmp_ne 28 dX6_kindOf_21 (by decide) (fun c21 => ?_) (fun c21 => ?_)
    · refine V_iconst (nI 3) dX6_kindOf_28 (by decide) ?_
      refine V_ireti dX6_kindOf_29 ?_
      first
      | exact ⟨rfl, by unfold kdI; rw [if_neg hw, if_pos c7]⟩
      | exact ⟨rfl, by unfold kdI; rw [if_neg hw, if_neg c7, if_pos c21]⟩
      | exact ⟨rfl, by unfold kdI; rw [if_neg hw, if_neg c7, if_neg c21]⟩
    · refine V_iconst (nI 2) dX6_kindOf_24 (by decide) ?_
      refine V_goto 29 dX6_kindOf_25 (by decide) ?_
      refine V_ireti dX6_kindOf_29 ?_
      first
      | exact ⟨rfl, by unfold kdI; rw [if_neg hw, if_pos c7]⟩
      | exact ⟨rfl, by unfold kdI; rw [if_neg hw, if_neg c7, if_pos c21]⟩
      | exact ⟨rfl, by unfold kdI; rw [if_neg hw, if_neg c7, if_neg c21]⟩
  · refine V_iconst (nI 1) dX6_kindOf_10 (by decide) ?_
    refine V_goto 29 dX6_kindOf_11 (by decide) ?_
    refine V_ireti dX6_kindOf_29 ?_
    first
    | exact ⟨rfl, by unfold kdI; rw [if_neg hw, if_pos c7]⟩
    | exact ⟨rfl, by unfold kdI; rw [if_neg hw, if_neg c7, if_pos c21]⟩
    | exact ⟨rfl, by unfold kdI; rw [if_neg hw, if_neg c7, if_neg c21]⟩
set_option maxRecDepth 4000 in
theorem m_X6_kind (G : GE) (h : Mem) (S : St) (i : Ok S) (a : RB S h) (x : Int32) : Ct idsB G yX6_kind cX6_kind 2 (some .int) (rmD 3) [.ref (ad G 100), .int x] h (Qi fun rv h' => rv = (O_kind S x).1 ∧ RB (O_kind S x).2 h') := by
  refine Ct.of [some (.ref (ad G 100)), some (.int x)] (by decide) (Nat.le_of_ble_eq_true rfl) (lvE_ok 0 rfl) ?_
  refine V_aload0 dX6_kind_0 ?_
  refine V_iconst (nI 0) dX6_kind_1 (by decide) ?_
  refine pX6_62 dX6_kind_2 ?_
  replace a := a.th (nI 0)
  generalize wr h 100 0 (nI 0) = g at a ⊢
  refine V_aload0 dX6_kind_5 ?_
  refine V_iload1 dX6_kind_6 ?_
  refine kX6_128 (m_X6_isLine _ _ S.2.1 i.1 a.2.1 _) (rOK_d (by decide) (by decide)) (Nat.le_of_ble_eq_true rfl) dX6_kind_7 (fun r7 h7 hq7 => ?_)
  obtain ⟨e_, rfl⟩ := hq7
  replace e_ := e_.symm
  subst e_
  first | refine V_if_ne_z 18 dX6_kind_10 (by decide) (fun c10 => ?_) (fun c10 => ?_) | refine V_if_ne_n 18 dX6_kind_10 (by decide) (by omega) (fun c10 => ?_) (fun c10 => ?_) | refine V_if_ne 18 dX6_kind_10 (by decide) (fun c10 => ?_) (fun c10 => ?_)
  · have hnl := i.1.nl
    have hg := c10
    obtain ⟨l, hl, rfl⟩ := (inR_iff (by omega)).mp c10
    have kl := cl_nI (show l < 2 ^ 31 by omega)
    have hlen := i.1.len (l := l)
    obtain ⟨w1, w2⟩ := a.2.1.2.2.2.2.2.1 l (by omega)
    refine V_aload0 dX6_kind_18 ?_
    refine gX6_32 dX6_kind_19 ?_
    refine V_iload1 dX6_kind_22 ?_
    refine V_iaload (by decide) aI_111 (by decide) rfl (by first | assumption | omega) dX6_kind_23 ?_
    rw [w1]
    first | refine V_if_ne_z 32 dX6_kind_24 (by decide) (fun c24 => ?_) (fun c24 => ?_) | refine V_if_ne_n 32 dX6_kind_24 (by decide) (by omega) (fun c24 => ?_) (fun c24 => ?_) | refine V_if_ne 32 dX6_kind_24 (by decide) (fun c24 => ?_) (fun c24 => ?_)
    · refine V_aload0 dX6_kind_32 ?_
      refine V_iload1 dX6_kind_33 ?_
      refine kX6_184 (m_X6_kindOf _ _ S.2.1 i.1 a.2.1 l (by omega) c24) (rOK_d (by decide) (by decide)) (Nat.le_of_ble_eq_true rfl) dX6_kind_34 (fun r34 h34 hq34 => ?_)
      obtain ⟨e_, rfl⟩ := hq34
      replace e_ := e_.symm
      subst e_
      refine V_ireti dX6_kind_37 ?_
      first
      | (rw [O_kind, vKind, ite_f c10]; exact ⟨rfl, a⟩)
      | (rw [O_kind, vKind, ite_t hg, kl]; exact ⟨by unfold kdI; rw [if_pos c24], a⟩)
      | (rw [O_kind, vKind, ite_t hg, kl]; exact ⟨rfl, a⟩)
    · refine V_ldc ct_X6_93 dX6_kind_27 ?_
      refine V_goto 37 dX6_kind_29 (by decide) ?_
      refine V_ireti dX6_kind_37 ?_
      first
      | (rw [O_kind, vKind, ite_f c10]; exact ⟨rfl, a⟩)
      | (rw [O_kind, vKind, ite_t hg, kl]; exact ⟨by unfold kdI; rw [if_pos c24], a⟩)
      | (rw [O_kind, vKind, ite_t hg, kl]; exact ⟨rfl, a⟩)
  · refine V_ldc ct_X6_82 dX6_kind_13 ?_
    refine V_goto 37 dX6_kind_15 (by decide) ?_
    refine V_ireti dX6_kind_37 ?_
    first
    | (rw [O_kind, vKind, ite_f c10]; exact ⟨rfl, a⟩)
    | (rw [O_kind, vKind, ite_t hg, kl]; exact ⟨by unfold kdI; rw [if_pos c24], a⟩)
    | (rw [O_kind, vKind, ite_t hg, kl]; exact ⟨rfl, a⟩)
set_option maxRecDepth 4000 in
theorem m_X6_status (G : GE) (h : Mem) (S : St) (i : Ok S) (a : RB S h) : Ct idsB G yX6_status cX6_status 1 (some .int) (rmD 0) [.ref (ad G 100)] h (Qi fun rv h' => rv = (O_status S ).1 ∧ RB (O_status S ).2 h') := by
  refine Ct.of [some (.ref (ad G 100))] (by decide) (Nat.le_of_ble_eq_true rfl) (lvE_ok 0 rfl) ?_
  refine V_aload0 dX6_status_0 ?_
  refine V_iconst (nI 0) dX6_status_1 (by decide) ?_
  refine pX6_62 dX6_status_2 ?_
  replace a := a.th (nI 0)
  generalize wr h 100 0 (nI 0) = g at a ⊢
  refine V_aload0 dX6_status_5 ?_
  refine gX6_66 dX6_status_6 ?_
  refine V_ireti dX6_status_9 ?_
  exact ⟨a.2.2.2, a⟩
set_option maxRecDepth 4000 in
theorem m_X6_shared (G : GE) (h : Mem) (S : St) (i : Ok S) (a : RB S h) (x y : Int32) : Ct idsB G yX6_shared cX6_shared 3 (some .int) (rmD 2) [.ref (ad G 100), .int x, .int y] h (Qi fun rv h' => rv = (O_shared S x y).1 ∧ RB (O_shared S x y).2 h') := by
  refine Ct.of [some (.ref (ad G 100)), some (.int x), some (.int y)] (by decide) (Nat.le_of_ble_eq_true rfl) (lvE_ok 0 rfl) ?_
  refine V_aload0 dX6_shared_0 ?_
  refine V_iconst (nI 0) dX6_shared_1 (by decide) ?_
  refine pX6_62 dX6_shared_2 ?_
  replace a := a.th (nI 0)
  generalize wr h 100 0 (nI 0) = g at a ⊢
  refine V_aload0 dX6_shared_5 ?_
  refine V_iload1 dX6_shared_6 ?_
  refine kX6_128 (m_X6_isLine _ _ S.2.1 i.1 a.2.1 _) (rOK_d (by decide) (by decide)) (Nat.le_of_ble_eq_true rfl) dX6_shared_7 (fun r7 h7 hq7 => ?_)
  obtain ⟨e_, rfl⟩ := hq7
  replace e_ := e_.symm
  subst e_
  first | refine V_if_eq_z 21 dX6_shared_10 (by decide) (fun c10 => ?_) (fun c10 => ?_) | refine V_if_eq_n 21 dX6_shared_10 (by decide) (by omega) (fun c10 => ?_) (fun c10 => ?_) | refine V_if_eq 21 dX6_shared_10 (by decide) (fun c10 => ?_) (fun c10 => ?_)
  · refine V_ldc ct_X6_82 dX6_shared_21 ?_
    refine V_goto 32 dX6_shared_23 (by decide) ?_
    refine V_ireti dX6_shared_32 ?_
    first
    | (rw [O_shared, vShared, ite_t hg, kl, km]; exact ⟨rfl, a⟩)
    | (rw [O_shared, vShared, ite_f (fun z => c18 z.2)]; exact ⟨rfl, a⟩)
    | (rw [O_shared, vShared, ite_f (fun z => c10 z.1)]; exact ⟨rfl, a⟩)
  · refine V_aload0 dX6_shared_13 ?_
    refine V_iload2 dX6_shared_14 ?_
    refine kX6_128 (m_X6_isLine _ _ S.2.1 i.1 a.2.1 _) (rOK_d (by decide) (by decide)) (Nat.le_of_ble_eq_true rfl) dX6_shared_15 (fun r15 h15 hq15 => ?_)
    obtain ⟨e_, rfl⟩ := hq15
    replace e_ := e_.symm
    subst e_
    first | refine V_if_ne_z 26 dX6_shared_18 (by decide) (fun c18 => ?_) (fun c18 => ?_) | refine V_if_ne_n 26 dX6_shared_18 (by decide) (by omega) (fun c18 => ?_) (fun c18 => ?_) | refine V_if_ne 26 dX6_shared_18 (by decide) (fun c18 => ?_) (fun c18 => ?_)
    · have hnl := i.1.nl
      have hg : inR x (nNl S.2.1) ∧ inR y (nNl S.2.1) := ⟨c10, c18⟩
      obtain ⟨l, hl, rfl⟩ := (inR_iff (by omega)).mp c10
      obtain ⟨m, hm, rfl⟩ := (inR_iff (by omega)).mp c18
      have kl := cl_nI (show l < 2 ^ 31 by omega)
      have km := cl_nI (show m < 2 ^ 31 by omega)
      refine V_aload0 dX6_shared_26 ?_
      refine V_iload1 dX6_shared_27 ?_
      refine V_iload2 dX6_shared_28 ?_
      refine kX6_163 (m_X6_sharedBy _ _ S.2.1 i.1 a.2.1 l m (by omega) (by omega)) (rOK_d (by decide) (by decide)) (Nat.le_of_ble_eq_true rfl) dX6_shared_29 (fun r29 h29 hq29 => ?_)
      obtain ⟨e_, rfl⟩ := hq29
      replace e_ := e_.symm
      subst e_
      refine V_ireti dX6_shared_32 ?_
      first
      | (rw [O_shared, vShared, ite_t hg, kl, km]; exact ⟨rfl, a⟩)
      | (rw [O_shared, vShared, ite_f (fun z => c18 z.2)]; exact ⟨rfl, a⟩)
      | (rw [O_shared, vShared, ite_f (fun z => c10 z.1)]; exact ⟨rfl, a⟩)
    · refine V_ldc ct_X6_82 dX6_shared_21 ?_
      refine V_goto 32 dX6_shared_23 (by decide) ?_
      refine V_ireti dX6_shared_32 ?_
      first
      | (rw [O_shared, vShared, ite_t hg, kl, km]; exact ⟨rfl, a⟩)
      | (rw [O_shared, vShared, ite_f (fun z => c18 z.2)]; exact ⟨rfl, a⟩)
      | (rw [O_shared, vShared, ite_f (fun z => c10 z.1)]; exact ⟨rfl, a⟩)
set_option maxRecDepth 4000 in
theorem m_X6_as (G : GE) (h : Mem) (S : St) (i : Ok S) (a : RB S h) (x k : Int32) : Ct idsB G yX6_as cX6_as 3 (some .int) (rmD 3) [.ref (ad G 100), .int x, .int k] h (Qi fun rv h' => rv = (O_as S x k).1 ∧ RB (O_as S x k).2 h') := by
  refine Ct.of [some (.ref (ad G 100)), some (.int x), some (.int k)] (by decide) (Nat.le_of_ble_eq_true rfl) (lvE_ok 0 rfl) ?_
  refine V_aload0 dX6_as_0 ?_
  refine V_iconst (nI 0) dX6_as_1 (by decide) ?_
  refine pX6_62 dX6_as_2 ?_
  replace a := a.th (nI 0)
  generalize wr h 100 0 (nI 0) = g at a ⊢
  refine V_aload0 dX6_as_5 ?_
  refine V_iload1 dX6_as_6 ?_
  refine kX6_128 (m_X6_isLine _ _ S.2.1 i.1 a.2.1 _) (rOK_d (by decide) (by decide)) (Nat.le_of_ble_eq_true rfl) dX6_as_7 (fun r7 h7 hq7 => ?_)
  obtain ⟨e_, rfl⟩ := hq7
  replace e_ := e_.symm
  subst e_
  first | refine V_if_eq_z 25 dX6_as_10 (by decide) (fun c10 => ?_) (fun c10 => ?_) | refine V_if_eq_n 25 dX6_as_10 (by decide) (by omega) (fun c10 => ?_) (fun c10 => ?_) | refine V_if_eq 25 dX6_as_10 (by decide) (fun c10 => ?_) (fun c10 => ?_)
  · refine V_ldc ct_X6_82 dX6_as_25 ?_
    refine V_ireti dX6_as_27 ?_
    rw [O_as, ite_f (fun z => by first | exact c10 z.1 | exact c22 z.2)]
    exact ⟨rfl, a⟩
  · refine V_iload2 dX6_as_13 ?_
    refine V_i2l dX6_as_14 ?_
    refine V_lconst 0 dX6_as_15 (by decide) ?_
    refine V_ldc2_w ct_X6_143 dX6_as_16 ?_
    refine kX6_72 (m_X6_in _ _ _ _ _) (rOK_d (by decide) (by decide)) (Nat.le_of_ble_eq_true rfl) dX6_as_19 (fun r19 h19 hq19 => ?_)
    obtain ⟨e_, rfl⟩ := hq19
    replace e_ := e_.symm
    subst e_
    rw [bz_c (in_r k (p := 0) (q := nI 3) (by decide) (by decide))]
    first | refine V_if_ne_z 28 dX6_as_22 (by decide) (fun c22 => ?_) (fun c22 => ?_) | refine V_if_ne_n 28 dX6_as_22 (by decide) (by omega) (fun c22 => ?_) (fun c22 => ?_) | refine V_if_ne 28 dX6_as_22 (by decide) (fun c22 => ?_) (fun c22 => ?_)
    · have hnl := i.1.nl
      have hg : inR x (nNl S.2.1) ∧ 0 ≤ k ∧ k ≤ nI 3 := ⟨c10, c22⟩
      obtain ⟨l, hl, rfl⟩ := (inR_iff (by omega)).mp c10
      have kl := cl_nI (show l < 2 ^ 31 by omega)
      have hlen := i.1.len (l := l)
      obtain ⟨w1, w2⟩ := a.2.1.2.2.2.2.2.1 l (by omega)
      refine V_aload0 dX6_as_28 ?_
      refine gX6_32 dX6_as_29 ?_
      refine V_iload1 dX6_as_32 ?_
      refine V_iaload (by decide) aI_111 (by decide) rfl (by first | assumption | omega) dX6_as_33 ?_
      rw [w1]
      first | refine V_if_ne_z 40 dX6_as_34 (by decide) (fun c34 => ?_) (fun c34 => ?_) | refine V_if_ne_n 40 dX6_as_34 (by decide) (by omega) (fun c34 => ?_) (fun c34 => ?_) | refine V_if_ne 40 dX6_as_34 (by decide) (fun c34 => ?_) (fun c34 => ?_)
      · refine V_aload0 dX6_as_40 ?_
        refine V_iconst (nI 0) dX6_as_41 (by decide) ?_
        refine pX6_66 dX6_as_42 ?_
        replace a := a.st 0
        generalize wr g 100 1 (nI 0) = g1 at a ⊢
        have hwn : ¬ nWy S.2.1 l = [] := fun z => c34 (by rw [z]; rfl)
        replace w1 : g1 111 l = nI (nWy S.2.1 l).length := (a.2.1.2.2.2.2.2.1 l (by omega)).1
        refine V_iload2 dX6_as_45 ?_
        first | refine V_if_eq_z 58 dX6_as_46 (by decide) (fun c46 => ?_) (fun c46 => ?_) | refine V_if_eq_n 58 dX6_as_46 (by decide) (by omega) (fun c46 => ?_) (fun c46 => ?_) | refine V_if_eq 58 dX6_as_46 (by decide) (fun c46 => ?_) (fun c46 => ?_)
        · refine V_aload0 dX6_as_58 ?_
          refine gX6_32 dX6_as_59 ?_
          refine V_iload1 dX6_as_62 ?_
          refine V_iaload (by decide) aI_111 (by decide) rfl (by first | assumption | omega) dX6_as_63 ?_
          rw [w1]
          refine V_goto 72 dX6_as_64 (by decide) ?_
          refine V_ireti dX6_as_72 ?_
          first
          | (rw [O_as, ite_t hg, kl, ite_f hwn, ite_t (Or.inl c46)]; exact ⟨rfl, a⟩)
          | (rw [O_as, ite_t hg, kl, ite_f hwn, ite_t (Or.inr c55.symm)]; exact ⟨rfl, a⟩)
          | (rw [O_as, ite_t hg, kl, ite_f hwn, ite_f (fun z => z.elim c46 (fun y => c55 y.symm))]; exact ⟨rfl, a.st 3⟩)
        · refine V_aload0 dX6_as_49 ?_
          refine V_iload1 dX6_as_50 ?_
          refine kX6_184 (m_X6_kindOf _ _ S.2.1 i.1 a.2.1 l (by omega) c34) (rOK_d (by decide) (by decide)) (Nat.le_of_ble_eq_true rfl) dX6_as_51 (fun r51 h51 hq51 => ?_)
          obtain ⟨e_, rfl⟩ := hq51
          replace e_ := e_.symm
          subst e_
          refine V_iload2 dX6_as_54 ?_
          refine V_icmp_ne 67 dX6_as_55 (by decide) (fun c55 => ?_) (fun c55 => ?_)
          · skip
            refine V_aload0 dX6_as_67 ?_
            refine V_iconst (nI 3) dX6_as_68 (by decide) ?_
            refine kX6_83 (m_X6_found _ _ _) (rOK_d (by decide) (by decide)) (Nat.le_of_ble_eq_true rfl) dX6_as_69 (fun r69 h69 hq69 => ?_)
            obtain ⟨e_, rfl⟩ := hq69
            replace e_ := e_.symm
            subst e_
            refine V_ireti dX6_as_72 ?_
            first
            | (rw [O_as, ite_t hg, kl, ite_f hwn, ite_t (Or.inl c46)]; exact ⟨rfl, a⟩)
            | (rw [O_as, ite_t hg, kl, ite_f hwn, ite_t (Or.inr c55.symm)]; exact ⟨rfl, a⟩)
            | (rw [O_as, ite_t hg, kl, ite_f hwn, ite_f (fun z => z.elim c46 (fun y => c55 y.symm))]; exact ⟨rfl, a.st 3⟩)
          · skip
            refine V_aload0 dX6_as_58 ?_
            refine gX6_32 dX6_as_59 ?_
            refine V_iload1 dX6_as_62 ?_
            refine V_iaload (by decide) aI_111 (by decide) rfl (by first | assumption | omega) dX6_as_63 ?_
            rw [w1]
            refine V_goto 72 dX6_as_64 (by decide) ?_
            refine V_ireti dX6_as_72 ?_
            first
            | (rw [O_as, ite_t hg, kl, ite_f hwn, ite_t (Or.inl c46)]; exact ⟨rfl, a⟩)
            | (rw [O_as, ite_t hg, kl, ite_f hwn, ite_t (Or.inr c55.symm)]; exact ⟨rfl, a⟩)
            | (rw [O_as, ite_t hg, kl, ite_f hwn, ite_f (fun z => z.elim c46 (fun y => c55 y.symm))]; exact ⟨rfl, a.st 3⟩)
      · refine V_ldc ct_X6_100 dX6_as_37 ?_
        refine V_ireti dX6_as_39 ?_
        rw [O_as, ite_t hg, kl, ite_t (List.length_eq_zero_iff.mp c34)]
        exact ⟨rfl, a⟩
    · refine V_ldc ct_X6_82 dX6_as_25 ?_
      refine V_ireti dX6_as_27 ?_
      rw [O_as, ite_f (fun z => by first | exact c10 z.1 | exact c22 z.2)]
      exact ⟨rfl, a⟩
set_option maxRecDepth 4000 in
theorem m_X6_trace (G : GE) (h : Mem) (S : St) (i : Ok S) (a : RB S h) (x : Int32) : Ct idsB G yX6_trace cX6_trace 2 (some .int) (rmD 1) [.ref (ad G 100), .int x] h (Qi fun rv h' => rv = (O_trace S x).1 ∧ RB (O_trace S x).2 h') := by
  refine Ct.of [some (.ref (ad G 100)), some (.int x)] (by decide) (Nat.le_of_ble_eq_true rfl) (lvE_ok 0 rfl) ?_
  refine V_aload0 dX6_trace_0 ?_
  refine V_iconst (nI 0) dX6_trace_1 (by decide) ?_
  refine pX6_62 dX6_trace_2 ?_
  replace a := a.th (nI 0)
  generalize wr h 100 0 (nI 0) = g at a ⊢
  obtain ⟨t1, t2, t3⟩ := a.2.2.1
  refine V_iload1 dX6_trace_5 ?_
  refine V_i2l dX6_trace_6 ?_
  refine V_lconst 0 dX6_trace_7 (by decide) ?_
  refine V_aload0 dX6_trace_8 ?_
  refine gX6_187 dX6_trace_9 ?_
  rw [t2]
  refine V_iconst (nI 1) dX6_trace_12 (by decide) ?_
  refine V_isub dX6_trace_13 ?_
  refine V_i2l dX6_trace_14 ?_
  refine kX6_72 (m_X6_in _ _ _ _ _) (rOK_d (by decide) (by decide)) (Nat.le_of_ble_eq_true rfl) dX6_trace_15 (fun r15 h15 hq15 => ?_)
  obtain ⟨e_, rfl⟩ := hq15
  replace e_ := e_.symm
  subst e_
  rw [bz_c (in_e x (n := S.2.2.1.1) (by rw [Int32.toInt_toInt64, pk_sub_toInt (by omega) (by decide), nI_toInt (by omega)]; omega))]
  first | refine V_if_eq_z 30 dX6_trace_18 (by decide) (fun c18 => ?_) (fun c18 => ?_) | refine V_if_eq_n 30 dX6_trace_18 (by decide) (by omega) (fun c18 => ?_) (fun c18 => ?_) | refine V_if_eq 30 dX6_trace_18 (by decide) (fun c18 => ?_) (fun c18 => ?_)
  · refine V_ldc ct_X6_93 dX6_trace_30 ?_
    refine V_ireti dX6_trace_32 ?_
    first
    | (rw [O_trace, vTrace, ite_t hg, kj]; exact ⟨rfl, a⟩)
    | (rw [O_trace, vTrace, ite_f c18]; exact ⟨rfl, a⟩)
  · have hg := c18
    obtain ⟨j, hj, rfl⟩ := (inR_iff (show S.2.2.1.1 < 2 ^ 31 by omega)).mp c18
    have kj := cl_nI (show j < 2 ^ 31 by omega)
    refine V_aload0 dX6_trace_21 ?_
    refine gX6_59 dX6_trace_22 ?_
    refine V_iload1 dX6_trace_25 ?_
    refine V_iaload (by decide) aI_120 (by decide) rfl (by first | assumption | omega) dX6_trace_26 ?_
    rw [t3 j hj]
    refine V_goto 32 dX6_trace_27 (by decide) ?_
    refine V_ireti dX6_trace_32 ?_
    first
    | (rw [O_trace, vTrace, ite_t hg, kj]; exact ⟨rfl, a⟩)
    | (rw [O_trace, vTrace, ite_f c18]; exact ⟨rfl, a⟩)
