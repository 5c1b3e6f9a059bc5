theorem in_r (x : Int32) {y z : Int64} {p q : Int32} (hy : y.toInt = p.toInt) (hz : z.toInt = q.toInt) : (y ≤ x.toInt64 ∧ x.toInt64 ≤ z) ↔ (p ≤ x ∧ x ≤ q) := by
  rw [fa_le64, fa_le64, fa_le, fa_le, Int32.toInt_toInt64, hy, hz]
theorem RBs_up {A : Sg} {h h' : Mem} (a : RBs A h) {s : Nat} {ln : Int32} {sz : Nat} {it : Nat → Int32} (e : ∀ i, i < 8 → i ≠ s → h' 102 i = h 102 i ∧ h' 103 i = h 103 i ∧ ∀ j, j < 60 → h' 104 (60 * i + j) = h 104 (60 * i + j)) (k : (ln = -1 ∧ h' 102 s = -1) ∨ (inR ln 3 ∧ sz ≤ 60 ∧ h' 102 s = ln ∧ h' 103 s = nI sz ∧ ∀ j, j < sz → h' 104 (60 * s + j) = it j)) : RBs (upS A s ln sz it) h' := by
  intro i hi
  show (va_up A.1 s ln i = -1 ∧ _) ∨ (inR (va_up A.1 s ln i) 3 ∧ va_up A.2.1 s sz i ≤ 60 ∧ _ = va_up A.1 s ln i ∧ _ = nI (va_up A.2.1 s sz i) ∧ ∀ j, j < va_up A.2.1 s sz i → _ = va_up A.2.2 s it i j)
  by_cases z : i = s
  · subst z
    rw [va_up_s, va_up_s, va_up_s]
    exact k
  · rw [va_up_ne _ _ z, va_up_ne _ _ z, va_up_ne _ _ z]
    obtain ⟨e1, e2, e3⟩ := e i hi z
    rcases a i hi with y | ⟨y1, y2, y3, y4, y5⟩
    · exact Or.inl ⟨y.1, e1.trans y.2⟩
    · exact Or.inr ⟨y1, y2, e1.trans y3, e2.trans y4, fun j hj => (e3 j (by omega)).trans (y5 j hj)⟩
theorem RB_sheets {S : St} {h h' : Mem} {A : Sg} {cs : List Nat} (a : RB S h) (s : same cs h h') (o : ∀ c ∈ cs, 102 ≤ c ∧ c ≤ 104) (k : RBs A h') : RB (A, S.2.1, S.2.2.1, S.2.2.2) h' := by
  have e : ∀ c, c < 102 ∨ 104 < c → h' c = h c := fun c hc => s c (fun z => by have := o c z; omega)
  refine ⟨k, ?_, ?_, ?_⟩
  · unfold RBn
    rw [e 100 (by omega), e 107 (by omega), e 105 (by omega), e 109 (by omega), e 110 (by omega), e 111 (by omega), e 112 (by omega), e 113 (by omega), e 114 (by omega)]
    exact a.2.1
  · unfold RBt
    rw [e 100 (by omega), e 120 (by omega)]
    exact a.2.2.1
  · rw [e 100 (by omega)]
    exact a.2.2.2
theorem ln_neg {A : Sg} {h : Mem} (a : RBs A h) {i : Nat} (hi : i < 8) : h 102 i = A.1 i ∧ (A.1 i < 0 ↔ A.1 i = -1) := by
  rcases a i hi with y | ⟨y1, y2, y3, y4, y5⟩
  · refine ⟨y.2.trans y.1.symm, ?_⟩
    rw [y.1]
    exact ⟨fun _ => rfl, fun _ => by decide⟩
  · refine ⟨y3, fun z => absurd z (i_le_n y1.1), fun z => ?_⟩
    rw [z]; decide
set_option maxRecDepth 4000 in
theorem m_X6_rule (G : GE) (h : Mem) (S : St) (i : Ok S) (a : RB S h) (x v : Int32) : Ct idsB G yX6_rule cX6_rule 4 (some .int) (rmD 1) [.ref (ad G 100), .int x, .int v] h (Qi fun rv h' => rv = (O_rule S x v).1 ∧ RB (O_rule S x v).2 h') := by
  refine Ct.of [some (.ref (ad G 100)), some (.int x), some (.int v), none] (by decide) (Nat.le_of_ble_eq_true rfl) (lvE_ok 1 rfl) ?_
  refine V_aload0 dX6_rule_0 ?_
  refine V_iconst (nI 0) dX6_rule_1 (by decide) ?_
  refine pX6_62 dX6_rule_2 ?_
  replace a := a.th (nI 0)
  generalize wr h 100 0 (nI 0) = g at a ⊢
  refine V_iload1 dX6_rule_5 ?_
  refine V_i2l dX6_rule_6 ?_
  refine V_lconst 0 dX6_rule_7 (by decide) ?_
  refine V_lconst 1 dX6_rule_8 (by decide) ?_
  refine kX6_72 (m_X6_in _ _ _ _ _) (rOK_d (by decide) (by decide)) (Nat.le_of_ble_eq_true rfl) dX6_rule_9 (fun r9 h9 hq9 => ?_)
  obtain ⟨e_, rfl⟩ := hq9
  replace e_ := e_.symm
  subst e_
  rw [bz_c (in_e _ (n := 2) (by decide))]
  first | refine V_if_eq_z 46 dX6_rule_12 (by decide) (fun c12 => ?_) (fun c12 => ?_) | refine V_if_eq_n 46 dX6_rule_12 (by decide) (by omega) (fun c12 => ?_) (fun c12 => ?_) | refine V_if_eq 46 dX6_rule_12 (by decide) (fun c12 => ?_) (fun c12 => ?_)
  · refine V_ldc ct_X6_82 dX6_rule_46 ?_
    refine V_ireti dX6_rule_48 ?_
    rw [O_rule, ite_f (fun z => by first | exact c12 (z.1 ▸ (by decide)) | exact c28 z.2 | exact c16 z.1), ite_f (fun z => by first | exact c12 (z.1 ▸ (by decide)) | exact c43 z.2 | exact absurd (c16.symm.trans z.1) (by decide))]
    exact ⟨rfl, a⟩
  · refine V_iload1 dX6_rule_15 ?_
    first | refine V_if_ne_z 34 dX6_rule_16 (by decide) (fun c16 => ?_) (fun c16 => ?_) | refine V_if_ne_n 34 dX6_rule_16 (by decide) (by omega) (fun c16 => ?_) (fun c16 => ?_) | refine V_if_ne 34 dX6_rule_16 (by decide) (fun c16 => ?_) (fun c16 => ?_)
    · refine V_iload2 dX6_rule_34 ?_
      refine V_i2l dX6_rule_35 ?_
      refine V_lconst 0 dX6_rule_36 (by decide) ?_
      refine V_ldc2_w ct_X6_123 dX6_rule_37 ?_
      refine kX6_72 (m_X6_in _ _ _ _ _) (rOK_d (by decide) (by decide)) (Nat.le_of_ble_eq_true rfl) dX6_rule_40 (fun r40 h40 hq40 => ?_)
      obtain ⟨e_, rfl⟩ := hq40
      replace e_ := e_.symm
      subst e_
      rw [bz_c (in_r _ (p := 0) (q := nI 50) (by decide) (by decide))]
      first | refine V_if_ne_z 49 dX6_rule_43 (by decide) (fun c43 => ?_) (fun c43 => ?_) | refine V_if_ne_n 49 dX6_rule_43 (by decide) (by omega) (fun c43 => ?_) (fun c43 => ?_) | refine V_if_ne 49 dX6_rule_43 (by decide) (fun c43 => ?_) (fun c43 => ?_)
      · have hx0 : ¬ (x = 0 ∧ nI 1 ≤ v ∧ v ≤ nI 100) := fun z => c16 z.1
        have hx1 : x = nI 1 := by
          obtain ⟨j, hj, rfl⟩ := (inR_iff (by decide)).mp c12
          rcases (show j = 0 ∨ j = 1 by omega) with rfl | rfl
          · exact absurd rfl c16
          · rfl
        have hg : x = nI 1 ∧ 0 ≤ v ∧ v ≤ nI 50 := ⟨hx1, c43⟩
        obtain ⟨v', hv', rfl⟩ := nI_of2 (n := 50) (show (nI 50).toInt = (50 : Nat) by decide) (i_le_n hg.2.1) hg.2.2
        have kv := cl_nI (show v' < 2 ^ 31 by omega)
        clear c16 c12
        subst hx1
        refine V_aload0 dX6_rule_49 ?_
        refine gX6_41 dX6_rule_50 ?_
        refine V_iload1 dX6_rule_53 ?_
        refine V_iaload (by decide) aI_114 (by decide) rfl (by first | assumption | omega) dX6_rule_54 ?_
        first | rw [a.2.1.2.2.2.2.2.2.2.1] | rw [a.2.1.2.2.2.2.2.2.2.2]
        refine V_istore3 dX6_rule_55 (by decide) rfl ?_
        refine V_aload0 dX6_rule_56 ?_
        refine gX6_41 dX6_rule_57 ?_
        refine V_iload1 dX6_rule_60 ?_
        refine V_iload2 dX6_rule_61 ?_
        refine V_iastore (by decide) aI_114 (by decide) rfl (by first | assumption | omega) dX6_rule_62 ?_
        refine V_iload3 dX6_rule_63 ?_
        refine V_ireti dX6_rule_64 ?_
        first
        | (rw [O_rule, ite_t hg, kv]; exact ⟨rfl, RB_net a (RBn_r0 a.2.1 _) (by rw [wr_c _ _ _ (by decide)]) (by rw [wr_c _ _ _ (by decide)]) (by rw [wr_c _ _ _ (by decide)]) (by rw [wr_c _ _ _ (by decide)]) (by rw [wr_c _ _ _ (by decide)]) (by rw [wr_c _ _ _ (by decide)])⟩)
        | (rw [O_rule, ite_f hx0, ite_t hg, kv]; exact ⟨rfl, RB_net a (RBn_r1 a.2.1 _) (by rw [wr_c _ _ _ (by decide)]) (by rw [wr_c _ _ _ (by decide)]) (by rw [wr_c _ _ _ (by decide)]) (by rw [wr_c _ _ _ (by decide)]) (by rw [wr_c _ _ _ (by decide)]) (by rw [wr_c _ _ _ (by decide)])⟩)
      · refine V_ldc ct_X6_82 dX6_rule_46 ?_
        refine V_ireti dX6_rule_48 ?_
        rw [O_rule, ite_f (fun z => by first | exact c12 (z.1 ▸ (by decide)) | exact c28 z.2 | exact c16 z.1), ite_f (fun z => by first | exact c12 (z.1 ▸ (by decide)) | exact c43 z.2 | exact absurd (c16.symm.trans z.1) (by decide))]
        exact ⟨rfl, a⟩
    · refine V_iload2 dX6_rule_19 ?_
      refine V_i2l dX6_rule_20 ?_
      refine V_lconst 1 dX6_rule_21 (by decide) ?_
      refine V_ldc2_w ct_X6_121 dX6_rule_22 ?_
      refine kX6_72 (m_X6_in _ _ _ _ _) (rOK_d (by decide) (by decide)) (Nat.le_of_ble_eq_true rfl) dX6_rule_25 (fun r25 h25 hq25 => ?_)
      obtain ⟨e_, rfl⟩ := hq25
      replace e_ := e_.symm
      subst e_
      rw [bz_c (in_r _ (p := nI 1) (q := nI 100) (by decide) (by decide))]
      first | refine V_if_ne_z 49 dX6_rule_28 (by decide) (fun c28 => ?_) (fun c28 => ?_) | refine V_if_ne_n 49 dX6_rule_28 (by decide) (by omega) (fun c28 => ?_) (fun c28 => ?_) | refine V_if_ne 49 dX6_rule_28 (by decide) (fun c28 => ?_) (fun c28 => ?_)
      · have hg : x = 0 ∧ nI 1 ≤ v ∧ v ≤ nI 100 := ⟨c16, c28⟩
        obtain ⟨v', hv', rfl⟩ := nI_of2 (n := 100) (show (nI 100).toInt = (100 : Nat) by decide) (fun z => absurd hg.2.1 (i_lt_n (fa_trans z (by decide)))) hg.2.2
        have kv := cl_nI (show v' < 2 ^ 31 by omega)
        have hx0 : x = nI 0 := c16
        clear c16 c12
        subst hx0
        refine V_aload0 dX6_rule_49 ?_
        refine gX6_41 dX6_rule_50 ?_
        refine V_iload1 dX6_rule_53 ?_
        refine V_iaload (by decide) aI_114 (by decide) rfl (by first | assumption | omega) dX6_rule_54 ?_
        first | rw [a.2.1.2.2.2.2.2.2.2.1] | rw [a.2.1.2.2.2.2.2.2.2.2]
        refine V_istore3 dX6_rule_55 (by decide) rfl ?_
        refine V_aload0 dX6_rule_56 ?_
        refine gX6_41 dX6_rule_57 ?_
        refine V_iload1 dX6_rule_60 ?_
        refine V_iload2 dX6_rule_61 ?_
        refine V_iastore (by decide) aI_114 (by decide) rfl (by first | assumption | omega) dX6_rule_62 ?_
        refine V_iload3 dX6_rule_63 ?_
        refine V_ireti dX6_rule_64 ?_
        first
        | (rw [O_rule, ite_t hg, kv]; exact ⟨rfl, RB_net a (RBn_r0 a.2.1 _) (by rw [wr_c _ _ _ (by decide)]) (by rw [wr_c _ _ _ (by decide)]) (by rw [wr_c _ _ _ (by decide)]) (by rw [wr_c _ _ _ (by decide)]) (by rw [wr_c _ _ _ (by decide)]) (by rw [wr_c _ _ _ (by decide)])⟩)
        | (rw [O_rule, ite_f hx0, ite_t hg, kv]; exact ⟨rfl, RB_net a (RBn_r1 a.2.1 _) (by rw [wr_c _ _ _ (by decide)]) (by rw [wr_c _ _ _ (by decide)]) (by rw [wr_c _ _ _ (by decide)]) (by rw [wr_c _ _ _ (by decide)]) (by rw [wr_c _ _ _ (by decide)]) (by rw [wr_c _ _ _ (by decide)])⟩)
      · refine V_goto 46 dX6_rule_31 (by decide) ?_
        refine V_ldc ct_X6_82 dX6_rule_46 ?_
        refine V_ireti dX6_rule_48 ?_
        rw [O_rule, ite_f (fun z => by first | exact c12 (z.1 ▸ (by decide)) | exact c28 z.2 | exact c16 z.1), ite_f (fun z => by first | exact c12 (z.1 ▸ (by decide)) | exact c43 z.2 | exact absurd (c16.symm.trans z.1) (by decide))]
        exact ⟨rfl, a⟩
