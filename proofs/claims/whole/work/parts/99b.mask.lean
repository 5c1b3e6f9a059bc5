set_option maxRecDepth 4000 in
theorem m_X6_ask (G : GE) (h : Mem) (S : St) (i : Ok S) (a : RB S h) (x w : Int32) : Ct idsB G yX6_ask cX6_ask 3 (some .int) (rmD 5) [.ref (ad G 100), .int x, .int w] h (Qi fun rv h' => rv = (O_ask S x w).1 ∧ RB (O_ask S x w).2 h') := by
  refine Ct.of [some (.ref (ad G 100)), some (.int x), some (.int w)] (by decide) (Nat.le_of_ble_eq_true rfl) (lvE_ok 0 rfl) ?_
  refine V_aload0 dX6_ask_0 ?_
  refine V_iconst (nI 0) dX6_ask_1 (by decide) ?_
  refine pX6_62 dX6_ask_2 ?_
  replace a := a.th (nI 0)
  generalize wr h 100 0 (nI 0) = g at a ⊢
  refine V_aload0 dX6_ask_5 ?_
  refine V_iload1 dX6_ask_6 ?_
  refine kX6_128 (m_X6_isLine _ _ S.2.1 i.1 a.2.1 _) (rOK_d (by decide) (by decide)) (Nat.le_of_ble_eq_true rfl) dX6_ask_7 (fun r7 h7 hq7 => ?_)
  obtain ⟨e_, rfl⟩ := hq7
  replace e_ := e_.symm
  subst e_
  first | refine V_if_eq_z 23 dX6_ask_10 (by decide) (fun c10 => ?_) (fun c10 => ?_) | refine V_if_eq_n 23 dX6_ask_10 (by decide) (by omega) (fun c10 => ?_) (fun c10 => ?_) | refine V_if_eq 23 dX6_ask_10 (by decide) (fun c10 => ?_) (fun c10 => ?_)
  · refine V_ldc ct_X6_82 dX6_ask_23 ?_
    refine V_ireti dX6_ask_25 ?_
    rw [O_ask, ite_f (fun z => by first | exact c10 z.1 | exact c20 z.2)]
    exact ⟨rfl, a⟩
  · refine V_iload2 dX6_ask_13 ?_
    refine V_i2l dX6_ask_14 ?_
    refine V_lconst 0 dX6_ask_15 (by decide) ?_
    refine V_lconst 1 dX6_ask_16 (by decide) ?_
    refine kX6_72 (m_X6_in _ _ _ _ _) (rOK_d (by decide) (by decide)) (Nat.le_of_ble_eq_true rfl) dX6_ask_17 (fun r17 h17 hq17 => ?_)
    obtain ⟨e_, rfl⟩ := hq17
    replace e_ := e_.symm
    subst e_
    rw [bz_c (in_r w (p := 0) (q := nI 1) (by decide) (by decide))]
    first | refine V_if_ne_z 26 dX6_ask_20 (by decide) (fun c20 => ?_) (fun c20 => ?_) | refine V_if_ne_n 26 dX6_ask_20 (by decide) (by omega) (fun c20 => ?_) (fun c20 => ?_) | refine V_if_ne 26 dX6_ask_20 (by decide) (fun c20 => ?_) (fun c20 => ?_)
    · have hnl := i.1.nl
      have hg : inR x (nNl S.2.1) ∧ 0 ≤ w ∧ w ≤ nI 1 := ⟨c10, c20⟩
      obtain ⟨l, hl, rfl⟩ := (inR_iff (by omega)).mp c10
      have kl := cl_nI (show l < 2 ^ 31 by omega)
      have hlen := i.1.len (l := l)
      obtain ⟨w1, w2⟩ := a.2.1.2.2.2.2.2.1 l (by omega)
      refine V_aload0 dX6_ask_26 ?_
      refine gX6_32 dX6_ask_27 ?_
      refine V_iload1 dX6_ask_30 ?_
      refine V_iaload (by decide) aI_111 (by decide) rfl (by first | assumption | omega) dX6_ask_31 ?_
      rw [w1]
      first | refine V_if_ne_z 38 dX6_ask_32 (by decide) (fun c32 => ?_) (fun c32 => ?_) | refine V_if_ne_n 38 dX6_ask_32 (by decide) (by omega) (fun c32 => ?_) (fun c32 => ?_) | refine V_if_ne 38 dX6_ask_32 (by decide) (fun c32 => ?_) (fun c32 => ?_)
      · refine V_aload0 dX6_ask_38 ?_
        refine V_iconst (nI 0) dX6_ask_39 (by decide) ?_
        refine pX6_187 dX6_ask_40 ?_
        have hwn : ¬ nWy S.2.1 l = [] := fun z => c32 (by rw [z]; rfl)
        have a0 : RB (S.1, S.2.1, (0, S.2.2.1.2), S.2.2.2) (wr g 100 21 (nI 0)) := RB_tr a (same.rf.wr _ _ (by decide)) (fun j hj => wr_j _ _ hj) ⟨Nat.zero_le _, wr_s _ _ _ _, fun k hk => absurd hk (Nat.not_lt_zero _)⟩
        refine V_iload2 dX6_ask_43 ?_
        refine V_if_ne 55 dX6_ask_44 (by decide) (fun c44 => ?_) (fun c44 => ?_)
        · skip
          refine V_aload0 dX6_ask_55 ?_
          refine V_iload1 dX6_ask_56 ?_
          refine kX6_196 (m_X6_marked _ _ (S.1, S.2.1, (0, S.2.2.1.2), S.2.2.2) i a0 l hl c32) (rOK_d (by decide) (by decide)) (Nat.le_of_ble_eq_true rfl) dX6_ask_57 (fun r57 h57 hq57 => ?_)
          obtain ⟨rfl, q2⟩ := hq57
          refine V_ireti dX6_ask_60 ?_
          first
          | (rw [O_ask, ite_t hg, kl, ite_f hwn, ite_t c44]; exact ⟨rfl, q2⟩)
          | (rw [O_ask, ite_t hg, kl, ite_f hwn, ite_f c44]; exact ⟨rfl, q2⟩)
        · skip
          refine V_aload0 dX6_ask_47 ?_
          refine V_iload1 dX6_ask_48 ?_
          refine kX6_193 (m_X6_sized _ _ (S.1, S.2.1, (0, S.2.2.1.2), S.2.2.2) i a0 l hl c32) (rOK_d (by decide) (by decide)) (Nat.le_of_ble_eq_true rfl) dX6_ask_49 (fun r49 h49 hq49 => ?_)
          obtain ⟨rfl, q2⟩ := hq49
          refine V_goto 60 dX6_ask_52 (by decide) ?_
          refine V_ireti dX6_ask_60 ?_
          first
          | (rw [O_ask, ite_t hg, kl, ite_f hwn, ite_t c44]; exact ⟨rfl, q2⟩)
          | (rw [O_ask, ite_t hg, kl, ite_f hwn, ite_f c44]; exact ⟨rfl, q2⟩)
      · refine V_ldc ct_X6_100 dX6_ask_35 ?_
        refine V_ireti dX6_ask_37 ?_
        rw [O_ask, ite_t hg, kl, ite_t (List.length_eq_zero_iff.mp c32)]
        exact ⟨rfl, a⟩
    · refine V_ldc ct_X6_82 dX6_ask_23 ?_
      refine V_ireti dX6_ask_25 ?_
      rw [O_ask, ite_f (fun z => by first | exact c10 z.1 | exact c20 z.2)]
      exact ⟨rfl, a⟩
