set_option maxRecDepth 4000 in
theorem m_X6_width (G : GE) (h : Mem) (S : St) (i : Ok S) (a : RB S h) (x y d : Int32) : Ct idsB G yX6_width cX6_width 4 (some .int) (rmD 3) [.ref (ad G 100), .int x, .int y, .int d] h (Qi fun rv h' => rv = (O_width S x y d).1 ∧ RB (O_width S x y d).2 h') := by
  refine Ct.of [some (.ref (ad G 100)), some (.int x), some (.int y), some (.int d)] (by decide) (Nat.le_of_ble_eq_true rfl) (lvE_ok 0 rfl) ?_
  refine V_aload0 dX6_width_0 ?_
  refine V_iconst (nI 0) dX6_width_1 (by decide) ?_
  refine pX6_62 dX6_width_2 ?_
  replace a := a.th (nI 0)
  generalize wr h 100 0 (nI 0) = g at a ⊢
  refine V_iload1 dX6_width_5 ?_
  refine V_iload2 dX6_width_6 ?_
  refine kX6_89 (m_X6_isOn _ _ _ _) (rOK_d (by decide) (by decide)) (Nat.le_of_ble_eq_true rfl) dX6_width_7 (fun r7 h7 hq7 => ?_)
  obtain ⟨e_, rfl⟩ := hq7
  replace e_ := e_.symm
  subst e_
  first | refine V_if_eq_z 25 dX6_width_10 (by decide) (fun c10 => ?_) (fun c10 => ?_) | refine V_if_eq_n 25 dX6_width_10 (by decide) (by omega) (fun c10 => ?_) (fun c10 => ?_) | refine V_if_eq 25 dX6_width_10 (by decide) (fun c10 => ?_) (fun c10 => ?_)
  · refine V_ldc ct_X6_82 dX6_width_25 ?_
    refine V_ireti dX6_width_27 ?_
    rw [O_width, vWidth, ite_f (fun z => by first | exact c10 ⟨z.1, z.2.1⟩ | exact c22 z.2.2)]
    exact ⟨rfl, a⟩
  · refine V_iload3 dX6_width_13 ?_
    refine V_i2l dX6_width_14 ?_
    refine V_lconst 0 dX6_width_15 (by decide) ?_
    refine V_ldc2_w ct_X6_143 dX6_width_16 ?_
    refine kX6_72 (m_X6_in _ _ _ _ _) (rOK_d (by decide) (by decide)) (Nat.le_of_ble_eq_true rfl) dX6_width_19 (fun r19 h19 hq19 => ?_)
    obtain ⟨e_, rfl⟩ := hq19
    replace e_ := e_.symm
    subst e_
    rw [bz_c (in_e _ (n := 4) (by decide))]
    first | refine V_if_ne_z 28 dX6_width_22 (by decide) (fun c22 => ?_) (fun c22 => ?_) | refine V_if_ne_n 28 dX6_width_22 (by decide) (by omega) (fun c22 => ?_) (fun c22 => ?_) | refine V_if_ne 28 dX6_width_22 (by decide) (fun c22 => ?_) (fun c22 => ?_)
    · have hg : inR x 10 ∧ inR y 10 ∧ inR d 4 := ⟨c10.1, c10.2, c22⟩
      obtain ⟨x', hx', rfl⟩ := (inR_iff (by decide)).mp c10.1
      obtain ⟨y', hy', rfl⟩ := (inR_iff (by decide)).mp c10.2
      obtain ⟨d', hd', rfl⟩ := (inR_iff (by decide)).mp c22
      have kx := cl_nI (show x' < 2 ^ 31 by omega)
      have ky := cl_nI (show y' < 2 ^ 31 by omega)
      have kd := cl_nI (show d' < 2 ^ 31 by omega)
      have hpe : y' * 10 + x' = 10 * y' + x' := by omega
      have hp : 10 * y' + x' < 100 := by omega
      refine V_bipush (nI 10) dX6_width_28 (by decide) ?_
      refine V_iload2 dX6_width_30 ?_
      first | refine V_imul_n dX6_width_31 ?_ | refine V_imul dX6_width_31 ?_
      refine V_iload1 dX6_width_32 ?_
      first | refine V_iadd_n dX6_width_33 ?_ | refine V_iadd dX6_width_33 ?_
      refine V_iload3 dX6_width_34 ?_
      refine kX6_105 (m_X6_go _ _ _ _ (by first | assumption | omega) (by first | assumption | omega)) (rOK_d (by decide) (by decide)) (Nat.le_of_ble_eq_true rfl) dX6_width_35 (fun r35 h35 hq35 => ?_)
      obtain ⟨e_, rfl⟩ := hq35
      replace e_ := e_.symm
      subst e_
      cases e : nb (10 * y' + x') d' with
      | none =>
        rw [oI_n]
        refine V_ldc ct_X6_93 dX6_width_38 ?_
        refine V_icmp_ne 47 dX6_width_40 (by decide) (fun c40 => absurd rfl c40) (fun c40 => ?_)
        refine V_iconst (nI 0) dX6_width_43 (by decide) ?_
        refine V_goto 61 dX6_width_44 (by decide) ?_
        refine V_ireti dX6_width_61 ?_
        rw [O_width, vWidth, ite_t hg, kx, ky, kd, hpe]
        exact ⟨by simp only [lfM, e]; rfl, a⟩
      | some q =>
        rw [oI_s]
        have hq := nb_lt hp e
        have hps := phi_sB hp hd' e
        refine V_ldc ct_X6_93 dX6_width_38 ?_
        refine V_icmp_ne 47 dX6_width_40 (by decide) (fun c40 => ?_) (fun c40 => absurd c40 (nI_m (show q < 2 ^ 31 by omega)))
        refine V_aload0 dX6_width_47 ?_
        refine V_bipush (nI 10) dX6_width_48 (by decide) ?_
        refine V_iload2 dX6_width_50 ?_
        first | refine V_imul_n dX6_width_51 ?_ | refine V_imul dX6_width_51 ?_
        refine V_iload1 dX6_width_52 ?_
        first | refine V_iadd_n dX6_width_53 ?_ | refine V_iadd dX6_width_53 ?_
        refine V_iload3 dX6_width_54 ?_
        refine kX6_109 (m_X6_side _ _ _ _ hp hd' (nb_h3 e) (nb_h0 e)) (rOK_d (by decide) (by decide)) (Nat.le_of_ble_eq_true rfl) dX6_width_55 (fun r55 h55 hq55 => ?_)
        obtain ⟨e_, rfl⟩ := hq55
        replace e_ := e_.symm
        subst e_
        refine kX6_112 (m_X6_widthOf _ _ S.2.1 i.1 a.2.1 _ hps.1) (rOK_d (by decide) (by decide)) (Nat.le_of_ble_eq_true rfl) dX6_width_58 (fun r58 h58 hq58 => ?_)
        obtain ⟨e_, rfl⟩ := hq58
        replace e_ := e_.symm
        subst e_
        refine V_ireti dX6_width_61 ?_
        rw [O_width, vWidth, ite_t hg, kx, ky, kd, hpe]
        exact ⟨by simp only [lfM, e, hps.2], a⟩
    · refine V_ldc ct_X6_82 dX6_width_25 ?_
      refine V_ireti dX6_width_27 ?_
      rw [O_width, vWidth, ite_f (fun z => by first | exact c10 ⟨z.1, z.2.1⟩ | exact c22 z.2.2)]
      exact ⟨rfl, a⟩
