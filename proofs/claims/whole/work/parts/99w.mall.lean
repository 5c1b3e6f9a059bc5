set_option maxRecDepth 4000 in
theorem m_X6_all (G : GE) (h : Mem) (S : St) (i : Ok S) (a : RB S h) (x : Int32) : Ct idsB G yX6_all cX6_all 9 (some .int) (rmD 4) [.ref (ad G 100), .int x] h (Qi fun rv h' => rv = (O_all S x).1 ∧ RB (O_all S x).2 h') := by
  refine Ct.of [some (.ref (ad G 100)), some (.int x), none, none, none, none, none, none, none] (by decide) (Nat.le_of_ble_eq_true rfl) (lvE_ok 7 rfl) ?_
  refine V_aload0 dX6_all_0 ?_
  refine V_iconst (nI 0) dX6_all_1 (by decide) ?_
  refine pX6_62 dX6_all_2 ?_
  replace a := a.th (nI 0)
  generalize wr h 100 0 (nI 0) = g at a ⊢
  refine V_iload1 dX6_all_5 ?_
  refine V_i2l dX6_all_6 ?_
  refine V_lconst 0 dX6_all_7 (by decide) ?_
  refine V_ldc2_w ct_X6_152 dX6_all_8 ?_
  refine kX6_72 (m_X6_in _ _ _ _ _) (rOK_d (by decide) (by decide)) (Nat.le_of_ble_eq_true rfl) dX6_all_11 (fun r11 h11 hq11 => ?_)
  obtain ⟨e_, rfl⟩ := hq11
  replace e_ := e_.symm
  subst e_
  rw [bz_c (in_e x (n := 6) (by decide))]
  first | refine V_if_ne_z 20 dX6_all_14 (by decide) (fun c14 => ?_) (fun c14 => ?_) | refine V_if_ne_n 20 dX6_all_14 (by decide) (by omega) (fun c14 => ?_) (fun c14 => ?_) | refine V_if_ne 20 dX6_all_14 (by decide) (fun c14 => ?_) (fun c14 => ?_)
  · have hg := c14
    obtain ⟨k, hk, rfl⟩ := (inR_iff (by decide)).mp c14
    rcases (show k = 0 ∨ k = 1 ∨ k = 2 ∨ k = 3 ∨ k = 4 ∨ k = 5 by omega) with rfl | rfl | rfl | rfl | rfl | rfl
    · skip
      refine V_iconst (nI 0) dX6_all_20 (by decide) ?_
      refine V_istore2 dX6_all_21 (by decide) rfl ?_
      refine V_iconst (nI 0) dX6_all_22 (by decide) ?_
      refine V_istore3 dX6_all_23 (by decide) rfl ?_
      refine l_X6_all_10 G g S.2.1 i.1 a.2.1 _ (fun o4 o5 => ?_) 0 (by decide) none none
      refine V_iconst (nI 0) dX6_all_119 (by decide) ?_
      refine V_istore3 dX6_all_120 (by decide) rfl ?_
      refine V_iload3 dX6_all_121 ?_
      refine V_bipush (nI 100) dX6_all_122 (by decide) ?_
      first | refine V_icmp_ge_n 287 dX6_all_124 (by decide) (by omega) (by omega) (fun c124 => ?_) (fun c124 => ?_) | refine V_icmp_ge 287 dX6_all_124 (by decide) (fun c124 => ?_) (fun c124 => ?_)
      · exact absurd c124 (by decide) --end
      · refine V_iload1 dX6_all_127 ?_
        refine V_iconst (nI 3) dX6_all_128 (by decide) ?_
        first | refine V_icmp_eq_n 137 dX6_all_129 (by decide) (by omega) (by omega) (fun c129 => ?_) (fun c129 => ?_) | refine V_icmp_eq 137 dX6_all_129 (by decide) (fun c129 => ?_) (fun c129 => ?_)
        · exact absurd c129 (by decide) --end
        · refine V_iload1 dX6_all_132 ?_
          refine V_iconst (nI 4) dX6_all_133 (by decide) ?_
          first | refine V_icmp_ne_n 287 dX6_all_134 (by decide) (by omega) (by omega) (fun c134 => ?_) (fun c134 => ?_) | refine V_icmp_ne 287 dX6_all_134 (by decide) (fun c134 => ?_) (fun c134 => ?_)
          · refine V_iload2 dX6_all_287 ?_
            refine V_ireti dX6_all_288 ?_
            rw [O_all, vAll, ite_t rfl]
            rw [all_0 i.1]
            exact ⟨rfl, a⟩
          · exact absurd c134 (by decide) --end
    · skip
      refine V_iconst (nI 0) dX6_all_20 (by decide) ?_
      refine V_istore2 dX6_all_21 (by decide) rfl ?_
      refine V_iconst (nI 0) dX6_all_22 (by decide) ?_
      refine V_istore3 dX6_all_23 (by decide) rfl ?_
      refine l_X6_all_11 G g S.2.1 i.1 a.2.1 _ (fun o4 o5 => ?_) 0 (by decide) none none
      refine V_iconst (nI 0) dX6_all_119 (by decide) ?_
      refine V_istore3 dX6_all_120 (by decide) rfl ?_
      refine V_iload3 dX6_all_121 ?_
      refine V_bipush (nI 100) dX6_all_122 (by decide) ?_
      first | refine V_icmp_ge_n 287 dX6_all_124 (by decide) (by omega) (by omega) (fun c124 => ?_) (fun c124 => ?_) | refine V_icmp_ge 287 dX6_all_124 (by decide) (fun c124 => ?_) (fun c124 => ?_)
      · exact absurd c124 (by decide) --end
      · refine V_iload1 dX6_all_127 ?_
        refine V_iconst (nI 3) dX6_all_128 (by decide) ?_
        first | refine V_icmp_eq_n 137 dX6_all_129 (by decide) (by omega) (by omega) (fun c129 => ?_) (fun c129 => ?_) | refine V_icmp_eq 137 dX6_all_129 (by decide) (fun c129 => ?_) (fun c129 => ?_)
        · exact absurd c129 (by decide) --end
        · refine V_iload1 dX6_all_132 ?_
          refine V_iconst (nI 4) dX6_all_133 (by decide) ?_
          first | refine V_icmp_ne_n 287 dX6_all_134 (by decide) (by omega) (by omega) (fun c134 => ?_) (fun c134 => ?_) | refine V_icmp_ne 287 dX6_all_134 (by decide) (fun c134 => ?_) (fun c134 => ?_)
          · refine V_iload2 dX6_all_287 ?_
            refine V_ireti dX6_all_288 ?_
            rw [O_all, vAll, ite_f (show ¬ nI 1 = nI 0 by decide), ite_t rfl]
            rw [all_1 i.1]
            exact ⟨rfl, a⟩
          · exact absurd c134 (by decide) --end
    · skip
      refine V_iconst (nI 0) dX6_all_20 (by decide) ?_
      refine V_istore2 dX6_all_21 (by decide) rfl ?_
      refine V_iconst (nI 0) dX6_all_22 (by decide) ?_
      refine V_istore3 dX6_all_23 (by decide) rfl ?_
      refine l_X6_all_12 G g S.2.1 i.1 a.2.1 _ (fun o4 o5 => ?_) 0 (by decide) none none
      refine V_iconst (nI 0) dX6_all_119 (by decide) ?_
      refine V_istore3 dX6_all_120 (by decide) rfl ?_
      refine V_iload3 dX6_all_121 ?_
      refine V_bipush (nI 100) dX6_all_122 (by decide) ?_
      first | refine V_icmp_ge_n 287 dX6_all_124 (by decide) (by omega) (by omega) (fun c124 => ?_) (fun c124 => ?_) | refine V_icmp_ge 287 dX6_all_124 (by decide) (fun c124 => ?_) (fun c124 => ?_)
      · exact absurd c124 (by decide) --end
      · refine V_iload1 dX6_all_127 ?_
        refine V_iconst (nI 3) dX6_all_128 (by decide) ?_
        first | refine V_icmp_eq_n 137 dX6_all_129 (by decide) (by omega) (by omega) (fun c129 => ?_) (fun c129 => ?_) | refine V_icmp_eq 137 dX6_all_129 (by decide) (fun c129 => ?_) (fun c129 => ?_)
        · exact absurd c129 (by decide) --end
        · refine V_iload1 dX6_all_132 ?_
          refine V_iconst (nI 4) dX6_all_133 (by decide) ?_
          first | refine V_icmp_ne_n 287 dX6_all_134 (by decide) (by omega) (by omega) (fun c134 => ?_) (fun c134 => ?_) | refine V_icmp_ne 287 dX6_all_134 (by decide) (fun c134 => ?_) (fun c134 => ?_)
          · refine V_iload2 dX6_all_287 ?_
            refine V_ireti dX6_all_288 ?_
            rw [O_all, vAll, ite_f (show ¬ nI 2 = nI 0 by decide), ite_f (show ¬ nI 2 = nI 1 by decide), ite_t rfl]
            rw [mxP_eq i.1]
            exact ⟨rfl, a⟩
          · exact absurd c134 (by decide) --end
    · skip
      refine V_iconst (nI 0) dX6_all_20 (by decide) ?_
      refine V_istore2 dX6_all_21 (by decide) rfl ?_
      refine V_iconst (nI 0) dX6_all_22 (by decide) ?_
      refine V_istore3 dX6_all_23 (by decide) rfl ?_
      refine l_X6_all_13 G g S.2.1 i.1 a.2.1 _ (fun o4 o5 => ?_) 0 (by decide) none none
      refine V_iconst (nI 0) dX6_all_119 (by decide) ?_
      refine V_istore3 dX6_all_120 (by decide) rfl ?_
      refine V_post (l_X6_all_3 G g S.2.1 i.1 a.2.1 0 (by decide) _ _ _ _ _) (Qi_mono (fun v h2 hz => ?_))
      obtain ⟨rfl, rfl⟩ := hz
      rw [O_all, vAll, ite_f (show ¬ nI 3 = nI 0 by decide), ite_f (show ¬ nI 3 = nI 1 by decide), ite_f (show ¬ nI 3 = nI 2 by decide), ite_t rfl]
      exact ⟨rfl, a⟩
    · skip
      refine V_iconst (nI 0) dX6_all_20 (by decide) ?_
      refine V_istore2 dX6_all_21 (by decide) rfl ?_
      refine V_iconst (nI 0) dX6_all_22 (by decide) ?_
      refine V_istore3 dX6_all_23 (by decide) rfl ?_
      refine l_X6_all_14 G g S.2.1 i.1 a.2.1 _ (fun o4 o5 => ?_) 0 (by decide) none none
      refine V_iconst (nI 0) dX6_all_119 (by decide) ?_
      refine V_istore3 dX6_all_120 (by decide) rfl ?_
      refine V_post (l_X6_all_4 G g S.2.1 i.1 a.2.1 0 (by decide) _ _ _ _ _) (Qi_mono (fun v h2 hz => ?_))
      obtain ⟨rfl, rfl⟩ := hz
      rw [O_all, vAll, ite_f (show ¬ nI 4 = nI 0 by decide), ite_f (show ¬ nI 4 = nI 1 by decide), ite_f (show ¬ nI 4 = nI 2 by decide), ite_f (show ¬ nI 4 = nI 3 by decide), ite_t rfl]
      exact ⟨rfl, a⟩
    · skip
      refine V_iconst (nI 0) dX6_all_20 (by decide) ?_
      refine V_istore2 dX6_all_21 (by decide) rfl ?_
      refine V_iconst (nI 0) dX6_all_22 (by decide) ?_
      refine V_istore3 dX6_all_23 (by decide) rfl ?_
      refine l_X6_all_15 G g S.2.1 i.1 a.2.1 _ (fun o4 o5 => ?_) 0 (by decide) none none
      refine V_iconst (nI 0) dX6_all_119 (by decide) ?_
      refine V_istore3 dX6_all_120 (by decide) rfl ?_
      refine V_iload3 dX6_all_121 ?_
      refine V_bipush (nI 100) dX6_all_122 (by decide) ?_
      first | refine V_icmp_ge_n 287 dX6_all_124 (by decide) (by omega) (by omega) (fun c124 => ?_) (fun c124 => ?_) | refine V_icmp_ge 287 dX6_all_124 (by decide) (fun c124 => ?_) (fun c124 => ?_)
      · exact absurd c124 (by decide) --end
      · refine V_iload1 dX6_all_127 ?_
        refine V_iconst (nI 3) dX6_all_128 (by decide) ?_
        first | refine V_icmp_eq_n 137 dX6_all_129 (by decide) (by omega) (by omega) (fun c129 => ?_) (fun c129 => ?_) | refine V_icmp_eq 137 dX6_all_129 (by decide) (fun c129 => ?_) (fun c129 => ?_)
        · exact absurd c129 (by decide) --end
        · refine V_iload1 dX6_all_132 ?_
          refine V_iconst (nI 4) dX6_all_133 (by decide) ?_
          first | refine V_icmp_ne_n 287 dX6_all_134 (by decide) (by omega) (by omega) (fun c134 => ?_) (fun c134 => ?_) | refine V_icmp_ne 287 dX6_all_134 (by decide) (fun c134 => ?_) (fun c134 => ?_)
          · refine V_iload2 dX6_all_287 ?_
            refine V_ireti dX6_all_288 ?_
            rw [O_all, vAll, ite_f (show ¬ nI 5 = nI 0 by decide), ite_f (show ¬ nI 5 = nI 1 by decide), ite_f (show ¬ nI 5 = nI 2 by decide), ite_f (show ¬ nI 5 = nI 3 by decide), ite_f (show ¬ nI 5 = nI 4 by decide), ite_t rfl]
            rw [all_5 i.1]
            exact ⟨rfl, a⟩
          · exact absurd c134 (by decide) --end
  · refine V_ldc ct_X6_82 dX6_all_17 ?_
    refine V_ireti dX6_all_19 ?_
    rw [O_all, vAll, ite_f (show ¬ x = nI 0 from fun e => c14 (by rw [e]; exact inR_nI (by decide) (by decide))), ite_f (show ¬ x = nI 1 from fun e => c14 (by rw [e]; exact inR_nI (by decide) (by decide))), ite_f (show ¬ x = nI 2 from fun e => c14 (by rw [e]; exact inR_nI (by decide) (by decide))), ite_f (show ¬ x = nI 3 from fun e => c14 (by rw [e]; exact inR_nI (by decide) (by decide))), ite_f (show ¬ x = nI 4 from fun e => c14 (by rw [e]; exact inR_nI (by decide) (by decide))), ite_f (show ¬ x = nI 5 from fun e => c14 (by rw [e]; exact inR_nI (by decide) (by decide)))]
    exact ⟨rfl, a⟩
