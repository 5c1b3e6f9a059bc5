theorem m1_ex {j : Int32} {n : Nat} (h1 : -1 ≤ j) (h2 : ¬ j = -1) (h3 : j < nI n) (hn : n < 2 ^ 31) : ∃ k, k < n ∧ j = nI k := by
  refine (inR_iff hn).mp ⟨?_, h3⟩
  rw [fa_le] at h1
  rw [fa_eq] at h2
  rw [fa_le]
  have e1 : (-1 : Int32).toInt = -1 := by decide
  have e2 : (0 : Int32).toInt = 0 := by decide
  omega
set_option maxRecDepth 4000 in
theorem m_X6_way (G : GE) (h : Mem) (S : St) (i : Ok S) (a : RB S h) (x j : Int32) : Ct idsB G yX6_way cX6_way 3 (some .int) (rmD 2) [.ref (ad G 100), .int x, .int j] h (Qi fun rv h' => rv = (O_way S x j).1 ∧ RB (O_way S x j).2 h') := by
  refine Ct.of [some (.ref (ad G 100)), some (.int x), some (.int j)] (by decide) (Nat.le_of_ble_eq_true rfl) (lvE_ok 0 rfl) ?_
  refine V_aload0 dX6_way_0 ?_
  refine V_iconst (nI 0) dX6_way_1 (by decide) ?_
  refine pX6_62 dX6_way_2 ?_
  replace a := a.th (nI 0)
  generalize wr h 100 0 (nI 0) = g at a ⊢
  refine V_aload0 dX6_way_5 ?_
  refine V_iload1 dX6_way_6 ?_
  refine kX6_128 (m_X6_isLine _ _ S.2.1 i.1 a.2.1 _) (rOK_d (by decide) (by decide)) (Nat.le_of_ble_eq_true rfl) dX6_way_7 (fun r7 h7 hq7 => ?_)
  obtain ⟨e_, rfl⟩ := hq7
  replace e_ := e_.symm
  subst e_
  first | refine V_if_eq_z 18 dX6_way_10 (by decide) (fun c10 => ?_) (fun c10 => ?_) | refine V_if_eq_n 18 dX6_way_10 (by decide) (by omega) (fun c10 => ?_) (fun c10 => ?_) | refine V_if_eq 18 dX6_way_10 (by decide) (fun c10 => ?_) (fun c10 => ?_)
  · refine V_ldc ct_X6_82 dX6_way_18 ?_
    refine V_ireti dX6_way_20 ?_
    rw [O_way, vWay, ite_f (fun z => by first | exact c10 z.1 | exact c15 z.2)]
    exact ⟨rfl, a⟩
  · refine V_iload2 dX6_way_13 ?_
    refine V_iconst (-1) dX6_way_14 (by decide) ?_
    refine V_icmp_ge 21 dX6_way_15 (by decide) (fun c15 => ?_) (fun c15 => ?_)
    · skip
      have hnl := i.1.nl
      have hg : inR x (nNl S.2.1) ∧ -1 ≤ j := ⟨c10, c15⟩
      obtain ⟨l, hl, rfl⟩ := (inR_iff (by omega)).mp c10
      have kl := cl_nI (show l < 2 ^ 31 by omega)
      have hlen := i.1.len (l := l)
      obtain ⟨w1, w2⟩ := a.2.1.2.2.2.2.2.1 l (by omega)
      refine V_iload2 dX6_way_21 ?_
      refine V_iconst (-1) dX6_way_22 (by decide) ?_
      refine V_icmp_ne 35 dX6_way_23 (by decide) (fun c23 => ?_) (fun c23 => ?_)
      · skip
        refine V_iload2 dX6_way_35 ?_
        refine V_aload0 dX6_way_36 ?_
        refine gX6_32 dX6_way_37 ?_
        refine V_iload1 dX6_way_40 ?_
        refine V_iaload (by decide) aI_111 (by decide) rfl (by first | assumption | omega) dX6_way_41 ?_
        rw [w1]
        refine V_icmp_ge 59 dX6_way_42 (by decide) (fun c42 => ?_) (fun c42 => ?_)
        · skip
          refine V_ldc ct_X6_93 dX6_way_59 ?_
          refine V_ireti dX6_way_61 ?_
          first
          | (rw [O_way, vWay, ite_t hg, kl, ite_f c23, ite_t hj, kk]; exact ⟨rfl, a⟩)
          | (rw [O_way, vWay, ite_t hg, kl, ite_t c23]; exact ⟨rfl, a⟩)
          | (rw [O_way, vWay, ite_t hg, kl, ite_f c23, ite_f (i_le_n c42)]; exact ⟨rfl, a⟩)
        · have hj := i_nle c42
          obtain ⟨k, hk, rfl⟩ := m1_ex c15 c23 hj (by omega)
          have kk := cl_nI (show k < 2 ^ 31 by omega)
          refine V_aload0 dX6_way_45 ?_
          refine gX6_35 dX6_way_46 ?_
          refine V_bipush (nI 100) dX6_way_49 (by decide) ?_
          refine V_iload1 dX6_way_51 ?_
          first | refine V_imul_n dX6_way_52 ?_ | refine V_imul dX6_way_52 ?_
          refine V_iload2 dX6_way_53 ?_
          first | refine V_iadd_n dX6_way_54 ?_ | refine V_iadd dX6_way_54 ?_
          refine V_iaload (by decide) aI_112 (by decide) rfl (by first | assumption | omega) dX6_way_55 ?_
          rw [w2 k hk]
          refine V_goto 61 dX6_way_56 (by decide) ?_
          refine V_ireti dX6_way_61 ?_
          first
          | (rw [O_way, vWay, ite_t hg, kl, ite_f c23, ite_t hj, kk]; exact ⟨rfl, a⟩)
          | (rw [O_way, vWay, ite_t hg, kl, ite_t c23]; exact ⟨rfl, a⟩)
          | (rw [O_way, vWay, ite_t hg, kl, ite_f c23, ite_f (i_le_n c42)]; exact ⟨rfl, a⟩)
      · skip
        refine V_aload0 dX6_way_26 ?_
        refine gX6_32 dX6_way_27 ?_
        refine V_iload1 dX6_way_30 ?_
        refine V_iaload (by decide) aI_111 (by decide) rfl (by first | assumption | omega) dX6_way_31 ?_
        rw [w1]
        refine V_goto 61 dX6_way_32 (by decide) ?_
        refine V_ireti dX6_way_61 ?_
        first
        | (rw [O_way, vWay, ite_t hg, kl, ite_f c23, ite_t hj, kk]; exact ⟨rfl, a⟩)
        | (rw [O_way, vWay, ite_t hg, kl, ite_t c23]; exact ⟨rfl, a⟩)
        | (rw [O_way, vWay, ite_t hg, kl, ite_f c23, ite_f (i_le_n c42)]; exact ⟨rfl, a⟩)
    · skip
      refine V_ldc ct_X6_82 dX6_way_18 ?_
      refine V_ireti dX6_way_20 ?_
      rw [O_way, vWay, ite_f (fun z => by first | exact c10 z.1 | exact c15 z.2)]
      exact ⟨rfl, a⟩
