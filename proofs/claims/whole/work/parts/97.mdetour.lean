set_option maxRecDepth 4000 in
theorem m_X6_size (G : GE) (h : Mem) (a b : Nat) (ha : a < 10) (hb : b < 10) : Ct idsB G yX6_size cX6_size 1 (some .int) (rmD 0) [.int (nI a - nI b)] h (Qi fun v h' => h' = h ∧ v = nI (dst a b)) := by
  refine Ct.of [some (.int (nI a - nI b))] (by decide) (Nat.le_of_ble_eq_true rfl) (lvE_ok 0 rfl) ?_
  refine V_iload0 dX6_size_0 ?_
  refine V_if_ge 9 dX6_size_1 (by decide) (fun c1 => ?_) (fun c1 => ?_)
  · skip
    refine V_iload0 dX6_size_9 ?_
    refine V_ireti dX6_size_10 ?_
    first
    | exact ⟨rfl, by have := dst_abs a ha b hb; rw [if_pos c1] at this; exact this⟩
    | exact ⟨rfl, by have := dst_abs a ha b hb; rw [if_neg c1] at this; exact this⟩
    | exact ⟨rfl, by have := dst_abs a ha b hb; rw [if_neg c1] at this; rw [← this]; simp⟩
  · skip
    refine V_iload0 dX6_size_4 ?_
    refine V_ineg dX6_size_5 ?_
    refine V_goto 10 dX6_size_6 (by decide) ?_
    refine V_ireti dX6_size_10 ?_
    first
    | exact ⟨rfl, by have := dst_abs a ha b hb; rw [if_pos c1] at this; exact this⟩
    | exact ⟨rfl, by have := dst_abs a ha b hb; rw [if_neg c1] at this; exact this⟩
    | exact ⟨rfl, by have := dst_abs a ha b hb; rw [if_neg c1] at this; rw [← this]; simp⟩
set_option maxRecDepth 4000 in
theorem m_X6_detourOf (G : GE) (h : Mem) (N : Ng) (i : Inv N) (r : RBn N h) (l : Nat) (hl : l < nNl N) : Ct idsB G yX6_detourOf cX6_detourOf 4 (some .int) (rmD 1) [.ref (ad G 100), .int (nI l)] h (Qi fun v h' => h' = h ∧ v = nI (nDt N l)) := by
  refine Ct.of [some (.ref (ad G 100)), some (.int (nI l)), none, none] (by decide) (Nat.le_of_ble_eq_true rfl) (lvE_ok 2 rfl) ?_
  have hnl := i.nl
  have hnp := i.np
  have hab := i.ab hl
  have hlen := i.len (l := l)
  obtain ⟨f1, f2⟩ := r.2.2.2.2.1 l hl
  have hst := i.st hl
  have hgl := i.gl hl
  have hap : 0 < dst (nSt N l % 10) (nGl N l % 10) + dst (nSt N l / 10) (nGl N l / 10) := i.apart hl
  have hd1 := dst_le (a := nSt N l % 10) (b := nGl N l % 10) (by omega) (by omega)
  have hd2 := dst_le (a := nSt N l / 10) (b := nGl N l / 10) (by omega) (by omega)
  refine V_aload0 dX6_detourOf_0 ?_
  refine gX6_23 dX6_detourOf_1 ?_
  refine V_aload0 dX6_detourOf_4 ?_
  refine gX6_26 dX6_detourOf_5 ?_
  refine V_iload1 dX6_detourOf_8 ?_
  refine V_iaload (by decide) aI_109 (by decide) rfl (show l < 12 by omega) dX6_detourOf_9 ?_
  rw [f1]
  refine V_iaload (by decide) aI_107 (by decide) rfl (by first | assumption | omega) dX6_detourOf_10 ?_
  rw [r.2.2.1 _ hab.1, show nPp N (nLa N l) = nSt N l from rfl]
  refine V_istore2 dX6_detourOf_11 (by decide) rfl ?_
  refine V_aload0 dX6_detourOf_12 ?_
  refine gX6_23 dX6_detourOf_13 ?_
  refine V_aload0 dX6_detourOf_16 ?_
  refine gX6_29 dX6_detourOf_17 ?_
  refine V_iload1 dX6_detourOf_20 ?_
  refine V_iaload (by decide) aI_110 (by decide) rfl (by first | assumption | omega) dX6_detourOf_21 ?_
  rw [f2]
  refine V_iaload (by decide) aI_107 (by decide) rfl (by first | assumption | omega) dX6_detourOf_22 ?_
  rw [r.2.2.1 _ hab.2.1, show nPp N (nLb N l) = nGl N l from rfl]
  refine V_istore3 dX6_detourOf_23 (by decide) rfl ?_
  refine V_aload0 dX6_detourOf_24 ?_
  refine gX6_32 dX6_detourOf_25 ?_
  refine V_iload1 dX6_detourOf_28 ?_
  refine V_iaload (by decide) aI_111 (by decide) rfl (by first | assumption | omega) dX6_detourOf_29 ?_
  rw [(r.2.2.2.2.2.1 l (by omega)).1]
  refine V_bipush (nI 100) dX6_detourOf_30 (by decide) ?_
  first | refine V_imul_n dX6_detourOf_32 ?_ | refine V_imul dX6_detourOf_32 ?_
  refine V_iload2 dX6_detourOf_33 ?_
  refine V_bipush (nI 10) dX6_detourOf_34 (by decide) ?_
  first | refine V_irem_n dX6_detourOf_36 (by omega) (by omega) (by omega) ?_ | refine V_irem dX6_detourOf_36 (by decide) ?_
  refine V_iload3 dX6_detourOf_37 ?_
  refine V_bipush (nI 10) dX6_detourOf_38 (by decide) ?_
  first | refine V_irem_n dX6_detourOf_40 (by omega) (by omega) (by omega) ?_ | refine V_irem dX6_detourOf_40 (by decide) ?_
  refine V_isub dX6_detourOf_41 ?_
  refine kX6_157 (m_X6_size _ _ (nSt N l % 10) (nGl N l % 10) (by omega) (by omega)) (rOK_d (by decide) (by decide)) (Nat.le_of_ble_eq_true rfl) dX6_detourOf_42 (fun r42 h42 hq42 => ?_)
  obtain ⟨e_, rfl⟩ := hq42
  replace e_ := e_.symm
  subst e_
  refine V_iload2 dX6_detourOf_45 ?_
  refine V_bipush (nI 10) dX6_detourOf_46 (by decide) ?_
  first | refine V_idiv_n dX6_detourOf_48 (by omega) (by omega) (by omega) ?_ | refine V_idiv dX6_detourOf_48 (by decide) ?_
  refine V_iload3 dX6_detourOf_49 ?_
  refine V_bipush (nI 10) dX6_detourOf_50 (by decide) ?_
  first | refine V_idiv_n dX6_detourOf_52 (by omega) (by omega) (by omega) ?_ | refine V_idiv dX6_detourOf_52 (by decide) ?_
  refine V_isub dX6_detourOf_53 ?_
  refine kX6_157 (m_X6_size _ _ (nSt N l / 10) (nGl N l / 10) (by omega) (by omega)) (rOK_d (by decide) (by decide)) (Nat.le_of_ble_eq_true rfl) dX6_detourOf_54 (fun r54 h54 hq54 => ?_)
  obtain ⟨e_, rfl⟩ := hq54
  replace e_ := e_.symm
  subst e_
  first | refine V_iadd_n dX6_detourOf_57 ?_ | refine V_iadd dX6_detourOf_57 ?_
  first | refine V_idiv_n dX6_detourOf_58 (by omega) (by omega) (by omega) ?_ | refine V_idiv dX6_detourOf_58 (by decide) ?_
  refine V_ireti dX6_detourOf_59 ?_
  exact ⟨rfl, rfl⟩
set_option maxRecDepth 4000 in
theorem m_X6_detour (G : GE) (h : Mem) (S : St) (i : Ok S) (a : RB S h) (x : Int32) : Ct idsB G yX6_detour cX6_detour 2 (some .int) (rmD 2) [.ref (ad G 100), .int x] h (Qi fun rv h' => rv = (O_detour S x).1 ∧ RB (O_detour S x).2 h') := by
  refine Ct.of [some (.ref (ad G 100)), some (.int x)] (by decide) (Nat.le_of_ble_eq_true rfl) (lvE_ok 0 rfl) ?_
  refine V_aload0 dX6_detour_0 ?_
  refine V_iconst (nI 0) dX6_detour_1 (by decide) ?_
  refine pX6_62 dX6_detour_2 ?_
  replace a := a.th (nI 0)
  generalize wr h 100 0 (nI 0) = g at a ⊢
  refine V_aload0 dX6_detour_5 ?_
  refine V_iload1 dX6_detour_6 ?_
  refine kX6_128 (m_X6_isLine _ _ S.2.1 i.1 a.2.1 _) (rOK_d (by decide) (by decide)) (Nat.le_of_ble_eq_true rfl) dX6_detour_7 (fun r7 h7 hq7 => ?_)
  obtain ⟨e_, rfl⟩ := hq7
  replace e_ := e_.symm
  subst e_
  first | refine V_if_ne_z 18 dX6_detour_10 (by decide) (fun c10 => ?_) (fun c10 => ?_) | refine V_if_ne_n 18 dX6_detour_10 (by decide) (by omega) (fun c10 => ?_) (fun c10 => ?_) | refine V_if_ne 18 dX6_detour_10 (by decide) (fun c10 => ?_) (fun c10 => ?_)
  · have hnl := i.1.nl
    have hg := c10
    obtain ⟨l, hl, rfl⟩ := (inR_iff (by omega)).mp c10
    have kl := cl_nI (show l < 2 ^ 31 by omega)
    have hlen := i.1.len (l := l)
    obtain ⟨w1, w2⟩ := a.2.1.2.2.2.2.2.1 l (by omega)
    refine V_aload0 dX6_detour_18 ?_
    refine gX6_32 dX6_detour_19 ?_
    refine V_iload1 dX6_detour_22 ?_
    refine V_iaload (by decide) aI_111 (by decide) rfl (by first | assumption | omega) dX6_detour_23 ?_
    rw [w1]
    first | refine V_if_ne_z 32 dX6_detour_24 (by decide) (fun c24 => ?_) (fun c24 => ?_) | refine V_if_ne_n 32 dX6_detour_24 (by decide) (by omega) (fun c24 => ?_) (fun c24 => ?_) | refine V_if_ne 32 dX6_detour_24 (by decide) (fun c24 => ?_) (fun c24 => ?_)
    · refine V_aload0 dX6_detour_32 ?_
      refine V_iload1 dX6_detour_33 ?_
      refine kX6_160 (m_X6_detourOf _ _ S.2.1 i.1 a.2.1 l hl) (rOK_d (by decide) (by decide)) (Nat.le_of_ble_eq_true rfl) dX6_detour_34 (fun r34 h34 hq34 => ?_)
      obtain ⟨e_, rfl⟩ := hq34
      replace e_ := e_.symm
      subst e_
      refine V_ireti dX6_detour_37 ?_
      first
      | (rw [O_detour, vDetour, ite_f c10]; exact ⟨rfl, a⟩)
      | (rw [O_detour, vDetour, ite_t hg, kl, ite_t (List.length_eq_zero_iff.mp c24)]; exact ⟨rfl, a⟩)
      | (rw [O_detour, vDetour, ite_t hg, kl, ite_f (fun z => c24 (by rw [z]; rfl))]; exact ⟨rfl, a⟩)
    · refine V_ldc ct_X6_100 dX6_detour_27 ?_
      refine V_goto 37 dX6_detour_29 (by decide) ?_
      refine V_ireti dX6_detour_37 ?_
      first
      | (rw [O_detour, vDetour, ite_f c10]; exact ⟨rfl, a⟩)
      | (rw [O_detour, vDetour, ite_t hg, kl, ite_t (List.length_eq_zero_iff.mp c24)]; exact ⟨rfl, a⟩)
      | (rw [O_detour, vDetour, ite_t hg, kl, ite_f (fun z => c24 (by rw [z]; rfl))]; exact ⟨rfl, a⟩)
  · refine V_ldc ct_X6_82 dX6_detour_13 ?_
    refine V_goto 37 dX6_detour_15 (by decide) ?_
    refine V_ireti dX6_detour_37 ?_
    first
    | (rw [O_detour, vDetour, ite_f c10]; exact ⟨rfl, a⟩)
    | (rw [O_detour, vDetour, ite_t hg, kl, ite_t (List.length_eq_zero_iff.mp c24)]; exact ⟨rfl, a⟩)
    | (rw [O_detour, vDetour, ite_t hg, kl, ite_f (fun z => c24 (by rw [z]; rfl))]; exact ⟨rfl, a⟩)
