theorem inR_out {x : Int32} {n : Nat} (hn : n < 2 ^ 31) (h : ¬ inR x n) : x.toInt < 0 ∨ (n : Int) ≤ x.toInt := by
  rcases Int.lt_or_le x.toInt 0 with z | z
  · exact Or.inl z
  · right
    rcases Int.lt_or_le x.toInt n with y | y
    · exfalso
      exact h ⟨by rw [fa_le, Int32.toInt_zero]; exact z, by rw [fa_lt, nI_toInt hn]; exact y⟩
    · exact y
noncomputable def vWay (N : Ng) (x i : Int32) : Int32 := ite' (inR x (nNl N) ∧ -1 ≤ i) (ite' (i = -1) (nI (nWy N (cl x)).length) (ite' (i < nI (nWy N (cl x)).length) (nI ((nWy N (cl x)).getD (cl i) 0)) (-1000000))) (-1000001)
noncomputable def vWidth (N : Ng) (x y d : Int32) : Int32 := ite' (inR x 10 ∧ inR y 10 ∧ inR d 4) (nI (popc (lfM (nMk N) (cl y * 10 + cl x) (cl d)))) (-1000001)
noncomputable def vDetour (N : Ng) (x : Int32) : Int32 := ite' (inR x (nNl N)) (ite' (nWy N (cl x) = []) (-1000002) (nI ((nWy N (cl x)).length * 100 / apart (nSt N (cl x)) (nGl N (cl x))))) (-1000001)
noncomputable def vShared (N : Ng) (x y : Int32) : Int32 := ite' (inR x (nNl N) ∧ inR y (nNl N)) (nI (fb_ct (fun s => nOn N (cl x) s && nOn N (cl y) s) 200)) (-1000001)
noncomputable def vKind (N : Ng) (x : Int32) : Int32 := ite' (inR x (nNl N)) (kdI (nWy N (cl x)).length (swo (nMk N) (cl x))) (-1000001)
noncomputable def vTrace (T : Nat × (Nat → Nat)) (x : Int32) : Int32 := ite' (inR x T.1) (nI (T.2 (cl x))) (-1000000)
def xSum (N : Ng) : Nat := fb_sm (fun p => popc (lfM (nMk N) p 0 &&& lfM (nMk N) p 2) * popc (lfM (nMk N) p 1 &&& lfM (nMk N) p 3)) 100
noncomputable def vAll (N : Ng) (x : Int32) : Int32 := ite' (x = nI 0) (nI (nCost N)) (ite' (x = nI 1) (nI (fb_ct (fun s => decide (¬ nMk N s = 0)) 200)) (ite' (x = nI 2) (nI (mxW (nMk N) 200)) (ite' (x = nI 3) (nI (fb_ct (forkB (nMk N)) 100)) (ite' (x = nI 4) (nI (xSum N)) (ite' (x = nI 5) (nI (fb_sm (fun l => (nWy N l).length) (nNl N))) (-1000001))))))
noncomputable def O_way (S : St) (x i : Int32) : Int32 × St := (vWay S.2.1 x i, S)
noncomputable def O_width (S : St) (x y d : Int32) : Int32 × St := (vWidth S.2.1 x y d, S)
noncomputable def O_detour (S : St) (x : Int32) : Int32 × St := (vDetour S.2.1 x, S)
noncomputable def O_shared (S : St) (x y : Int32) : Int32 × St := (vShared S.2.1 x y, S)
noncomputable def O_kind (S : St) (x : Int32) : Int32 × St := (vKind S.2.1 x, S)
noncomputable def O_trace (S : St) (x : Int32) : Int32 × St := (vTrace S.2.2.1 x, S)
noncomputable def O_all (S : St) (x : Int32) : Int32 × St := (vAll S.2.1 x, S)
def O_status (S : St) : Int32 × St := (nI S.2.2.2, S)
noncomputable def O_as (S : St) (x k : Int32) : Int32 × St := ite' (inR x (nNl S.2.1) ∧ 0 ≤ k ∧ k ≤ nI 3) (ite' (nWy S.2.1 (cl x) = []) (-1000002, S) (ite' (k = 0 ∨ k = kdI (nWy S.2.1 (cl x)).length (swo (nMk S.2.1) (cl x))) (nI (nWy S.2.1 (cl x)).length, (S.1, S.2.1, S.2.2.1, 0)) (fnd S 3))) (-1000001, S)
theorem Inv.apart {N : Ng} (i : Inv N) {l : Nat} (hl : l < nNl N) : 0 < apart (nSt N l) (nGl N l) := by
  have := i.ne hl
  show 0 < dst _ _ + dst _ _
  unfold dst
  omega
theorem len0 {w : List Nat} : ¬ 0 < w.length ↔ w = [] := by
  cases w <;> simp
theorem pow_or {a b : Nat} (ha : a < 12) (hb : b < 12) : 2 ^ a ||| 2 ^ b < 4096 := or_lt12 (pow12 ha) (pow12 hb)
theorem shared_eq {N : Ng} {a b : Nat} (ha : a < 12) (hb : b < 12) : fb_ct (fun s => decide (nMk N s &&& (2 ^ a ||| 2 ^ b) = (2 ^ a ||| 2 ^ b))) 200 = fb_ct (fun s => nOn N a s && nOn N b s) 200 := by
  apply fb_ct_cong
  intro s _
  have key : nMk N s &&& (2 ^ a ||| 2 ^ b) = (2 ^ a ||| 2 ^ b) ↔ nOn N a s = true ∧ nOn N b s = true := by
    constructor
    · intro h
      have h1 := congrArg (fun x => x.testBit a) h
      have h2 := congrArg (fun x => x.testBit b) h
      simp only [Nat.testBit_and, Nat.testBit_or, tb_pow, bit_mk ha, bit_mk hb, decide_true, Bool.true_or, Bool.or_true, Bool.and_true] at h1 h2
      exact ⟨h1, h2⟩
    · rintro ⟨h1, h2⟩
      apply ext12 (and_lt12 (mk_lt N s)) (pow_or ha hb)
      intro i hi
      rw [Nat.testBit_and, Nat.testBit_or, tb_pow, tb_pow, bit_mk hi]
      by_cases ea : i = a
      · subst ea; simp [h1]
      · by_cases eb : i = b
        · subst eb; simp [h2]
        · simp [ea, eb]
  rw [Bool.eq_iff_iff]
  simp [key]
set_option maxRecDepth 4000 in
theorem m_X5_way (G : GE) (h : Mem) (S : St) (i : Ok S) (a : RA S h) (x j : Int32) : Ct idsA G yX5_way cX5_way 4 (some .int) (rmD 1) [.ref (ad G 0), .int x, .int j] h (Qi fun rv h' => rv = (O_way S x j).1 ∧ RA (O_way S x j).2 h') := by
  refine Ct.of [some (.ref (ad G 0)), some (.int x), some (.int j), none] (by decide) (Nat.le_of_ble_eq_true rfl) (lvE_ok 1 rfl) ?_
  refine V_aload0 dX5_way_0 ?_
  refine V_iload1 dX5_way_1 ?_
  refine kX5_141 (m_X5_isLine _ _ S.2.1 i.1 a.2.1 _) (rOK_d (by decide) (by decide)) (Nat.le_of_ble_eq_true rfl) dX5_way_2 (fun r2 h2 hq2 => ?_)
  obtain ⟨e_, rfl⟩ := hq2
  replace e_ := e_.symm
  subst e_
  first | refine V_if_eq_z 13 dX5_way_5 (by decide) (fun c5 => ?_) (fun c5 => ?_) | refine V_if_eq_n 13 dX5_way_5 (by decide) (by omega) (fun c5 => ?_) (fun c5 => ?_) | refine V_if_eq 13 dX5_way_5 (by decide) (fun c5 => ?_) (fun c5 => ?_)
  · refine V_ldc ct_X5_57 dX5_way_13 ?_
    refine V_ireti dX5_way_15 ?_
    first | rw [O_way, vWay, ite_f (show ¬ (inR x (nNl S.2.1) ∧ -1 ≤ j) from fun z => c5 z.1)] | rw [O_way, vWay, ite_f (show ¬ (inR (nI l) (nNl S.2.1) ∧ -1 ≤ j) from fun z => c10 z.2)]
    exact ⟨rfl, a⟩
  · obtain ⟨l, hl, rfl⟩ := (inR_iff (by have := i.1.nl; omega)).mp c5
    have hnl := i.1.nl
    have kl := cl_nI (show l < 2 ^ 31 by omega)
    have hlen := i.1.len (l := l)
    refine V_iload2 dX5_way_8 ?_
    refine V_iconst (-1) dX5_way_9 (by decide) ?_
    first | refine V_icmp_ge_n 16 dX5_way_10 (by decide) (by omega) (by omega) (fun c10 => ?_) (fun c10 => ?_) | refine V_icmp_ge 16 dX5_way_10 (by decide) (fun c10 => ?_) (fun c10 => ?_)
    · refine V_aload0 dX5_way_16 ?_
      refine gX5_21 dX5_way_17 ?_
      refine V_iload1 dX5_way_20 ?_
      refine V_aaloadL (by decide) rfl (by first | assumption | omega) dX5_way_21 ?_
      refine V_astore3 dX5_way_22 (by decide) rfl ?_
      refine V_iload2 dX5_way_23 ?_
      refine V_iconst (-1) dX5_way_24 (by decide) ?_
      first | refine V_icmp_ne_n 33 dX5_way_25 (by decide) (by omega) (by omega) (fun c25 => ?_) (fun c25 => ?_) | refine V_icmp_ne 33 dX5_way_25 (by decide) (fun c25 => ?_) (fun c25 => ?_)
      · refine V_iload2 dX5_way_33 ?_
        refine V_aload3 dX5_way_34 ?_
        refine gX5_177 (by first | assumption | omega) dX5_way_35 ?_
        rw [RAn.len i.1 a.2.1 (show l < 12 by omega)]
        first | refine V_icmp_ge_n 50 dX5_way_38 (by decide) (by omega) (by omega) (fun c38 => ?_) (fun c38 => ?_) | refine V_icmp_ge 50 dX5_way_38 (by decide) (fun c38 => ?_) (fun c38 => ?_)
        · refine V_ldc ct_X5_113 dX5_way_50 ?_
          refine V_ireti dX5_way_52 ?_
          first | (rw [O_way, vWay, ite_t ⟨c5, c10⟩, ite_f c25, kl, ite_f (i_le_n c38)]; exact ⟨rfl, a⟩) | (rw [O_way, vWay, ite_t ⟨c5, c10⟩, ite_f c25, kl, ite_t (i_nle c38), kj]; exact ⟨rfl, a⟩)
        · obtain ⟨j', hj', rfl⟩ : ∃ j', j' < (nWy S.2.1 l).length ∧ j = nI j' := by
            rcases pk_ix j (show (nWy S.2.1 l).length < 2 ^ 31 by omega) with z | z | z
            · exfalso
              rw [fa_lt, Int32.toInt_zero] at z
              rw [fa_le] at c10
              have e1 : (-1 : Int32).toInt = -1 := by decide
              exact c25 (by rw [fa_eq]; omega)
            · exact absurd z c38
            · exact z
          have kj := cl_nI (show j' < 2 ^ 31 by omega)
          refine V_aload3 dX5_way_41 ?_
          refine gX5_178 (by first | assumption | omega) dX5_way_42 ?_
          refine V_iload2 dX5_way_45 ?_
          refine V_iaload (mem_steps (by first | assumption | omega)) (aI_steps (by first | assumption | omega)) (by decide) rfl (show j' < 100 by omega) dX5_way_46 ?_
          rw [(a.2.1.L hl).2.2.2.2 j' hj']
          refine V_goto 52 dX5_way_47 (by decide) ?_
          refine V_ireti dX5_way_52 ?_
          first | (rw [O_way, vWay, ite_t ⟨c5, c10⟩, ite_f c25, kl, ite_f (i_le_n c38)]; exact ⟨rfl, a⟩) | (rw [O_way, vWay, ite_t ⟨c5, c10⟩, ite_f c25, kl, ite_t (i_nle c38), kj]; exact ⟨rfl, a⟩)
      · refine V_aload3 dX5_way_28 ?_
        refine gX5_177 (by first | assumption | omega) dX5_way_29 ?_
        rw [RAn.len i.1 a.2.1 (show l < 12 by omega)]
        refine V_ireti dX5_way_32 ?_
        rw [O_way, vWay, ite_t ⟨c5, c10⟩, ite_t c25, kl]
        exact ⟨rfl, a⟩
    · refine V_ldc ct_X5_57 dX5_way_13 ?_
      refine V_ireti dX5_way_15 ?_
      first | rw [O_way, vWay, ite_f (show ¬ (inR x (nNl S.2.1) ∧ -1 ≤ j) from fun z => c5 z.1)] | rw [O_way, vWay, ite_f (show ¬ (inR (nI l) (nNl S.2.1) ∧ -1 ≤ j) from fun z => c10 z.2)]
      exact ⟨rfl, a⟩
set_option maxRecDepth 4000 in
theorem m_X5_width (G : GE) (h : Mem) (S : St) (i : Ok S) (a : RA S h) (x y d : Int32) : Ct idsA G yX5_width cX5_width 4 (some .int) (rmD 4) [.ref (ad G 0), .int x, .int y, .int d] h (Qi fun rv h' => rv = (O_width S x y d).1 ∧ RA (O_width S x y d).2 h') := by
  refine Ct.of [some (.ref (ad G 0)), some (.int x), some (.int y), some (.int d)] (by decide) (Nat.le_of_ble_eq_true rfl) (lvE_ok 0 rfl) ?_
  refine V_iload1 dX5_width_0 ?_
  refine V_iload2 dX5_width_1 ?_
  refine kX5_100 (m_X5_isPlace _ _ _ _) (rOK_d (by decide) (by decide)) (Nat.le_of_ble_eq_true rfl) dX5_width_2 (fun r2 h2 hq2 => ?_)
  obtain ⟨e_, rfl⟩ := hq2
  replace e_ := e_.symm
  subst e_
  first | refine V_if_eq_z 15 dX5_width_5 (by decide) (fun c5 => ?_) (fun c5 => ?_) | refine V_if_eq_n 15 dX5_width_5 (by decide) (by omega) (fun c5 => ?_) (fun c5 => ?_) | refine V_if_eq 15 dX5_width_5 (by decide) (fun c5 => ?_) (fun c5 => ?_)
  · refine V_ldc ct_X5_57 dX5_width_15 ?_
    refine V_ireti dX5_width_17 ?_
    rw [O_width, vWidth, ite_f (show ¬ (inR x 10 ∧ inR y 10 ∧ inR d 4) from fun z => by first | exact c5 ⟨z.1, z.2.1⟩ | exact c12 z.2.2)]
    exact ⟨rfl, a⟩
  · refine V_iload3 dX5_width_8 ?_
    refine kX5_179 (m_X5_isDirection _ _ _) (rOK_d (by decide) (by decide)) (Nat.le_of_ble_eq_true rfl) dX5_width_9 (fun r9 h9 hq9 => ?_)
    obtain ⟨e_, rfl⟩ := hq9
    replace e_ := e_.symm
    subst e_
    first | refine V_if_ne_z 18 dX5_width_12 (by decide) (fun c12 => ?_) (fun c12 => ?_) | refine V_if_ne_n 18 dX5_width_12 (by decide) (by omega) (fun c12 => ?_) (fun c12 => ?_) | refine V_if_ne 18 dX5_width_12 (by decide) (fun c12 => ?_) (fun c12 => ?_)
    · have hg : inR x 10 ∧ inR y 10 ∧ inR d 4 := ⟨c5.1, c5.2, c12⟩
      obtain ⟨x', hx', rfl⟩ := (inR_iff (by decide)).mp c5.1
      obtain ⟨y', hy', rfl⟩ := (inR_iff (by decide)).mp c5.2
      obtain ⟨d', hd', rfl⟩ := (inR_iff (by decide)).mp c12
      refine V_aload0 dX5_width_18 ?_
      refine gX5_28 dX5_width_19 ?_
      refine V_iload1 dX5_width_22 ?_
      refine V_iload2 dX5_width_23 ?_
      refine kX5_103 (m_X5_placeAt _ _ _ _) (rOK_d (by decide) (by decide)) (Nat.le_of_ble_eq_true rfl) dX5_width_24 (fun r24 h24 hq24 => ?_)
      obtain ⟨e_, rfl⟩ := hq24
      replace e_ := e_.symm
      subst e_
      refine V_iload3 dX5_width_27 ?_
      refine kX5_182 (m_X2_widthFrom _ _ (nMk S.2.1) a.2.1.M _ _ (by omega) hd') (rOK_d (by decide) (by decide)) (Nat.le_of_ble_eq_true rfl) dX5_width_28 (fun r28 h28 hq28 => ?_)
      obtain ⟨e_, rfl⟩ := hq28
      replace e_ := e_.symm
      subst e_
      refine V_ireti dX5_width_31 ?_
      rw [O_width, vWidth, ite_t hg, cl_nI (show x' < 2 ^ 31 by omega), cl_nI (show y' < 2 ^ 31 by omega), cl_nI (show d' < 2 ^ 31 by omega)]
      exact ⟨rfl, a⟩
    · refine V_ldc ct_X5_57 dX5_width_15 ?_
      refine V_ireti dX5_width_17 ?_
      rw [O_width, vWidth, ite_f (show ¬ (inR x 10 ∧ inR y 10 ∧ inR d 4) from fun z => by first | exact c5 ⟨z.1, z.2.1⟩ | exact c12 z.2.2)]
      exact ⟨rfl, a⟩
set_option maxRecDepth 4000 in
theorem m_X5_detour (G : GE) (h : Mem) (S : St) (i : Ok S) (a : RA S h) (x : Int32) : Ct idsA G yX5_detour cX5_detour 2 (some .int) (rmD 2) [.ref (ad G 0), .int x] h (Qi fun rv h' => rv = (O_detour S x).1 ∧ RA (O_detour S x).2 h') := by
  refine Ct.of [some (.ref (ad G 0)), some (.int x)] (by decide) (Nat.le_of_ble_eq_true rfl) (lvE_ok 0 rfl) ?_
  refine V_aload0 dX5_detour_0 ?_
  refine V_iload1 dX5_detour_1 ?_
  refine kX5_141 (m_X5_isLine _ _ S.2.1 i.1 a.2.1 _) (rOK_d (by decide) (by decide)) (Nat.le_of_ble_eq_true rfl) dX5_detour_2 (fun r2 h2 hq2 => ?_)
  obtain ⟨e_, rfl⟩ := hq2
  replace e_ := e_.symm
  subst e_
  first | refine V_if_ne_z 11 dX5_detour_5 (by decide) (fun c5 => ?_) (fun c5 => ?_) | refine V_if_ne_n 11 dX5_detour_5 (by decide) (by omega) (fun c5 => ?_) (fun c5 => ?_) | refine V_if_ne 11 dX5_detour_5 (by decide) (fun c5 => ?_) (fun c5 => ?_)
  · obtain ⟨l, hl, rfl⟩ := (inR_iff (by have := i.1.nl; omega)).mp c5
    have hnl := i.1.nl
    have kl := cl_nI (show l < 2 ^ 31 by omega)
    have hlen := i.1.len (l := l)
    refine V_aload0 dX5_detour_11 ?_
    refine gX5_21 dX5_detour_12 ?_
    refine V_iload1 dX5_detour_15 ?_
    refine V_aaloadL (by decide) rfl (by first | assumption | omega) dX5_detour_16 ?_
    refine kX5_169 (by first | assumption | omega) (m_X1_hasWay _ _ l (nWy S.2.1 l).length (by omega) (RAn.len i.1 a.2.1 (by omega)) (by omega)) (rOK_d (by decide) (by decide)) (Nat.le_of_ble_eq_true rfl) dX5_detour_17 (fun r17 h17 hq17 => ?_)
    obtain ⟨e_, rfl⟩ := hq17
    replace e_ := e_.symm
    subst e_
    first | refine V_if_eq_z 35 dX5_detour_20 (by decide) (fun c20 => ?_) (fun c20 => ?_) | refine V_if_eq_n 35 dX5_detour_20 (by decide) (by omega) (fun c20 => ?_) (fun c20 => ?_) | refine V_if_eq 35 dX5_detour_20 (by decide) (fun c20 => ?_) (fun c20 => ?_)
    · refine V_ldc ct_X5_114 dX5_detour_35 ?_
      refine V_ireti dX5_detour_37 ?_
      first | (rw [O_detour, vDetour, ite_t c5, kl, ite_t (len0.mp c20)]; exact ⟨rfl, a⟩) | (rw [O_detour, vDetour, ite_t c5, kl, ite_f (fun z => len0.mpr z c20)]; exact ⟨rfl, a⟩)
    · refine V_aload0 dX5_detour_23 ?_
      refine gX5_21 dX5_detour_24 ?_
      refine V_iload1 dX5_detour_27 ?_
      refine V_aaloadL (by decide) rfl (by first | assumption | omega) dX5_detour_28 ?_
      refine kX5_203 (by first | assumption | omega) (m_X1_detourOfWay _ _ l (nSt S.2.1 l) (nGl S.2.1 l) (nWy S.2.1 l) (by omega) (a.2.1.L hl) (i.1.st hl) (i.1.gl hl) (by omega)) (rOK_d (by decide) (by decide)) (Nat.le_of_ble_eq_true rfl) dX5_detour_29 (fun r29 h29 hq29 => ?_)
      obtain ⟨e_, rfl⟩ := hq29
      replace e_ := e_.symm
      subst e_
      rw [if_pos (i.1.apart hl)]
      refine V_goto 37 dX5_detour_32 (by decide) ?_
      refine V_ireti dX5_detour_37 ?_
      first | (rw [O_detour, vDetour, ite_t c5, kl, ite_t (len0.mp c20)]; exact ⟨rfl, a⟩) | (rw [O_detour, vDetour, ite_t c5, kl, ite_f (fun z => len0.mpr z c20)]; exact ⟨rfl, a⟩)
  · refine V_ldc ct_X5_57 dX5_detour_8 ?_
    refine V_ireti dX5_detour_10 ?_
    rw [O_detour, vDetour, ite_f c5]
    exact ⟨rfl, a⟩
set_option maxRecDepth 4000 in
theorem m_X5_shared (G : GE) (h : Mem) (S : St) (i : Ok S) (a : RA S h) (x y : Int32) : Ct idsA G yX5_shared cX5_shared 3 (some .int) (rmD 2) [.ref (ad G 0), .int x, .int y] h (Qi fun rv h' => rv = (O_shared S x y).1 ∧ RA (O_shared S x y).2 h') := by
  refine Ct.of [some (.ref (ad G 0)), some (.int x), some (.int y)] (by decide) (Nat.le_of_ble_eq_true rfl) (lvE_ok 0 rfl) ?_
  refine V_aload0 dX5_shared_0 ?_
  refine V_iload1 dX5_shared_1 ?_
  refine kX5_141 (m_X5_isLine _ _ S.2.1 i.1 a.2.1 _) (rOK_d (by decide) (by decide)) (Nat.le_of_ble_eq_true rfl) dX5_shared_2 (fun r2 h2 hq2 => ?_)
  obtain ⟨e_, rfl⟩ := hq2
  replace e_ := e_.symm
  subst e_
  first | refine V_if_eq_z 16 dX5_shared_5 (by decide) (fun c5 => ?_) (fun c5 => ?_) | refine V_if_eq_n 16 dX5_shared_5 (by decide) (by omega) (fun c5 => ?_) (fun c5 => ?_) | refine V_if_eq 16 dX5_shared_5 (by decide) (fun c5 => ?_) (fun c5 => ?_)
  · refine V_ldc ct_X5_57 dX5_shared_16 ?_
    refine V_ireti dX5_shared_18 ?_
    rw [O_shared, vShared, ite_f (show ¬ (inR x (nNl S.2.1) ∧ inR y (nNl S.2.1)) from fun z => by first | exact c5 z.1 | exact c13 z.2)]
    exact ⟨rfl, a⟩
  · refine V_aload0 dX5_shared_8 ?_
    refine V_iload2 dX5_shared_9 ?_
    refine kX5_141 (m_X5_isLine _ _ S.2.1 i.1 a.2.1 _) (rOK_d (by decide) (by decide)) (Nat.le_of_ble_eq_true rfl) dX5_shared_10 (fun r10 h10 hq10 => ?_)
    obtain ⟨e_, rfl⟩ := hq10
    replace e_ := e_.symm
    subst e_
    first | refine V_if_ne_z 19 dX5_shared_13 (by decide) (fun c13 => ?_) (fun c13 => ?_) | refine V_if_ne_n 19 dX5_shared_13 (by decide) (by omega) (fun c13 => ?_) (fun c13 => ?_) | refine V_if_ne 19 dX5_shared_13 (by decide) (fun c13 => ?_) (fun c13 => ?_)
    · have hg : inR x (nNl S.2.1) ∧ inR y (nNl S.2.1) := ⟨c5, c13⟩
      have hnl := i.1.nl
      obtain ⟨l, hl, rfl⟩ := (inR_iff (by omega)).mp c5
      obtain ⟨m, hm, rfl⟩ := (inR_iff (by omega)).mp c13
      refine V_aload0 dX5_shared_19 ?_
      refine gX5_28 dX5_shared_20 ?_
      refine V_aload0 dX5_shared_23 ?_
      refine gX5_21 dX5_shared_24 ?_
      refine V_iload1 dX5_shared_27 ?_
      refine V_aaloadL (by decide) rfl (by first | assumption | omega) dX5_shared_28 ?_
      refine gX5_206 (by first | assumption | omega) dX5_shared_29 ?_
      rw [RAn.bit a.2.1 (show l < 12 by omega)]
      refine V_aload0 dX5_shared_32 ?_
      refine gX5_21 dX5_shared_33 ?_
      refine V_iload2 dX5_shared_36 ?_
      refine V_aaloadL (by decide) rfl (by first | assumption | omega) dX5_shared_37 ?_
      refine gX5_206 (by first | assumption | omega) dX5_shared_38 ?_
      rw [RAn.bit a.2.1 (show m < 12 by omega)]
      first | refine V_ior_n dX5_shared_41 ?_ | refine V_ior dX5_shared_41 ?_
      refine kX5_209 (m_X2_sidesWithAll _ _ (nMk S.2.1) a.2.1.M _ (pow_or (by omega) (by omega))) (rOK_d (by decide) (by decide)) (Nat.le_of_ble_eq_true rfl) dX5_shared_42 (fun r42 h42 hq42 => ?_)
      obtain ⟨e_, rfl⟩ := hq42
      replace e_ := e_.symm
      subst e_
      refine V_ireti dX5_shared_45 ?_
      rw [O_shared, vShared, ite_t hg, cl_nI (show l < 2 ^ 31 by omega), cl_nI (show m < 2 ^ 31 by omega), shared_eq (by omega) (by omega)]
      exact ⟨rfl, a⟩
    · refine V_ldc ct_X5_57 dX5_shared_16 ?_
      refine V_ireti dX5_shared_18 ?_
      rw [O_shared, vShared, ite_f (show ¬ (inR x (nNl S.2.1) ∧ inR y (nNl S.2.1)) from fun z => by first | exact c5 z.1 | exact c13 z.2)]
      exact ⟨rfl, a⟩
set_option maxRecDepth 4000 in
theorem m_X5_kind (G : GE) (h : Mem) (S : St) (i : Ok S) (a : RA S h) (x : Int32) : Ct idsA G yX5_kind cX5_kind 2 (some .int) (rmD 3) [.ref (ad G 0), .int x] h (Qi fun rv h' => rv = (O_kind S x).1 ∧ RA (O_kind S x).2 h') := by
  refine Ct.of [some (.ref (ad G 0)), some (.int x)] (by decide) (Nat.le_of_ble_eq_true rfl) (lvE_ok 0 rfl) ?_
  refine V_aload0 dX5_kind_0 ?_
  refine V_iload1 dX5_kind_1 ?_
  refine kX5_141 (m_X5_isLine _ _ S.2.1 i.1 a.2.1 _) (rOK_d (by decide) (by decide)) (Nat.le_of_ble_eq_true rfl) dX5_kind_2 (fun r2 h2 hq2 => ?_)
  obtain ⟨e_, rfl⟩ := hq2
  replace e_ := e_.symm
  subst e_
  first | refine V_if_eq_z 24 dX5_kind_5 (by decide) (fun c5 => ?_) (fun c5 => ?_) | refine V_if_eq_n 24 dX5_kind_5 (by decide) (by omega) (fun c5 => ?_) (fun c5 => ?_) | refine V_if_eq 24 dX5_kind_5 (by decide) (fun c5 => ?_) (fun c5 => ?_)
  · refine V_ldc ct_X5_57 dX5_kind_24 ?_
    refine V_ireti dX5_kind_26 ?_
    first | (rw [O_kind, vKind, ite_f c5]; exact ⟨rfl, a⟩) | (rw [O_kind, vKind, ite_t c5, kl]; exact ⟨rfl, a⟩)
  · obtain ⟨l, hl, rfl⟩ := (inR_iff (by have := i.1.nl; omega)).mp c5
    have hnl := i.1.nl
    have kl := cl_nI (show l < 2 ^ 31 by omega)
    have hlen := i.1.len (l := l)
    refine V_aload0 dX5_kind_8 ?_
    refine gX5_28 dX5_kind_9 ?_
    refine V_aload0 dX5_kind_12 ?_
    refine gX5_21 dX5_kind_13 ?_
    refine V_iload1 dX5_kind_16 ?_
    refine V_aaloadL (by decide) rfl (by first | assumption | omega) dX5_kind_17 ?_
    refine kX5_234 (m_X2_kindOf _ _ (nMk S.2.1) a.2.1.M l (by omega) (RAn.bit a.2.1 (by omega)) (nWy S.2.1 l).length (RAn.len i.1 a.2.1 (by omega)) (by omega)) (rOK_d (by decide) (by decide)) (Nat.le_of_ble_eq_true rfl) dX5_kind_18 (fun r18 h18 hq18 => ?_)
    obtain ⟨e_, rfl⟩ := hq18
    replace e_ := e_.symm
    subst e_
    refine V_goto 26 dX5_kind_21 (by decide) ?_
    refine V_ireti dX5_kind_26 ?_
    first | (rw [O_kind, vKind, ite_f c5]; exact ⟨rfl, a⟩) | (rw [O_kind, vKind, ite_t c5, kl]; exact ⟨rfl, a⟩)
set_option maxRecDepth 4000 in
theorem m_X5_as (G : GE) (h : Mem) (S : St) (i : Ok S) (a : RA S h) (x k : Int32) : Ct idsA G yX5_as cX5_as 4 (some .int) (rmD 3) [.ref (ad G 0), .int x, .int k] h (Qi fun rv h' => rv = (O_as S x k).1 ∧ RA (O_as S x k).2 h') := by
  refine Ct.of [some (.ref (ad G 0)), some (.int x), some (.int k), none] (by decide) (Nat.le_of_ble_eq_true rfl) (lvE_ok 1 rfl) ?_
  refine V_aload0 dX5_as_0 ?_
  refine V_iload1 dX5_as_1 ?_
  refine kX5_141 (m_X5_isLine _ _ S.2.1 i.1 a.2.1 _) (rOK_d (by decide) (by decide)) (Nat.le_of_ble_eq_true rfl) dX5_as_2 (fun r2 h2 hq2 => ?_)
  obtain ⟨e_, rfl⟩ := hq2
  replace e_ := e_.symm
  subst e_
  first | refine V_if_eq_z 17 dX5_as_5 (by decide) (fun c5 => ?_) (fun c5 => ?_) | refine V_if_eq_n 17 dX5_as_5 (by decide) (by omega) (fun c5 => ?_) (fun c5 => ?_) | refine V_if_eq 17 dX5_as_5 (by decide) (fun c5 => ?_) (fun c5 => ?_)
  · refine V_ldc ct_X5_57 dX5_as_17 ?_
    refine V_ireti dX5_as_19 ?_
    rw [O_as, ite_f (show ¬ (inR x (nNl S.2.1) ∧ 0 ≤ k ∧ k ≤ nI 3) from fun z => by first | exact c5 z.1 | exact i_lt_n c9 z.2.1 | exact c14 z.2.2)]
    exact ⟨rfl, a⟩
  · refine V_iload2 dX5_as_8 ?_
    first | refine V_if_lt_n 17 dX5_as_9 (by decide) (by omega) (fun c9 => ?_) (fun c9 => ?_) | refine V_if_lt 17 dX5_as_9 (by decide) (fun c9 => ?_) (fun c9 => ?_)
    · refine V_ldc ct_X5_57 dX5_as_17 ?_
      refine V_ireti dX5_as_19 ?_
      rw [O_as, ite_f (show ¬ (inR x (nNl S.2.1) ∧ 0 ≤ k ∧ k ≤ nI 3) from fun z => by first | exact c5 z.1 | exact i_lt_n c9 z.2.1 | exact c14 z.2.2)]
      exact ⟨rfl, a⟩
    · refine V_iload2 dX5_as_12 ?_
      refine V_iconst (nI 3) dX5_as_13 (by decide) ?_
      first | refine V_icmp_le_n 20 dX5_as_14 (by decide) (by omega) (by omega) (fun c14 => ?_) (fun c14 => ?_) | refine V_icmp_le 20 dX5_as_14 (by decide) (fun c14 => ?_) (fun c14 => ?_)
      · have hg : inR x (nNl S.2.1) ∧ 0 ≤ k ∧ k ≤ nI 3 := ⟨c5, i_nlt c9, c14⟩
        obtain ⟨l, hl, rfl⟩ := (inR_iff (by have := i.1.nl; omega)).mp c5
        have hnl := i.1.nl
        have kl := cl_nI (show l < 2 ^ 31 by omega)
        have hlen := i.1.len (l := l)
        refine V_aload0 dX5_as_20 ?_
        refine gX5_21 dX5_as_21 ?_
        refine V_iload1 dX5_as_24 ?_
        refine V_aaloadL (by decide) rfl (by first | assumption | omega) dX5_as_25 ?_
        refine V_astore3 dX5_as_26 (by decide) rfl ?_
        refine V_aload3 dX5_as_27 ?_
        refine kX5_169 (by first | assumption | omega) (m_X1_hasWay _ _ l (nWy S.2.1 l).length (by omega) (RAn.len i.1 a.2.1 (by omega)) (by omega)) (rOK_d (by decide) (by decide)) (Nat.le_of_ble_eq_true rfl) dX5_as_28 (fun r28 h28 hq28 => ?_)
        obtain ⟨e_, rfl⟩ := hq28
        replace e_ := e_.symm
        subst e_
        first | refine V_if_ne_z 37 dX5_as_31 (by decide) (fun c31 => ?_) (fun c31 => ?_) | refine V_if_ne_n 37 dX5_as_31 (by decide) (by omega) (fun c31 => ?_) (fun c31 => ?_) | refine V_if_ne 37 dX5_as_31 (by decide) (fun c31 => ?_) (fun c31 => ?_)
        · refine V_iload2 dX5_as_37 ?_
          first | refine V_if_eq_z 59 dX5_as_38 (by decide) (fun c38 => ?_) (fun c38 => ?_) | refine V_if_eq_n 59 dX5_as_38 (by decide) (by omega) (fun c38 => ?_) (fun c38 => ?_) | refine V_if_eq 59 dX5_as_38 (by decide) (fun c38 => ?_) (fun c38 => ?_)
          · refine V_aload0 dX5_as_59 ?_
            refine V_aload3 dX5_as_60 ?_
            refine gX5_177 (by first | assumption | omega) dX5_as_61 ?_
            rw [RAn.len i.1 a.2.1 (show l < 12 by omega)]
            refine kX5_66 (m_X5_unfound _ _ _) (rOK_d (by decide) (by decide)) (Nat.le_of_ble_eq_true rfl) dX5_as_64 (fun r64 h64 hq64 => ?_)
            obtain ⟨e_, rfl⟩ := hq64
            replace e_ := e_.symm
            subst e_
            refine V_ireti dX5_as_67 ?_
            rw [O_as, ite_t hg, kl, ite_f (fun z => len0.mpr z c31), ite_t (by first | exact Or.inl c38 | exact Or.inr c50)]
            exact ⟨rfl, RA_fin 0 a.1 a.2.1 a.2.2.1⟩
          · refine V_iload2 dX5_as_41 ?_
            refine V_aload0 dX5_as_42 ?_
            refine gX5_28 dX5_as_43 ?_
            refine V_aload3 dX5_as_46 ?_
            refine kX5_234 (m_X2_kindOf _ _ (nMk S.2.1) a.2.1.M l (by omega) (RAn.bit a.2.1 (by omega)) (nWy S.2.1 l).length (RAn.len i.1 a.2.1 (by omega)) (by omega)) (rOK_d (by decide) (by decide)) (Nat.le_of_ble_eq_true rfl) dX5_as_47 (fun r47 h47 hq47 => ?_)
            obtain ⟨e_, rfl⟩ := hq47
            replace e_ := e_.symm
            subst e_
            first | refine V_icmp_eq_n 59 dX5_as_50 (by decide) (by omega) (by omega) (fun c50 => ?_) (fun c50 => ?_) | refine V_icmp_eq 59 dX5_as_50 (by decide) (fun c50 => ?_) (fun c50 => ?_)
            · refine V_aload0 dX5_as_59 ?_
              refine V_aload3 dX5_as_60 ?_
              refine gX5_177 (by first | assumption | omega) dX5_as_61 ?_
              rw [RAn.len i.1 a.2.1 (show l < 12 by omega)]
              refine kX5_66 (m_X5_unfound _ _ _) (rOK_d (by decide) (by decide)) (Nat.le_of_ble_eq_true rfl) dX5_as_64 (fun r64 h64 hq64 => ?_)
              obtain ⟨e_, rfl⟩ := hq64
              replace e_ := e_.symm
              subst e_
              refine V_ireti dX5_as_67 ?_
              rw [O_as, ite_t hg, kl, ite_f (fun z => len0.mpr z c31), ite_t (by first | exact Or.inl c38 | exact Or.inr c50)]
              exact ⟨rfl, RA_fin 0 a.1 a.2.1 a.2.2.1⟩
            · refine V_aload0 dX5_as_53 ?_
              refine V_iconst (nI 3) dX5_as_54 (by decide) ?_
              refine kX5_58 (m_X5_found _ _ _) (rOK_d (by decide) (by decide)) (Nat.le_of_ble_eq_true rfl) dX5_as_55 (fun r55 h55 hq55 => ?_)
              obtain ⟨e_, rfl⟩ := hq55
              replace e_ := e_.symm
              subst e_
              refine V_ireti dX5_as_58 ?_
              rw [O_as, ite_t hg, kl, ite_f (fun z => len0.mpr z c31), ite_f (fun z => z.elim c38 c50)]
              exact ⟨rfl, RA_fnd a 3⟩
        · refine V_ldc ct_X5_114 dX5_as_34 ?_
          refine V_ireti dX5_as_36 ?_
          rw [O_as, ite_t hg, kl, ite_t (len0.mp c31)]
          exact ⟨rfl, a⟩
      · refine V_ldc ct_X5_57 dX5_as_17 ?_
        refine V_ireti dX5_as_19 ?_
        rw [O_as, ite_f (show ¬ (inR x (nNl S.2.1) ∧ 0 ≤ k ∧ k ≤ nI 3) from fun z => by first | exact c5 z.1 | exact i_lt_n c9 z.2.1 | exact c14 z.2.2)]
        exact ⟨rfl, a⟩
set_option maxRecDepth 4000 in
theorem m_X5_trace (G : GE) (h : Mem) (S : St) (i : Ok S) (a : RA S h) (x : Int32) : Ct idsA G yX5_trace cX5_trace 2 (some .int) (rmD 0) [.ref (ad G 0), .int x] h (Qi fun rv h' => rv = (O_trace S x).1 ∧ RA (O_trace S x).2 h') := by
  refine Ct.of [some (.ref (ad G 0)), some (.int x)] (by decide) (Nat.le_of_ble_eq_true rfl) (lvE_ok 0 rfl) ?_
  refine V_iload1 dX5_trace_0 ?_
  first | refine V_if_lt_n 21 dX5_trace_1 (by decide) (by omega) (fun c1 => ?_) (fun c1 => ?_) | refine V_if_lt 21 dX5_trace_1 (by decide) (fun c1 => ?_) (fun c1 => ?_)
  · refine V_ldc ct_X5_113 dX5_trace_21 ?_
    refine V_ireti dX5_trace_23 ?_
    first | (rw [O_trace, vTrace, ite_t (inR_nI hj (by omega)), kj]; exact ⟨rfl, a⟩) | (rw [O_trace, vTrace, ite_f (show ¬ inR x S.2.2.1.1 from fun z => by first | exact i_lt_n z.2 c9 | exact i_lt_n c1 z.1)]; exact ⟨rfl, a⟩)
  · refine V_iload1 dX5_trace_4 ?_
    refine V_aload0 dX5_trace_5 ?_
    refine gX5_238 dX5_trace_6 ?_
    rw [a.2.2.1.2.1]
    first | refine V_icmp_ge_n 21 dX5_trace_9 (by decide) (by omega) (by omega) (fun c9 => ?_) (fun c9 => ?_) | refine V_icmp_ge 21 dX5_trace_9 (by decide) (fun c9 => ?_) (fun c9 => ?_)
    · refine V_ldc ct_X5_113 dX5_trace_21 ?_
      refine V_ireti dX5_trace_23 ?_
      first | (rw [O_trace, vTrace, ite_t (inR_nI hj (by omega)), kj]; exact ⟨rfl, a⟩) | (rw [O_trace, vTrace, ite_f (show ¬ inR x S.2.2.1.1 from fun z => by first | exact i_lt_n z.2 c9 | exact i_lt_n c1 z.1)]; exact ⟨rfl, a⟩)
    · have ht := a.2.2.1.1
      obtain ⟨j, hj, rfl⟩ := (inR_iff (show S.2.2.1.1 < 2 ^ 31 by omega)).mp ⟨i_nlt c1, i_nle c9⟩
      have kj := cl_nI (show j < 2 ^ 31 by omega)
      refine V_aload0 dX5_trace_12 ?_
      refine gX5_46 dX5_trace_13 ?_
      refine V_iload1 dX5_trace_16 ?_
      refine V_iaload (by decide) aI_7 (by decide) rfl (by first | assumption | omega) dX5_trace_17 ?_
      rw [a.2.2.1.2.2 j hj]
      refine V_goto 23 dX5_trace_18 (by decide) ?_
      refine V_ireti dX5_trace_23 ?_
      first | (rw [O_trace, vTrace, ite_t (inR_nI hj (by omega)), kj]; exact ⟨rfl, a⟩) | (rw [O_trace, vTrace, ite_f (show ¬ inR x S.2.2.1.1 from fun z => by first | exact i_lt_n z.2 c9 | exact i_lt_n c1 z.1)]; exact ⟨rfl, a⟩)
set_option maxRecDepth 4000 in
theorem m_X5_status (G : GE) (h : Mem) (S : St) (i : Ok S) (a : RA S h) : Ct idsA G yX5_status cX5_status 1 (some .int) (rmD 0) [.ref (ad G 0)] h (Qi fun rv h' => rv = (O_status S ).1 ∧ RA (O_status S ).2 h') := by
  refine Ct.of [some (.ref (ad G 0))] (by decide) (Nat.le_of_ble_eq_true rfl) (lvE_ok 0 rfl) ?_
  refine V_aload0 dX5_status_0 ?_
  refine gX5_261 dX5_status_1 ?_
  rw [a.2.2.2]
  refine V_ireti dX5_status_4 ?_
  exact ⟨rfl, a⟩
set_option maxRecDepth 4000 in
theorem l_X5_sidesOfWays (G : GE) (h : Mem) (N : Ng) (i : Inv N) (r : RAn N h) (k : Nat) (hk : k ≤ nNl N) : V idsA G RX5 cX5_sidesOfWays 3 (some .int) (rmD 0) 4 [some (.ref (ad G 0)), some (.int (nI (fb_sm (fun l => (nWy N l).length) k))), some (.int (nI k))] [] h (Qi (fun v h' => h' = h ∧ v = nI (fb_sm (fun l => (nWy N l).length) (nNl N)))) := by
  induction hn : nNl N - k using Nat.strongRecOn generalizing k with
  | _ n ih =>
    subst hn
    have hnl := i.nl
    refine V_iload2 dX5_sidesOfWays_4 ?_
    refine V_aload0 dX5_sidesOfWays_5 ?_
    refine gX5_129 dX5_sidesOfWays_6 ?_
    rw [r.2.1]
    first | refine V_icmp_ge_n 30 dX5_sidesOfWays_9 (by decide) (by omega) (by omega) (fun c9 => ?_) (fun c9 => ?_) | refine V_icmp_ge 30 dX5_sidesOfWays_9 (by decide) (fun c9 => ?_) (fun c9 => ?_)
    · refine V_iload1 dX5_sidesOfWays_30 ?_
      refine V_ireti dX5_sidesOfWays_31 ?_
      obtain rfl : k = nNl N := by omega
      exact ⟨rfl, rfl⟩
    · refine V_iload1 dX5_sidesOfWays_12 ?_
      refine V_aload0 dX5_sidesOfWays_13 ?_
      refine gX5_21 dX5_sidesOfWays_14 ?_
      refine V_iload2 dX5_sidesOfWays_17 ?_
      refine V_aaloadL (by decide) rfl (by first | assumption | omega) dX5_sidesOfWays_18 ?_
      refine gX5_177 (by first | assumption | omega) dX5_sidesOfWays_19 ?_
      rw [RAn.len i r (show k < 12 by omega)]
      first | refine V_iadd_n dX5_sidesOfWays_22 ?_ | refine V_iadd dX5_sidesOfWays_22 ?_
      refine V_istore1 dX5_sidesOfWays_23 (by decide) rfl ?_
      first | refine V_iinc2_n 1 dX5_sidesOfWays_24 (by decide) (by decide) rfl ?_ | refine V_iinc2 (nI 1) dX5_sidesOfWays_24 (by decide) (by decide) rfl ?_
      refine V_goto 4 dX5_sidesOfWays_27 (by decide) ?_
      rw [← fb_sm_succ (fun l => (nWy N l).length)]
      exact ih _ (by omega) (k + 1) (by omega) rfl
set_option maxRecDepth 4000 in
theorem m_X5_sidesOfWays (G : GE) (h : Mem) (N : Ng) (i : Inv N) (r : RAn N h) : Ct idsA G yX5_sidesOfWays cX5_sidesOfWays 3 (some .int) (rmD 0) [.ref (ad G 0)] h (Qi fun v h' => h' = h ∧ v = nI (fb_sm (fun l => (nWy N l).length) (nNl N))) := by
  refine Ct.of [some (.ref (ad G 0)), none, none] (by decide) (Nat.le_of_ble_eq_true rfl) (lvE_ok 2 rfl) ?_
  refine V_iconst (nI 0) dX5_sidesOfWays_0 (by decide) ?_
  refine V_istore1 dX5_sidesOfWays_1 (by decide) rfl ?_
  refine V_iconst (nI 0) dX5_sidesOfWays_2 (by decide) ?_
  refine V_istore2 dX5_sidesOfWays_3 (by decide) rfl ?_
  exact l_X5_sidesOfWays G h N i r 0 (Nat.zero_le _)
set_option maxRecDepth 4000 in
theorem m_X5_all (G : GE) (h : Mem) (S : St) (i : Ok S) (a : RA S h) (x : Int32) : Ct idsA G yX5_all cX5_all 2 (some .int) (rmD 5) [.ref (ad G 0), .int x] h (Qi fun rv h' => rv = (O_all S x).1 ∧ RA (O_all S x).2 h') := by
  refine Ct.of [some (.ref (ad G 0)), some (.int x)] (by decide) (Nat.le_of_ble_eq_true rfl) (lvE_ok 0 rfl) ?_
  refine V_iload1 dX5_all_0 ?_
  by_cases hx : inR x 6
  · obtain ⟨k, hk, rfl⟩ := (inR_iff (by decide)).mp hx
    rcases (show k = 0 ∨ k = 1 ∨ k = 2 ∨ k = 3 ∨ k = 4 ∨ k = 5 by omega) with rfl | rfl | rfl | rfl | rfl | rfl
    · refine V_tableIn 40 dX5_all_1 (by decide) (by decide) rfl (by decide) ?_
      refine V_aload0 dX5_all_40 ?_
      refine gX5_28 dX5_all_41 ?_
      refine kX5_185 (m_X2_costOfAll _ _ (nMk S.2.1) a.2.1.M (nPr S.2.1) a.2.1.P) (rOK_d (by decide) (by decide)) (Nat.le_of_ble_eq_true rfl) dX5_all_44 (fun r44 h44 hq44 => ?_)
      obtain ⟨e_, rfl⟩ := hq44
      replace e_ := e_.symm
      subst e_
      refine V_ireti dX5_all_47 ?_
      rw [O_all, vAll, ite_t rfl]
      exact ⟨rfl, a⟩
    · refine V_tableIn 48 dX5_all_1 (by decide) (by decide) rfl (by decide) ?_
      refine V_aload0 dX5_all_48 ?_
      refine gX5_28 dX5_all_49 ?_
      refine kX5_188 (m_X2_usedSides _ _ (nMk S.2.1) a.2.1.M) (rOK_d (by decide) (by decide)) (Nat.le_of_ble_eq_true rfl) dX5_all_52 (fun r52 h52 hq52 => ?_)
      obtain ⟨e_, rfl⟩ := hq52
      replace e_ := e_.symm
      subst e_
      refine V_ireti dX5_all_55 ?_
      rw [O_all, vAll, ite_f (show ¬ nI 1 = nI 0 by decide), ite_t rfl]
      exact ⟨rfl, a⟩
    · refine V_tableIn 56 dX5_all_1 (by decide) (by decide) rfl (by decide) ?_
      refine V_aload0 dX5_all_56 ?_
      refine gX5_28 dX5_all_57 ?_
      refine kX5_191 (m_X2_greatestWidth _ _ (nMk S.2.1) a.2.1.M) (rOK_d (by decide) (by decide)) (Nat.le_of_ble_eq_true rfl) dX5_all_60 (fun r60 h60 hq60 => ?_)
      obtain ⟨e_, rfl⟩ := hq60
      replace e_ := e_.symm
      subst e_
      refine V_ireti dX5_all_63 ?_
      rw [O_all, vAll, ite_f (show ¬ nI 2 = nI 0 by decide), ite_f (show ¬ nI 2 = nI 1 by decide), ite_t rfl]
      exact ⟨rfl, a⟩
    · refine V_tableIn 64 dX5_all_1 (by decide) (by decide) rfl (by decide) ?_
      refine V_aload0 dX5_all_64 ?_
      refine gX5_28 dX5_all_65 ?_
      refine kX5_194 (m_X2_forks _ _ (nMk S.2.1) a.2.1.M) (rOK_d (by decide) (by decide)) (Nat.le_of_ble_eq_true rfl) dX5_all_68 (fun r68 h68 hq68 => ?_)
      obtain ⟨e_, rfl⟩ := hq68
      replace e_ := e_.symm
      subst e_
      refine V_ireti dX5_all_71 ?_
      rw [O_all, vAll, ite_f (show ¬ nI 3 = nI 0 by decide), ite_f (show ¬ nI 3 = nI 1 by decide), ite_f (show ¬ nI 3 = nI 2 by decide), ite_t rfl]
      exact ⟨rfl, a⟩
    · refine V_tableIn 72 dX5_all_1 (by decide) (by decide) rfl (by decide) ?_
      refine V_aload0 dX5_all_72 ?_
      refine gX5_28 dX5_all_73 ?_
      refine kX5_197 (m_X2_crossings _ _ (nMk S.2.1) a.2.1.M) (rOK_d (by decide) (by decide)) (Nat.le_of_ble_eq_true rfl) dX5_all_76 (fun r76 h76 hq76 => ?_)
      obtain ⟨e_, rfl⟩ := hq76
      replace e_ := e_.symm
      subst e_
      refine V_ireti dX5_all_79 ?_
      rw [O_all, vAll, ite_f (show ¬ nI 4 = nI 0 by decide), ite_f (show ¬ nI 4 = nI 1 by decide), ite_f (show ¬ nI 4 = nI 2 by decide), ite_f (show ¬ nI 4 = nI 3 by decide), ite_t rfl]
      exact ⟨rfl, a⟩
    · refine V_tableIn 80 dX5_all_1 (by decide) (by decide) rfl (by decide) ?_
      refine V_aload0 dX5_all_80 ?_
      refine kX5_200 (m_X5_sidesOfWays _ _ S.2.1 i.1 a.2.1) (rOK_d (by decide) (by decide)) (Nat.le_of_ble_eq_true rfl) dX5_all_81 (fun r81 h81 hq81 => ?_)
      obtain ⟨e_, rfl⟩ := hq81
      replace e_ := e_.symm
      subst e_
      refine V_ireti dX5_all_84 ?_
      rw [O_all, vAll, ite_f (show ¬ nI 5 = nI 0 by decide), ite_f (show ¬ nI 5 = nI 1 by decide), ite_f (show ¬ nI 5 = nI 2 by decide), ite_f (show ¬ nI 5 = nI 3 by decide), ite_f (show ¬ nI 5 = nI 4 by decide), ite_t rfl]
      exact ⟨rfl, a⟩
  · refine V_tableOut 85 dX5_all_1 (by have := inR_out (by decide) hx; omega) (by decide) ?_
    refine V_ldc ct_X5_57 dX5_all_85 ?_
    refine V_ireti dX5_all_87 ?_
    rw [O_all, vAll, ite_f (show ¬ x = nI 0 from fun e => hx (by rw [e]; exact inR_nI (by decide) (by decide))), ite_f (show ¬ x = nI 1 from fun e => hx (by rw [e]; exact inR_nI (by decide) (by decide))), ite_f (show ¬ x = nI 2 from fun e => hx (by rw [e]; exact inR_nI (by decide) (by decide))), ite_f (show ¬ x = nI 3 from fun e => hx (by rw [e]; exact inR_nI (by decide) (by decide))), ite_f (show ¬ x = nI 4 from fun e => hx (by rw [e]; exact inR_nI (by decide) (by decide))), ite_f (show ¬ x = nI 5 from fun e => hx (by rw [e]; exact inR_nI (by decide) (by decide)))]
    exact ⟨rfl, a⟩
