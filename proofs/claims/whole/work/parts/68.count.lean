def wmF (N : Ng) (l : Nat) : Bool := decide (nWy N l ≠ [])
theorem msk_or {f : Nat → Bool} {k : Nat} (h : f k = true) : msk f k ||| 2 ^ k = msk f (k + 1) := by
  rw [msk, if_pos h, Nat.add_comm, show 2 ^ k + msk f k = 2 ^ k * 1 + msk f k by rw [Nat.mul_one], Nat.two_pow_add_eq_or_of_lt (msk_lt f k), Nat.mul_one, Nat.or_comm]
theorem msk_no {f : Nat → Bool} {k : Nat} (h : f k = false) : msk f k = msk f (k + 1) := by
  rw [msk, if_neg (by rw [h]; decide), Nat.add_zero]
theorem msk_ext {f : Nat → Bool} {k : Nat} (h : ∀ l, k ≤ l → f l = false) : ∀ m, msk f (k + m) = msk f k
  | 0 => rfl
  | m + 1 => by rw [← Nat.add_assoc, ← msk_no (h (k + m) (by omega))]; exact msk_ext h m
theorem ct_ext {f : Nat → Bool} {k : Nat} (h : ∀ l, k ≤ l → f l = false) : ∀ m, fb_ct f (k + m) = fb_ct f k
  | 0 => rfl
  | m + 1 => by rw [← Nat.add_assoc, ← ct_f (h (k + m) (by omega))]; exact ct_ext h m
theorem wm_off {N : Ng} (i : Inv N) : ∀ l, nNl N ≤ l → wmF N l = false := fun l hl => by unfold wmF; rw [i.off hl]; decide
theorem wm_12 {N : Ng} (i : Inv N) : msk (wmF N) (nNl N) = msk (wmF N) 12 := by
  have := msk_ext (wm_off i) (12 - nNl N)
  rw [show nNl N + (12 - nNl N) = 12 by have := i.nl; omega] at this
  exact this.symm
theorem wc_12 {N : Ng} (i : Inv N) : fb_ct (wmF N) 12 = fb_ct (wmF N) (nNl N) := by
  have := ct_ext (wm_off i) (12 - nNl N)
  rw [show nNl N + (12 - nNl N) = 12 by have := i.nl; omega] at this
  exact this
def kdF (N : Ng) (k : Nat) (l : Nat) : Bool := decide (kdI (nWy N l).length (swo (nMk N) l) = nI k)
noncomputable def vCount (S : St) (x : Int32) : Int32 := ite' (x = nI 0) (nI (fb_ct (fun k => decide (¬ S.1.1 k = -1)) 8)) (ite' (x = nI 1) (nI (nNp S.2.1)) (ite' (x = nI 2) (nI (nNl S.2.1)) (ite' (x = nI 3) (nI (fb_ct (wmF S.2.1) (nNl S.2.1))) (ite' (x = nI 4) (nI (fb_ct (kdF S.2.1 1) (nNl S.2.1))) (ite' (x = nI 5) (nI (fb_ct (kdF S.2.1 2) (nNl S.2.1))) (ite' (x = nI 6) (nI (fb_ct (kdF S.2.1 3) (nNl S.2.1))) (ite' (x = nI 7) (nI (fb_ct (nSh S.2.1) 100)) (-1000001))))))))
noncomputable def O_count (S : St) (x : Int32) : Int32 × St := (vCount S x, S)
set_option maxRecDepth 4000 in
theorem l_X5_waysMask (G : GE) (h : Mem) (N : Ng) (i : Inv N) (r : RAn N h) (k : Nat) (hk : k ≤ nNl N) : V idsA G RX5 cX5_waysMask 3 (some .int) (rmD 1) 4 [some (.ref (ad G 0)), some (.int (nI (msk (wmF N) k))), some (.int (nI k))] [] h (Qi (fun v h' => h' = h ∧ v = nI (msk (wmF N) 12))) := by
  induction hn : nNl N - k using Nat.strongRecOn generalizing k with
  | _ n ih =>
    subst hn
    have hnl := i.nl
    have hlen := i.len (l := k)
    refine V_iload2 dX5_waysMask_4 ?_
    refine V_aload0 dX5_waysMask_5 ?_
    refine gX5_129 dX5_waysMask_6 ?_
    rw [r.2.1]
    first | refine V_icmp_ge_n 42 dX5_waysMask_9 (by decide) (by omega) (by omega) (fun c9 => ?_) (fun c9 => ?_) | refine V_icmp_ge 42 dX5_waysMask_9 (by decide) (fun c9 => ?_) (fun c9 => ?_)
    · refine V_iload1 dX5_waysMask_42 ?_
      refine V_ireti dX5_waysMask_43 ?_
      obtain rfl : k = nNl N := by omega
      rw [wm_12 i]
      exact ⟨rfl, rfl⟩
    · refine V_aload0 dX5_waysMask_12 ?_
      refine gX5_21 dX5_waysMask_13 ?_
      refine V_iload2 dX5_waysMask_16 ?_
      refine V_aaloadL (by decide) rfl (by first | assumption | omega) dX5_waysMask_17 ?_
      refine kX5_169 (by first | assumption | omega) (m_X1_hasWay _ _ k (nWy N k).length (by omega) (RAn.len i r (by omega)) (by omega)) (rOK_d (by decide) (by decide)) (Nat.le_of_ble_eq_true rfl) dX5_waysMask_18 (fun r18 h18 hq18 => ?_)
      obtain ⟨e_, rfl⟩ := hq18
      replace e_ := e_.symm
      subst e_
      first | refine V_if_eq_z 36 dX5_waysMask_21 (by decide) (fun c21 => ?_) (fun c21 => ?_) | refine V_if_eq_n 36 dX5_waysMask_21 (by decide) (by omega) (fun c21 => ?_) (fun c21 => ?_) | refine V_if_eq 36 dX5_waysMask_21 (by decide) (fun c21 => ?_) (fun c21 => ?_)
      · first | refine V_iinc2_n 1 dX5_waysMask_36 (by decide) (by decide) rfl ?_ | refine V_iinc2 (nI 1) dX5_waysMask_36 (by decide) (by decide) rfl ?_
        refine V_goto 4 dX5_waysMask_39 (by decide) ?_
        first | rw [msk_or (f := wmF N) (k := k) (decide_eq_true (fun z => len0.mpr z c21))] | rw [msk_no (f := wmF N) (k := k) (decide_eq_false (fun z => z (len0.mp c21)))]
        exact ih _ (by omega) (k + 1) (by omega) rfl
      · refine V_iload1 dX5_waysMask_24 ?_
        refine V_aload0 dX5_waysMask_25 ?_
        refine gX5_21 dX5_waysMask_26 ?_
        refine V_iload2 dX5_waysMask_29 ?_
        refine V_aaloadL (by decide) rfl (by first | assumption | omega) dX5_waysMask_30 ?_
        refine gX5_206 (by first | assumption | omega) dX5_waysMask_31 ?_
        rw [RAn.bit r (show k < 12 by omega)]
        first | refine V_ior_n dX5_waysMask_34 ?_ | refine V_ior dX5_waysMask_34 ?_
        refine V_istore1 dX5_waysMask_35 (by decide) rfl ?_
        first | refine V_iinc2_n 1 dX5_waysMask_36 (by decide) (by decide) rfl ?_ | refine V_iinc2 (nI 1) dX5_waysMask_36 (by decide) (by decide) rfl ?_
        refine V_goto 4 dX5_waysMask_39 (by decide) ?_
        first | rw [msk_or (f := wmF N) (k := k) (decide_eq_true (fun z => len0.mpr z c21))] | rw [msk_no (f := wmF N) (k := k) (decide_eq_false (fun z => z (len0.mp c21)))]
        exact ih _ (by omega) (k + 1) (by omega) rfl
set_option maxRecDepth 4000 in
theorem m_X5_waysMask (G : GE) (h : Mem) (N : Ng) (i : Inv N) (r : RAn N h) : Ct idsA G yX5_waysMask cX5_waysMask 3 (some .int) (rmD 1) [.ref (ad G 0)] h (Qi fun v h' => h' = h ∧ v = nI (msk (wmF N) 12)) := by
  refine Ct.of [some (.ref (ad G 0)), none, none] (by decide) (Nat.le_of_ble_eq_true rfl) (lvE_ok 2 rfl) ?_
  refine V_iconst (nI 0) dX5_waysMask_0 (by decide) ?_
  refine V_istore1 dX5_waysMask_1 (by decide) rfl ?_
  refine V_iconst (nI 0) dX5_waysMask_2 (by decide) ?_
  refine V_istore2 dX5_waysMask_3 (by decide) rfl ?_
  exact l_X5_waysMask G h N i r 0 (Nat.zero_le _)
set_option maxRecDepth 4000 in
theorem l_X5_linesOfKind (G : GE) (h : Mem) (N : Ng) (i : Inv N) (r : RAn N h) (k : Nat) (l : Nat) (hl : l ≤ nNl N) : V idsA G RX5 cX5_linesOfKind 4 (some .int) (rmD 3) 4 [some (.ref (ad G 0)), some (.int (nI k)), some (.int (nI (fb_ct (kdF N k) l))), some (.int (nI l))] [] h (Qi (fun v h' => h' = h ∧ v = nI (fb_ct (kdF N k) (nNl N)))) := by
  induction hn : nNl N - l using Nat.strongRecOn generalizing l with
  | _ n ih =>
    subst hn
    have hnl := i.nl
    have hlen := i.len (l := l)
    refine V_iload3 dX5_linesOfKind_4 ?_
    refine V_aload0 dX5_linesOfKind_5 ?_
    refine gX5_129 dX5_linesOfKind_6 ?_
    rw [r.2.1]
    first | refine V_icmp_ge_n 38 dX5_linesOfKind_9 (by decide) (by omega) (by omega) (fun c9 => ?_) (fun c9 => ?_) | refine V_icmp_ge 38 dX5_linesOfKind_9 (by decide) (fun c9 => ?_) (fun c9 => ?_)
    · refine V_iload2 dX5_linesOfKind_38 ?_
      refine V_ireti dX5_linesOfKind_39 ?_
      obtain rfl : l = nNl N := by omega
      exact ⟨rfl, rfl⟩
    · refine V_aload0 dX5_linesOfKind_12 ?_
      refine gX5_28 dX5_linesOfKind_13 ?_
      refine V_aload0 dX5_linesOfKind_16 ?_
      refine gX5_21 dX5_linesOfKind_17 ?_
      refine V_iload3 dX5_linesOfKind_20 ?_
      refine V_aaloadL (by decide) rfl (by first | assumption | omega) dX5_linesOfKind_21 ?_
      refine kX5_234 (m_X2_kindOf _ _ (nMk N) r.M l (by omega) (RAn.bit r (by omega)) (nWy N l).length (RAn.len i r (by omega)) (by omega)) (rOK_d (by decide) (by decide)) (Nat.le_of_ble_eq_true rfl) dX5_linesOfKind_22 (fun r22 h22 hq22 => ?_)
      obtain ⟨e_, rfl⟩ := hq22
      replace e_ := e_.symm
      subst e_
      refine V_iload1 dX5_linesOfKind_25 ?_
      first | refine V_icmp_ne_n 32 dX5_linesOfKind_26 (by decide) (by omega) (by omega) (fun c26 => ?_) (fun c26 => ?_) | refine V_icmp_ne 32 dX5_linesOfKind_26 (by decide) (fun c26 => ?_) (fun c26 => ?_)
      · first | refine V_iinc3_n 1 dX5_linesOfKind_32 (by decide) (by decide) rfl ?_ | refine V_iinc3 (nI 1) dX5_linesOfKind_32 (by decide) (by decide) rfl ?_
        refine V_goto 4 dX5_linesOfKind_35 (by decide) ?_
        first | rw [ct_t (p := kdF N k) (n := l) (decide_eq_true c26)] | rw [ct_f (p := kdF N k) (n := l) (decide_eq_false c26)]
        exact ih _ (by omega) (l + 1) (by omega) rfl
      · first | refine V_iinc2_n 1 dX5_linesOfKind_29 (by decide) (by decide) rfl ?_ | refine V_iinc2 (nI 1) dX5_linesOfKind_29 (by decide) (by decide) rfl ?_
        first | refine V_iinc3_n 1 dX5_linesOfKind_32 (by decide) (by decide) rfl ?_ | refine V_iinc3 (nI 1) dX5_linesOfKind_32 (by decide) (by decide) rfl ?_
        refine V_goto 4 dX5_linesOfKind_35 (by decide) ?_
        first | rw [ct_t (p := kdF N k) (n := l) (decide_eq_true c26)] | rw [ct_f (p := kdF N k) (n := l) (decide_eq_false c26)]
        exact ih _ (by omega) (l + 1) (by omega) rfl
set_option maxRecDepth 4000 in
theorem m_X5_linesOfKind (G : GE) (h : Mem) (N : Ng) (i : Inv N) (r : RAn N h) (k : Nat) : Ct idsA G yX5_linesOfKind cX5_linesOfKind 4 (some .int) (rmD 3) [.ref (ad G 0), .int (nI k)] h (Qi fun v h' => h' = h ∧ v = nI (fb_ct (kdF N k) (nNl N))) := by
  refine Ct.of [some (.ref (ad G 0)), some (.int (nI k)), none, none] (by decide) (Nat.le_of_ble_eq_true rfl) (lvE_ok 2 rfl) ?_
  refine V_iconst (nI 0) dX5_linesOfKind_0 (by decide) ?_
  refine V_istore2 dX5_linesOfKind_1 (by decide) rfl ?_
  refine V_iconst (nI 0) dX5_linesOfKind_2 (by decide) ?_
  refine V_istore3 dX5_linesOfKind_3 (by decide) rfl ?_
  exact l_X5_linesOfKind G h N i r k 0 (Nat.zero_le _)
set_option maxRecDepth 4000 in
theorem l_X5_sheetsThere (G : GE) (h : Mem) (A : Sg) (s : RAs A h) (k : Nat) (hk : k ≤ 8) : V idsA G RX5 cX5_sheetsThere 3 (some .int) (rmD 1) 4 [some (.ref (ad G 0)), some (.int (nI (fb_ct (fun k => decide (¬ A.1 k = -1)) k))), some (.int (nI k))] [] h (Qi (fun v h' => h' = h ∧ v = nI (fb_ct (fun k => decide (¬ A.1 k = -1)) 8))) := by
  induction hn : 8 - k using Nat.strongRecOn generalizing k with
  | _ n ih =>
    subst hn
    refine V_iload2 dX5_sheetsThere_4 ?_
    refine V_bipush (nI 8) dX5_sheetsThere_5 (by decide) ?_
    first | refine V_icmp_ge_n 31 dX5_sheetsThere_7 (by decide) (by omega) (by omega) (fun c7 => ?_) (fun c7 => ?_) | refine V_icmp_ge 31 dX5_sheetsThere_7 (by decide) (fun c7 => ?_) (fun c7 => ?_)
    · refine V_iload1 dX5_sheetsThere_31 ?_
      refine V_ireti dX5_sheetsThere_32 ?_
      obtain rfl : k = 8 := by omega
      exact ⟨rfl, rfl⟩
    · have hmi : h (20 + k) 2 = -1 ↔ A.1 k = -1 := by
        rcases s k (by omega) with ⟨z1, z2⟩ | ⟨z1, z2, z3, z4, z5⟩
        · exact ⟨fun _ => z1, fun _ => z2⟩
        · constructor
          · intro e; rw [z4] at e; exact absurd e (neg1_ne (by omega))
          · intro e; rw [e] at z1; exact absurd z1 (by decide)
      refine V_aload0 dX5_sheetsThere_10 ?_
      refine gX5_11 dX5_sheetsThere_11 ?_
      refine V_iload2 dX5_sheetsThere_14 ?_
      refine V_aaloadS (by decide) rfl (by first | assumption | omega) dX5_sheetsThere_15 ?_
      refine kX5_69 (by first | assumption | omega) (m_X3_isMissing _ _ _ (by first | assumption | omega)) (rOK_d (by decide) (by decide)) (Nat.le_of_ble_eq_true rfl) dX5_sheetsThere_16 (fun r16 h16 hq16 => ?_)
      obtain ⟨e_, rfl⟩ := hq16
      replace e_ := e_.symm
      subst e_
      first | refine V_if_ne_z 25 dX5_sheetsThere_19 (by decide) (fun c19 => ?_) (fun c19 => ?_) | refine V_if_ne_n 25 dX5_sheetsThere_19 (by decide) (by omega) (fun c19 => ?_) (fun c19 => ?_) | refine V_if_ne 25 dX5_sheetsThere_19 (by decide) (fun c19 => ?_) (fun c19 => ?_)
      · first | refine V_iinc2_n 1 dX5_sheetsThere_25 (by decide) (by decide) rfl ?_ | refine V_iinc2 (nI 1) dX5_sheetsThere_25 (by decide) (by decide) rfl ?_
        refine V_goto 4 dX5_sheetsThere_28 (by decide) ?_
        first | rw [ct_t (p := (fun k => decide (¬ A.1 k = -1))) (n := k) (decide_eq_true (fun z => c19 (hmi.mpr z)))] | rw [ct_f (p := (fun k => decide (¬ A.1 k = -1))) (n := k) (decide_eq_false (fun z => z (hmi.mp c19)))]
        exact ih _ (by omega) (k + 1) (by omega) rfl
      · first | refine V_iinc1_n 1 dX5_sheetsThere_22 (by decide) (by decide) rfl ?_ | refine V_iinc1 (nI 1) dX5_sheetsThere_22 (by decide) (by decide) rfl ?_
        first | refine V_iinc2_n 1 dX5_sheetsThere_25 (by decide) (by decide) rfl ?_ | refine V_iinc2 (nI 1) dX5_sheetsThere_25 (by decide) (by decide) rfl ?_
        refine V_goto 4 dX5_sheetsThere_28 (by decide) ?_
        first | rw [ct_t (p := (fun k => decide (¬ A.1 k = -1))) (n := k) (decide_eq_true (fun z => c19 (hmi.mpr z)))] | rw [ct_f (p := (fun k => decide (¬ A.1 k = -1))) (n := k) (decide_eq_false (fun z => z (hmi.mp c19)))]
        exact ih _ (by omega) (k + 1) (by omega) rfl
set_option maxRecDepth 4000 in
theorem m_X5_sheetsThere (G : GE) (h : Mem) (A : Sg) (s : RAs A h) : Ct idsA G yX5_sheetsThere cX5_sheetsThere 3 (some .int) (rmD 1) [.ref (ad G 0)] h (Qi fun v h' => h' = h ∧ v = nI (fb_ct (fun k => decide (¬ A.1 k = -1)) 8)) := by
  refine Ct.of [some (.ref (ad G 0)), none, none] (by decide) (Nat.le_of_ble_eq_true rfl) (lvE_ok 2 rfl) ?_
  refine V_iconst (nI 0) dX5_sheetsThere_0 (by decide) ?_
  refine V_istore1 dX5_sheetsThere_1 (by decide) rfl ?_
  refine V_iconst (nI 0) dX5_sheetsThere_2 (by decide) ?_
  refine V_istore2 dX5_sheetsThere_3 (by decide) rfl ?_
  exact l_X5_sheetsThere G h A s 0 (by decide)
set_option maxRecDepth 4000 in
theorem m_X5_count (G : GE) (h : Mem) (S : St) (i : Ok S) (a : RA S h) (x : Int32) : Ct idsA G yX5_count cX5_count 2 (some .int) (rmD 4) [.ref (ad G 0), .int x] h (Qi fun rv h' => rv = (O_count S x).1 ∧ RA (O_count S x).2 h') := by
  refine Ct.of [some (.ref (ad G 0)), some (.int x)] (by decide) (Nat.le_of_ble_eq_true rfl) (lvE_ok 0 rfl) ?_
  refine V_iload1 dX5_count_0 ?_
  by_cases hx : inR x 8
  · obtain ⟨k, hk, rfl⟩ := (inR_iff (by decide)).mp hx
    rcases (show k = 0 ∨ k = 1 ∨ k = 2 ∨ k = 3 ∨ k = 4 ∨ k = 5 ∨ k = 6 ∨ k = 7 by omega) with rfl | rfl | rfl | rfl | rfl | rfl | rfl | rfl
    · refine V_tableIn 48 dX5_count_1 (by decide) (by decide) rfl (by decide) ?_
      refine V_aload0 dX5_count_48 ?_
      refine kX5_247 (m_X5_sheetsThere _ _ S.1 a.1) (rOK_d (by decide) (by decide)) (Nat.le_of_ble_eq_true rfl) dX5_count_49 (fun r49 h49 hq49 => ?_)
      obtain ⟨e_, rfl⟩ := hq49
      replace e_ := e_.symm
      subst e_
      refine V_ireti dX5_count_52 ?_
      rw [O_count, vCount, ite_t rfl]
      exact ⟨rfl, a⟩
    · refine V_tableIn 53 dX5_count_1 (by decide) (by decide) rfl (by decide) ?_
      refine V_aload0 dX5_count_53 ?_
      refine gX5_115 dX5_count_54 ?_
      rw [a.2.1.1]
      refine V_ireti dX5_count_57 ?_
      rw [O_count, vCount, ite_f (show ¬ nI 1 = nI 0 by decide), ite_t rfl]
      exact ⟨rfl, a⟩
    · refine V_tableIn 58 dX5_count_1 (by decide) (by decide) rfl (by decide) ?_
      refine V_aload0 dX5_count_58 ?_
      refine gX5_129 dX5_count_59 ?_
      rw [a.2.1.2.1]
      refine V_ireti dX5_count_62 ?_
      rw [O_count, vCount, ite_f (show ¬ nI 2 = nI 0 by decide), ite_f (show ¬ nI 2 = nI 1 by decide), ite_t rfl]
      exact ⟨rfl, a⟩
    · refine V_tableIn 63 dX5_count_1 (by decide) (by decide) rfl (by decide) ?_
      refine V_aload0 dX5_count_63 ?_
      refine kX5_212 (m_X5_waysMask _ _ S.2.1 i.1 a.2.1) (rOK_d (by decide) (by decide)) (Nat.le_of_ble_eq_true rfl) dX5_count_64 (fun r64 h64 hq64 => ?_)
      obtain ⟨e_, rfl⟩ := hq64
      replace e_ := e_.symm
      subst e_
      refine kX5_250 (m_J6_bitCount_0f7a4 _ _ _ (msk12 _)) (rOK_d (by decide) (by decide)) (Nat.le_of_ble_eq_true rfl) dX5_count_67 (fun r67 h67 hq67 => ?_)
      obtain ⟨e_, rfl⟩ := hq67
      replace e_ := e_.symm
      subst e_
      rw [popc_msk, wc_12 i.1]
      refine V_ireti dX5_count_70 ?_
      rw [O_count, vCount, ite_f (show ¬ nI 3 = nI 0 by decide), ite_f (show ¬ nI 3 = nI 1 by decide), ite_f (show ¬ nI 3 = nI 2 by decide), ite_t rfl]
      exact ⟨rfl, a⟩
    · refine V_tableIn 71 dX5_count_1 (by decide) (by decide) rfl (by decide) ?_
      refine V_aload0 dX5_count_71 ?_
      refine V_iconst (nI 1) dX5_count_72 (by decide) ?_
      refine kX5_255 (m_X5_linesOfKind _ _ S.2.1 i.1 a.2.1 1) (rOK_d (by decide) (by decide)) (Nat.le_of_ble_eq_true rfl) dX5_count_73 (fun r73 h73 hq73 => ?_)
      obtain ⟨e_, rfl⟩ := hq73
      replace e_ := e_.symm
      subst e_
      refine V_ireti dX5_count_76 ?_
      rw [O_count, vCount, ite_f (show ¬ nI 4 = nI 0 by decide), ite_f (show ¬ nI 4 = nI 1 by decide), ite_f (show ¬ nI 4 = nI 2 by decide), ite_f (show ¬ nI 4 = nI 3 by decide), ite_t rfl]
      exact ⟨rfl, a⟩
    · refine V_tableIn 77 dX5_count_1 (by decide) (by decide) rfl (by decide) ?_
      refine V_aload0 dX5_count_77 ?_
      refine V_iconst (nI 2) dX5_count_78 (by decide) ?_
      refine kX5_255 (m_X5_linesOfKind _ _ S.2.1 i.1 a.2.1 2) (rOK_d (by decide) (by decide)) (Nat.le_of_ble_eq_true rfl) dX5_count_79 (fun r79 h79 hq79 => ?_)
      obtain ⟨e_, rfl⟩ := hq79
      replace e_ := e_.symm
      subst e_
      refine V_ireti dX5_count_82 ?_
      rw [O_count, vCount, ite_f (show ¬ nI 5 = nI 0 by decide), ite_f (show ¬ nI 5 = nI 1 by decide), ite_f (show ¬ nI 5 = nI 2 by decide), ite_f (show ¬ nI 5 = nI 3 by decide), ite_f (show ¬ nI 5 = nI 4 by decide), ite_t rfl]
      exact ⟨rfl, a⟩
    · refine V_tableIn 83 dX5_count_1 (by decide) (by decide) rfl (by decide) ?_
      refine V_aload0 dX5_count_83 ?_
      refine V_iconst (nI 3) dX5_count_84 (by decide) ?_
      refine kX5_255 (m_X5_linesOfKind _ _ S.2.1 i.1 a.2.1 3) (rOK_d (by decide) (by decide)) (Nat.le_of_ble_eq_true rfl) dX5_count_85 (fun r85 h85 hq85 => ?_)
      obtain ⟨e_, rfl⟩ := hq85
      replace e_ := e_.symm
      subst e_
      refine V_ireti dX5_count_88 ?_
      rw [O_count, vCount, ite_f (show ¬ nI 6 = nI 0 by decide), ite_f (show ¬ nI 6 = nI 1 by decide), ite_f (show ¬ nI 6 = nI 2 by decide), ite_f (show ¬ nI 6 = nI 3 by decide), ite_f (show ¬ nI 6 = nI 4 by decide), ite_f (show ¬ nI 6 = nI 5 by decide), ite_t rfl]
      exact ⟨rfl, a⟩
    · refine V_tableIn 89 dX5_count_1 (by decide) (by decide) rfl (by decide) ?_
      refine V_aload0 dX5_count_89 ?_
      refine gX5_28 dX5_count_90 ?_
      refine kX5_258 (m_X2_shutPlaces _ _ (nSh S.2.1) a.2.1.2.2.2.1) (rOK_d (by decide) (by decide)) (Nat.le_of_ble_eq_true rfl) dX5_count_93 (fun r93 h93 hq93 => ?_)
      obtain ⟨e_, rfl⟩ := hq93
      replace e_ := e_.symm
      subst e_
      refine V_ireti dX5_count_96 ?_
      rw [O_count, vCount, ite_f (show ¬ nI 7 = nI 0 by decide), ite_f (show ¬ nI 7 = nI 1 by decide), ite_f (show ¬ nI 7 = nI 2 by decide), ite_f (show ¬ nI 7 = nI 3 by decide), ite_f (show ¬ nI 7 = nI 4 by decide), ite_f (show ¬ nI 7 = nI 5 by decide), ite_f (show ¬ nI 7 = nI 6 by decide), ite_t rfl]
      exact ⟨rfl, a⟩
  · refine V_tableOut 97 dX5_count_1 (by have := inR_out (by decide) hx; omega) (by decide) ?_
    refine V_ldc ct_X5_57 dX5_count_97 ?_
    refine V_ireti dX5_count_99 ?_
    rw [O_count, vCount, ite_f (show ¬ x = nI 0 from fun e => hx (by rw [e]; exact inR_nI (by decide) (by decide))), ite_f (show ¬ x = nI 1 from fun e => hx (by rw [e]; exact inR_nI (by decide) (by decide))), ite_f (show ¬ x = nI 2 from fun e => hx (by rw [e]; exact inR_nI (by decide) (by decide))), ite_f (show ¬ x = nI 3 from fun e => hx (by rw [e]; exact inR_nI (by decide) (by decide))), ite_f (show ¬ x = nI 4 from fun e => hx (by rw [e]; exact inR_nI (by decide) (by decide))), ite_f (show ¬ x = nI 5 from fun e => hx (by rw [e]; exact inR_nI (by decide) (by decide))), ite_f (show ¬ x = nI 6 from fun e => hx (by rw [e]; exact inR_nI (by decide) (by decide))), ite_f (show ¬ x = nI 7 from fun e => hx (by rw [e]; exact inR_nI (by decide) (by decide)))]
    exact ⟨rfl, a⟩
