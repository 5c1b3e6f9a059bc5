set_option maxRecDepth 4000 in
theorem m_X1_hasWay (G : GE) (h : Mem) (l len : Nat) (hl : l < 12) (hlen : h (40 + l) 4 = nI len) (hb : len ≤ 100) : Ct idsA G yX1_hasWay cX1_hasWay 1 (some .boolean) (rmD 0) [.ref (ad G (40 + l))] h (Qi fun r h' => h' = h ∧ r = bz (0 < len)) := by
  refine Ct.of [some (.ref (ad G (40 + l)))] (by decide) (Nat.le_of_ble_eq_true rfl) (lvE_ok 0 rfl) ?_
  refine V_aload0 dX1_hasWay_0 ?_
  refine gX1_25 (by first | assumption | omega) dX1_hasWay_1 ?_
  rw [hlen]
  first | refine V_if_le_n 11 dX1_hasWay_4 (by decide) (by omega) (fun c4 => ?_) (fun c4 => ?_) | refine V_if_le 11 dX1_hasWay_4 (by decide) (fun c4 => ?_) (fun c4 => ?_)
  · refine V_iconst (nI 0) dX1_hasWay_11 (by decide) ?_
    refine V_zreti dX1_hasWay_12 (by first | exact bz_01 | exact nI_01 (Or.inl rfl) | exact nI_01 (Or.inr rfl) | assumption) ?_
    exact ⟨rfl, by first | exact bz_r1 (by omega) | exact bz_r0 (by omega)⟩
  · refine V_iconst (nI 1) dX1_hasWay_7 (by decide) ?_
    refine V_goto 12 dX1_hasWay_8 (by decide) ?_
    refine V_zreti dX1_hasWay_12 (by first | exact bz_01 | exact nI_01 (Or.inl rfl) | exact nI_01 (Or.inr rfl) | assumption) ?_
    exact ⟨rfl, by first | exact bz_r1 (by omega) | exact bz_r0 (by omega)⟩
def swo (M : Nat → Nat) (l : Nat) : Nat := fb_ct (fun s => decide (¬ M s &&& 2 ^ l = 0 ∧ ¬ M s = 2 ^ l)) 200
theorem swo_le (M : Nat → Nat) (l : Nat) : swo M l ≤ 200 := fb_ct_le _ 200
def kdI (len n : Nat) : Int32 := if len = 0 then -1000000 else if n = 0 then nI 1 else if n = len then nI 2 else nI 3
set_option maxRecDepth 4000 in
theorem m_X2_kindOf (G : GE) (h : Mem) (M : Nat → Nat) (hM : hasM M h) (l : Nat) (hl : l < 12) (hbit : h (40 + l) 0 = nI (2 ^ l)) (len : Nat) (hlen : h (40 + l) 4 = nI len) (hlb : len ≤ 100) : Ct idsA G yX2_kindOf cX2_kindOf 3 (some .int) (rmD 2) [.ref (ad G 4), .ref (ad G (40 + l))] h (Qi fun r h' => h' = h ∧ r = kdI len (swo M l)) := by
  refine Ct.of [some (.ref (ad G 4)), some (.ref (ad G (40 + l))), none] (by decide) (Nat.le_of_ble_eq_true rfl) (lvE_ok 1 rfl) ?_
  refine V_aload1 dX2_kindOf_0 ?_
  refine kX2_92 (by first | assumption | omega) (m_X1_hasWay _ _ _ len (by assumption) hlen hlb) (rOK_d (by decide) (by decide)) (Nat.le_of_ble_eq_true rfl) dX2_kindOf_1 (fun r1 h1 hq1 => ?_)
  obtain ⟨e_, rfl⟩ := hq1
  replace e_ := e_.symm
  subst e_
  first | refine V_if_ne_z 10 dX2_kindOf_4 (by decide) (fun c4 => ?_) (fun c4 => ?_) | refine V_if_ne_n 10 dX2_kindOf_4 (by decide) (by omega) (fun c4 => ?_) (fun c4 => ?_) | refine V_if_ne 10 dX2_kindOf_4 (by decide) (fun c4 => ?_) (fun c4 => ?_)
  · refine V_aload0 dX2_kindOf_10 ?_
    refine V_aload1 dX2_kindOf_11 ?_
    refine kX2_96 (m_X2_sidesWithOthers _ _ M hM _ (by assumption) hbit) (rOK_d (by decide) (by decide)) (Nat.le_of_ble_eq_true rfl) dX2_kindOf_12 (fun r12 h12 hq12 => ?_)
    obtain ⟨e_, rfl⟩ := hq12
    replace e_ := e_.symm
    subst e_
    have hsw := swo_le M l
    rw [show fb_ct (fun s => decide (¬ M s &&& 2 ^ l = 0 ∧ ¬ M s = 2 ^ l)) 200 = swo M l from rfl]
    refine V_istore2 dX2_kindOf_15 (by decide) rfl ?_
    refine V_iload2 dX2_kindOf_16 ?_
    first | refine V_if_ne_z 22 dX2_kindOf_17 (by decide) (fun c17 => ?_) (fun c17 => ?_) | refine V_if_ne_n 22 dX2_kindOf_17 (by decide) (by omega) (fun c17 => ?_) (fun c17 => ?_) | refine V_if_ne 22 dX2_kindOf_17 (by decide) (fun c17 => ?_) (fun c17 => ?_)
    · refine V_iload2 dX2_kindOf_22 ?_
      refine V_aload1 dX2_kindOf_23 ?_
      refine gX2_80 (by first | assumption | omega) dX2_kindOf_24 ?_
      rw [hlen]
      first | refine V_icmp_ne_n 34 dX2_kindOf_27 (by decide) (by omega) (by omega) (fun c27 => ?_) (fun c27 => ?_) | refine V_icmp_ne 34 dX2_kindOf_27 (by decide) (fun c27 => ?_) (fun c27 => ?_)
      · refine V_iconst (nI 3) dX2_kindOf_34 (by decide) ?_
        refine V_ireti dX2_kindOf_35 ?_
        exact ⟨rfl, by rw [kdI, if_neg (by omega), if_neg c17]; first | rw [if_pos c27] | rw [if_neg c27]⟩
      · refine V_iconst (nI 2) dX2_kindOf_30 (by decide) ?_
        refine V_goto 35 dX2_kindOf_31 (by decide) ?_
        refine V_ireti dX2_kindOf_35 ?_
        exact ⟨rfl, by rw [kdI, if_neg (by omega), if_neg c17]; first | rw [if_pos c27] | rw [if_neg c27]⟩
    · refine V_iconst (nI 1) dX2_kindOf_20 (by decide) ?_
      refine V_ireti dX2_kindOf_21 ?_
      exact ⟨rfl, by rw [kdI, if_neg (by omega), if_pos c17]⟩
  · refine V_ldc ct_X2_32 dX2_kindOf_7 ?_
    refine V_ireti dX2_kindOf_9 ?_
    exact ⟨rfl, by simp [kdI, show len = 0 by omega]⟩
set_option maxRecDepth 4000 in
theorem l_X2_costOfAll_in (G : GE) (h : Mem) (pr : Nat → Nat) (hpr : hasP pr h) (Q : Option Value → Mem → Prop) (a m : Nat) (hm : m ≤ 12) (side j : Nat) (hj : j ≤ m) (K : V idsA G RX2 cX2_costOfAll 5 (some .int) (rmD 2) 45 [some (.ref (ad G 4)), some (.int (nI (a + fb_sm pr m))), some (.int (nI side)), some (.int (nI m)), some (.int (nI m))] [] h Q) : V idsA G RX2 cX2_costOfAll 5 (some .int) (rmD 2) 24 [some (.ref (ad G 4)), some (.int (nI (a + fb_sm pr j))), some (.int (nI side)), some (.int (nI m)), some (.int (nI j))] [] h Q := by
  induction hn : m - j using Nat.strongRecOn generalizing j with
  | _ n ih =>
    subst hn
    refine V_iload4 dX2_costOfAll_24 ?_
    refine V_iload3 dX2_costOfAll_26 ?_
    first | refine V_icmp_ge_n 45 dX2_costOfAll_27 (by decide) (by omega) (by omega) (fun c27 => ?_) (fun c27 => ?_) | refine V_icmp_ge 45 dX2_costOfAll_27 (by decide) (fun c27 => ?_) (fun c27 => ?_)
    · obtain rfl : j = m := by omega
      exact K
    · refine V_iload1 dX2_costOfAll_30 ?_
      refine V_aload0 dX2_costOfAll_31 ?_
      refine V_iload4 dX2_costOfAll_32 ?_
      refine kX2_89 (m_X2_price _ _ pr hpr _ (by first | assumption | omega)) (rOK_d (by decide) (by decide)) (Nat.le_of_ble_eq_true rfl) dX2_costOfAll_34 (fun r34 h34 hq34 => ?_)
      obtain ⟨e_, rfl⟩ := hq34
      replace e_ := e_.symm
      subst e_
      first | refine V_iadd_n dX2_costOfAll_37 ?_ | refine V_iadd dX2_costOfAll_37 ?_
      refine V_istore1 dX2_costOfAll_38 (by decide) rfl ?_
      first | refine V_iinc4_n 1 dX2_costOfAll_39 (by decide) (by decide) rfl ?_ | refine V_iinc4 (nI 1) dX2_costOfAll_39 (by decide) (by decide) rfl ?_
      refine V_goto 24 dX2_costOfAll_42 (by decide) ?_
      rw [Nat.add_assoc, ← fb_sm_succ]
      exact ih _ (by omega) (j + 1) (by omega) rfl
set_option maxRecDepth 4000 in
theorem l_X2_costOfAll (G : GE) (h : Mem) (M : Nat → Nat) (hM : hasM M h) (pr : Nat → Nat) (hpr : hasP pr h) (side : Nat) (hs : side ≤ 200) (v3 v4 : OV) (hv : okc v3 = true) : V idsA G RX2 cX2_costOfAll 5 (some .int) (rmD 2) 4 [some (.ref (ad G 4)), some (.int (nI (fb_sm (fun s => fb_sm pr (popc (M s))) side))), some (.int (nI side)), v3, v4] [] h (Qi (fun r h' => h' = h ∧ r = nI (fb_sm (fun s => fb_sm pr (popc (M s))) 200))) := by
  induction hn : 200 - side using Nat.strongRecOn generalizing side v3 v4 with
  | _ n ih =>
    subst hn
    refine V_iload2 dX2_costOfAll_4 ?_
    refine V_sipush (nI 200) dX2_costOfAll_5 (by decide) ?_
    first | refine V_icmp_ge_n 51 dX2_costOfAll_8 (by decide) (by omega) (by omega) (fun c8 => ?_) (fun c8 => ?_) | refine V_icmp_ge 51 dX2_costOfAll_8 (by decide) (fun c8 => ?_) (fun c8 => ?_)
    · refine V_iload1 dX2_costOfAll_51 ?_
      refine V_ireti dX2_costOfAll_52 ?_
      obtain rfl : side = 200 := by omega
      exact ⟨rfl, rfl⟩
    · refine V_aload0 dX2_costOfAll_11 ?_
      refine gX2_19 dX2_costOfAll_12 ?_
      refine V_iload2 dX2_costOfAll_15 ?_
      refine V_iaload (by decide) aI_10 (by decide) rfl (by first | assumption | omega) dX2_costOfAll_16 ?_
      rw [hM.1 side (by omega)]
      have hlt := hM.2 side
      have hpl := popc_le (M side)
      refine kX2_49 (m_J6_bitCount_0f7a4 _ _ _ (by first | assumption | omega | exact hM.2 _ | exact lfM_lt hM.2 _ _ | exact and_lt12 (lfM_lt hM.2 _ _))) (rOK_d (by decide) (by decide)) (Nat.le_of_ble_eq_true rfl) dX2_costOfAll_17 (fun r17 h17 hq17 => ?_)
      obtain ⟨e_, rfl⟩ := hq17
      replace e_ := e_.symm
      subst e_
      refine V_istore3 dX2_costOfAll_20 (by decide) rfl ?_
      refine V_iconst (nI 0) dX2_costOfAll_21 (by decide) ?_
      refine V_istore4 dX2_costOfAll_22 (by decide) rfl ?_
      refine l_X2_costOfAll_in G h pr hpr _ (fb_sm (fun s => fb_sm pr (popc (M s))) side) (popc (M side)) hpl side 0 (by omega) ?_
      rw [show fb_sm (fun s => fb_sm pr (popc (M s))) side + fb_sm pr (popc (M side)) = fb_sm (fun s => fb_sm pr (popc (M s))) (side + 1) from rfl]
      first | refine V_iinc2_n 1 dX2_costOfAll_45 (by decide) (by decide) rfl ?_ | refine V_iinc2 (nI 1) dX2_costOfAll_45 (by decide) (by decide) rfl ?_
      refine V_goto 4 dX2_costOfAll_48 (by decide) ?_
      exact ih _ (by omega) (side + 1) (by omega) _ _ rfl rfl
set_option maxRecDepth 4000 in
theorem m_X2_costOfAll (G : GE) (h : Mem) (M : Nat → Nat) (hM : hasM M h) (pr : Nat → Nat) (hpr : hasP pr h) : Ct idsA G yX2_costOfAll cX2_costOfAll 5 (some .int) (rmD 2) [.ref (ad G 4)] h (Qi fun r h' => h' = h ∧ r = nI (fb_sm (fun s => fb_sm pr (popc (M s))) 200)) := by
  refine Ct.of [some (.ref (ad G 4)), none, none, none, none] (by decide) (Nat.le_of_ble_eq_true rfl) (lvE_ok 4 rfl) ?_
  refine V_iconst (nI 0) dX2_costOfAll_0 (by decide) ?_
  refine V_istore1 dX2_costOfAll_1 (by decide) rfl ?_
  refine V_iconst (nI 0) dX2_costOfAll_2 (by decide) ?_
  refine V_istore2 dX2_costOfAll_3 (by decide) rfl ?_
  exact l_X2_costOfAll G h M hM pr hpr 0 (by decide) _ _ rfl
def mxW (M : Nat → Nat) : Nat → Nat
  | 0 => 0
  | n + 1 => max (mxW M n) (popc (M n))
theorem mxW_le (M : Nat → Nat) : ∀ n, mxW M n ≤ 12
  | 0 => Nat.zero_le _
  | n + 1 => Nat.max_le.mpr ⟨mxW_le M n, popc_le _⟩
set_option maxRecDepth 4000 in
theorem l_X2_greatestWidth (G : GE) (h : Mem) (M : Nat → Nat) (hM : hasM M h) (side : Nat) (hs : side ≤ 200) : V idsA G RX2 cX2_greatestWidth 3 (some .int) (rmD 1) 4 [some (.ref (ad G 4)), some (.int (nI (mxW M side))), some (.int (nI side))] [] h (Qi (fun r h' => h' = h ∧ r = nI (mxW M 200))) := by
  induction hn : 200 - side using Nat.strongRecOn generalizing side with
  | _ n ih =>
    subst hn
    refine V_iload2 dX2_greatestWidth_4 ?_
    refine V_sipush (nI 200) dX2_greatestWidth_5 (by decide) ?_
    first | refine V_icmp_ge_n 31 dX2_greatestWidth_8 (by decide) (by omega) (by omega) (fun c8 => ?_) (fun c8 => ?_) | refine V_icmp_ge 31 dX2_greatestWidth_8 (by decide) (fun c8 => ?_) (fun c8 => ?_)
    · refine V_iload1 dX2_greatestWidth_31 ?_
      refine V_ireti dX2_greatestWidth_32 ?_
      obtain rfl : side = 200 := by omega
      exact ⟨rfl, rfl⟩
    · refine V_iload1 dX2_greatestWidth_11 ?_
      refine V_aload0 dX2_greatestWidth_12 ?_
      refine gX2_19 dX2_greatestWidth_13 ?_
      refine V_iload2 dX2_greatestWidth_16 ?_
      refine V_iaload (by decide) aI_10 (by decide) rfl (by first | assumption | omega) dX2_greatestWidth_17 ?_
      rw [hM.1 side (by omega)]
      have hlt := hM.2 side
      refine kX2_49 (m_J6_bitCount_0f7a4 _ _ _ (by first | assumption | omega | exact hM.2 _ | exact lfM_lt hM.2 _ _ | exact and_lt12 (lfM_lt hM.2 _ _))) (rOK_d (by decide) (by decide)) (Nat.le_of_ble_eq_true rfl) dX2_greatestWidth_18 (fun r18 h18 hq18 => ?_)
      obtain ⟨e_, rfl⟩ := hq18
      replace e_ := e_.symm
      subst e_
      refine kX2_33 (by decide) (Nat.le_of_ble_eq_true rfl) dX2_greatestWidth_21 ?_
      have hpl := popc_le (M side)
      have hml := mxW_le M side
      rw [nI_max (by omega) (by omega), show max (mxW M side) (popc (M side)) = mxW M (side + 1) from rfl]
      refine V_istore1 dX2_greatestWidth_24 (by decide) rfl ?_
      first | refine V_iinc2_n 1 dX2_greatestWidth_25 (by decide) (by decide) rfl ?_ | refine V_iinc2 (nI 1) dX2_greatestWidth_25 (by decide) (by decide) rfl ?_
      refine V_goto 4 dX2_greatestWidth_28 (by decide) ?_
      exact ih _ (by omega) (side + 1) (by omega) rfl
set_option maxRecDepth 4000 in
theorem m_X2_greatestWidth (G : GE) (h : Mem) (M : Nat → Nat) (hM : hasM M h) : Ct idsA G yX2_greatestWidth cX2_greatestWidth 3 (some .int) (rmD 1) [.ref (ad G 4)] h (Qi fun r h' => h' = h ∧ r = nI (mxW M 200)) := by
  refine Ct.of [some (.ref (ad G 4)), none, none] (by decide) (Nat.le_of_ble_eq_true rfl) (lvE_ok 2 rfl) ?_
  refine V_iconst (nI 0) dX2_greatestWidth_0 (by decide) ?_
  refine V_istore1 dX2_greatestWidth_1 (by decide) rfl ?_
  refine V_iconst (nI 0) dX2_greatestWidth_2 (by decide) ?_
  refine V_istore2 dX2_greatestWidth_3 (by decide) rfl ?_
  exact l_X2_greatestWidth G h M hM 0 (by decide)
def fkB (M : Nat → Nat) (p d e : Nat) : Bool := decide (¬ lfM M p d &&& lfM M p e = 0 ∧ ¬ lfM M p d &&& lfM M p e = lfM M p d)
def forkB (M : Nat → Nat) (p : Nat) : Bool := (List.range 4).any (fun d => (List.range 4).any (fun e => fkB M p d e))
theorem forkB_t {M : Nat → Nat} {p d e : Nat} (hd : d < 4) (he : e < 4) (h : fkB M p d e = true) : forkB M p = true := List.any_eq_true.mpr ⟨d, List.mem_range.mpr hd, List.any_eq_true.mpr ⟨e, List.mem_range.mpr he, h⟩⟩
theorem forkB_f {M : Nat → Nat} {p : Nat} (h : ∀ d, d < 4 → ∀ e, e < 4 → fkB M p d e = false) : forkB M p = false := by
  rw [forkB, List.any_eq_false]
  intro d hd
  rw [Bool.not_eq_true, List.any_eq_false]
  intro e he
  rw [h d (List.mem_range.mp hd) e (List.mem_range.mp he)]
  decide
set_option maxRecDepth 4000 in
theorem l_X2_isFork_in (G : GE) (h : Mem) (M : Nat → Nat) (hM : hasM M h) (p d e : Nat) (hp : p < 100) (hd : d < 4) (he : e ≤ 4) (hno : ∀ e', e' < e → fkB M p d e' = false) (v5 : OV) (K : (∀ e', e' < 4 → fkB M p d e' = false) → ∀ v5, V idsA G RX2 cX2_isFork 6 (some .boolean) (rmD 3) 53 [some (.ref (ad G 4)), some (.int (nI p)), some (.int (nI d)), some (.int (nI (lfM M p d))), some (.int (nI 4)), v5] [] h (Qi (fun r h' => h' = h ∧ r = bz (forkB M p = true)))) : V idsA G RX2 cX2_isFork 6 (some .boolean) (rmD 3) 17 [some (.ref (ad G 4)), some (.int (nI p)), some (.int (nI d)), some (.int (nI (lfM M p d))), some (.int (nI e)), v5] [] h (Qi (fun r h' => h' = h ∧ r = bz (forkB M p = true))) := by
  induction hn : 4 - e using Nat.strongRecOn generalizing e v5 with
  | _ n ih =>
    subst hn
    refine V_iload4 dX2_isFork_17 ?_
    refine V_iconst (nI 4) dX2_isFork_19 (by decide) ?_
    first | refine V_icmp_ge_n 53 dX2_isFork_20 (by decide) (by omega) (by omega) (fun c20 => ?_) (fun c20 => ?_) | refine V_icmp_ge 53 dX2_isFork_20 (by decide) (fun c20 => ?_) (fun c20 => ?_)
    · obtain rfl : e = 4 := by omega
      exact K hno _
    · refine V_iload3 dX2_isFork_23 ?_
      refine V_aload0 dX2_isFork_24 ?_
      refine V_iload1 dX2_isFork_25 ?_
      refine V_iload4 dX2_isFork_26 ?_
      refine kX2_46 (m_X2_linesFrom _ _ M hM _ _ (by first | assumption | omega) (by first | assumption | omega)) (rOK_d (by decide) (by decide)) (Nat.le_of_ble_eq_true rfl) dX2_isFork_28 (fun r28 h28 hq28 => ?_)
      obtain ⟨e_, rfl⟩ := hq28
      replace e_ := e_.symm
      subst e_
      first | refine V_iand_n dX2_isFork_31 ?_ | refine V_iand dX2_isFork_31 ?_
      have hl1 := lfM_lt hM.2 p d
      have hl2 : lfM M p d &&& lfM M p e < 4096 := and_lt12 hl1
      refine V_istore5 dX2_isFork_32 (by decide) rfl ?_
      refine V_iload5 dX2_isFork_34 ?_
      first | refine V_if_eq_z 47 dX2_isFork_36 (by decide) (fun c36 => ?_) (fun c36 => ?_) | refine V_if_eq_n 47 dX2_isFork_36 (by decide) (by omega) (fun c36 => ?_) (fun c36 => ?_) | refine V_if_eq 47 dX2_isFork_36 (by decide) (fun c36 => ?_) (fun c36 => ?_)
      · first | refine V_iinc4_n 1 dX2_isFork_47 (by decide) (by decide) rfl ?_ | refine V_iinc4 (nI 1) dX2_isFork_47 (by decide) (by decide) rfl ?_
        refine V_goto 17 dX2_isFork_50 (by decide) ?_
        exact ih _ (by omega) (e + 1) (by omega) (lt_s hno (decide_eq_false (fun z => by first | exact z.2 c42 | exact z.1 c36))) _ rfl
      · refine V_iload5 dX2_isFork_39 ?_
        refine V_iload3 dX2_isFork_41 ?_
        first | refine V_icmp_eq_n 47 dX2_isFork_42 (by decide) (by omega) (by omega) (fun c42 => ?_) (fun c42 => ?_) | refine V_icmp_eq 47 dX2_isFork_42 (by decide) (fun c42 => ?_) (fun c42 => ?_)
        · first | refine V_iinc4_n 1 dX2_isFork_47 (by decide) (by decide) rfl ?_ | refine V_iinc4 (nI 1) dX2_isFork_47 (by decide) (by decide) rfl ?_
          refine V_goto 17 dX2_isFork_50 (by decide) ?_
          exact ih _ (by omega) (e + 1) (by omega) (lt_s hno (decide_eq_false (fun z => by first | exact z.2 c42 | exact z.1 c36))) _ rfl
        · refine V_iconst (nI 1) dX2_isFork_45 (by decide) ?_
          refine V_zreti dX2_isFork_46 (by first | exact bz_01 | exact nI_01 (Or.inl rfl) | exact nI_01 (Or.inr rfl) | assumption) ?_
          exact ⟨rfl, bz_r1 (forkB_t hd (by omega) (decide_eq_true ⟨c36, c42⟩))⟩
set_option maxRecDepth 4000 in
theorem l_X2_isFork (G : GE) (h : Mem) (M : Nat → Nat) (hM : hasM M h) (p d : Nat) (hp : p < 100) (hd : d ≤ 4) (hno : ∀ d', d' < d → ∀ e, e < 4 → fkB M p d' e = false) (v3 v4 v5 : OV) (hv : okc v3 = true) : V idsA G RX2 cX2_isFork 6 (some .boolean) (rmD 3) 2 [some (.ref (ad G 4)), some (.int (nI p)), some (.int (nI d)), v3, v4, v5] [] h (Qi (fun r h' => h' = h ∧ r = bz (forkB M p = true))) := by
  induction hn : 4 - d using Nat.strongRecOn generalizing d v3 v4 v5 with
  | _ n ih =>
    subst hn
    refine V_iload2 dX2_isFork_2 ?_
    refine V_iconst (nI 4) dX2_isFork_3 (by decide) ?_
    first | refine V_icmp_ge_n 59 dX2_isFork_4 (by decide) (by omega) (by omega) (fun c4 => ?_) (fun c4 => ?_) | refine V_icmp_ge 59 dX2_isFork_4 (by decide) (fun c4 => ?_) (fun c4 => ?_)
    · refine V_iconst (nI 0) dX2_isFork_59 (by decide) ?_
      refine V_zreti dX2_isFork_60 (by first | exact bz_01 | exact nI_01 (Or.inl rfl) | exact nI_01 (Or.inr rfl) | assumption) ?_
      obtain rfl : d = 4 := by omega
      exact ⟨rfl, bz_r0 (by rw [forkB_f hno]; decide)⟩
    · refine V_aload0 dX2_isFork_7 ?_
      refine V_iload1 dX2_isFork_8 ?_
      refine V_iload2 dX2_isFork_9 ?_
      refine kX2_46 (m_X2_linesFrom _ _ M hM _ _ (by first | assumption | omega) (by first | assumption | omega)) (rOK_d (by decide) (by decide)) (Nat.le_of_ble_eq_true rfl) dX2_isFork_10 (fun r10 h10 hq10 => ?_)
      obtain ⟨e_, rfl⟩ := hq10
      replace e_ := e_.symm
      subst e_
      refine V_istore3 dX2_isFork_13 (by decide) rfl ?_
      refine V_iconst (nI 0) dX2_isFork_14 (by decide) ?_
      refine V_istore4 dX2_isFork_15 (by decide) rfl ?_
      refine l_X2_isFork_in G h M hM p d 0 hp (by omega) (by omega) (fun _ z => absurd z (Nat.not_lt_zero _)) _ (fun hno2 v5 => ?_)
      first | refine V_iinc2_n 1 dX2_isFork_53 (by decide) (by decide) rfl ?_ | refine V_iinc2 (nI 1) dX2_isFork_53 (by decide) (by decide) rfl ?_
      refine V_goto 2 dX2_isFork_56 (by decide) ?_
      exact ih _ (by omega) (d + 1) (by omega) (lt_s hno hno2) _ _ _ rfl rfl
set_option maxRecDepth 4000 in
theorem m_X2_isFork (G : GE) (h : Mem) (M : Nat → Nat) (hM : hasM M h) (p : Nat) (hp : p < 100) : Ct idsA G yX2_isFork cX2_isFork 6 (some .boolean) (rmD 3) [.ref (ad G 4), .int (nI p)] h (Qi fun r h' => h' = h ∧ r = bz (forkB M p = true)) := by
  refine Ct.of [some (.ref (ad G 4)), some (.int (nI p)), none, none, none, none] (by decide) (Nat.le_of_ble_eq_true rfl) (lvE_ok 4 rfl) ?_
  refine V_iconst (nI 0) dX2_isFork_0 (by decide) ?_
  refine V_istore2 dX2_isFork_1 (by decide) rfl ?_
  exact l_X2_isFork G h M hM p 0 hp (by decide) (fun _ z => absurd z (Nat.not_lt_zero _)) _ _ _ rfl
set_option maxRecDepth 4000 in
theorem l_X2_forks (G : GE) (h : Mem) (M : Nat → Nat) (hM : hasM M h) (side : Nat) (hs : side ≤ 100) : V idsA G RX2 cX2_forks 3 (some .int) (rmD 4) 4 [some (.ref (ad G 4)), some (.int (nI (fb_ct (forkB M) side))), some (.int (nI side))] [] h (Qi (fun r h' => h' = h ∧ r = nI (fb_ct (forkB M) 100))) := by
  induction hn : 100 - side using Nat.strongRecOn generalizing side with
  | _ n ih =>
    subst hn
    refine V_iload2 dX2_forks_4 ?_
    refine V_bipush (nI 100) dX2_forks_5 (by decide) ?_
    first | refine V_icmp_ge_n 27 dX2_forks_7 (by decide) (by omega) (by omega) (fun c7 => ?_) (fun c7 => ?_) | refine V_icmp_ge 27 dX2_forks_7 (by decide) (fun c7 => ?_) (fun c7 => ?_)
    · refine V_iload1 dX2_forks_27 ?_
      refine V_ireti dX2_forks_28 ?_
      obtain rfl : side = 100 := by omega
      exact ⟨rfl, rfl⟩
    · refine V_aload0 dX2_forks_10 ?_
      refine V_iload2 dX2_forks_11 ?_
      refine kX2_100 (m_X2_isFork _ _ M hM _ (by first | assumption | omega)) (rOK_d (by decide) (by decide)) (Nat.le_of_ble_eq_true rfl) dX2_forks_12 (fun r12 h12 hq12 => ?_)
      obtain ⟨e_, rfl⟩ := hq12
      replace e_ := e_.symm
      subst e_
      first | refine V_if_eq_z 21 dX2_forks_15 (by decide) (fun c15 => ?_) (fun c15 => ?_) | refine V_if_eq_n 21 dX2_forks_15 (by decide) (by omega) (fun c15 => ?_) (fun c15 => ?_) | refine V_if_eq 21 dX2_forks_15 (by decide) (fun c15 => ?_) (fun c15 => ?_)
      · first | refine V_iinc2_n 1 dX2_forks_21 (by decide) (by decide) rfl ?_ | refine V_iinc2 (nI 1) dX2_forks_21 (by decide) (by decide) rfl ?_
        refine V_goto 4 dX2_forks_24 (by decide) ?_
        first | rw [ct_t (p := (forkB M)) (n := side) c15] | rw [ct_f (p := (forkB M)) (n := side) (Bool.eq_false_iff.mpr c15)]
        exact ih _ (by omega) (side + 1) (by omega) rfl
      · first | refine V_iinc1_n 1 dX2_forks_18 (by decide) (by decide) rfl ?_ | refine V_iinc1 (nI 1) dX2_forks_18 (by decide) (by decide) rfl ?_
        first | refine V_iinc2_n 1 dX2_forks_21 (by decide) (by decide) rfl ?_ | refine V_iinc2 (nI 1) dX2_forks_21 (by decide) (by decide) rfl ?_
        refine V_goto 4 dX2_forks_24 (by decide) ?_
        first | rw [ct_t (p := (forkB M)) (n := side) c15] | rw [ct_f (p := (forkB M)) (n := side) (Bool.eq_false_iff.mpr c15)]
        exact ih _ (by omega) (side + 1) (by omega) rfl
set_option maxRecDepth 4000 in
theorem m_X2_forks (G : GE) (h : Mem) (M : Nat → Nat) (hM : hasM M h) : Ct idsA G yX2_forks cX2_forks 3 (some .int) (rmD 4) [.ref (ad G 4)] h (Qi fun r h' => h' = h ∧ r = nI (fb_ct (forkB M) 100)) := by
  refine Ct.of [some (.ref (ad G 4)), none, none] (by decide) (Nat.le_of_ble_eq_true rfl) (lvE_ok 2 rfl) ?_
  refine V_iconst (nI 0) dX2_forks_0 (by decide) ?_
  refine V_istore1 dX2_forks_1 (by decide) rfl ?_
  refine V_iconst (nI 0) dX2_forks_2 (by decide) ?_
  refine V_istore2 dX2_forks_3 (by decide) rfl ?_
  exact l_X2_forks G h M hM 0 (by decide)
set_option maxRecDepth 4000 in
theorem l_X2_crossings (G : GE) (h : Mem) (M : Nat → Nat) (hM : hasM M h) (side : Nat) (hs : side ≤ 100) (v3 v4 : OV) (hv : okc v3 = true) : V idsA G RX2 cX2_crossings 5 (some .int) (rmD 3) 4 [some (.ref (ad G 4)), some (.int (nI (fb_sm (fun p => popc (lfM M p 0 &&& lfM M p 2) * popc (lfM M p 1 &&& lfM M p 3)) side))), some (.int (nI side)), v3, v4] [] h (Qi (fun r h' => h' = h ∧ r = nI (fb_sm (fun p => popc (lfM M p 0 &&& lfM M p 2) * popc (lfM M p 1 &&& lfM M p 3)) 100))) := by
  induction hn : 100 - side using Nat.strongRecOn generalizing side v3 v4 with
  | _ n ih =>
    subst hn
    refine V_iload2 dX2_crossings_4 ?_
    refine V_bipush (nI 100) dX2_crossings_5 (by decide) ?_
    first | refine V_icmp_ge_n 58 dX2_crossings_7 (by decide) (by omega) (by omega) (fun c7 => ?_) (fun c7 => ?_) | refine V_icmp_ge 58 dX2_crossings_7 (by decide) (fun c7 => ?_) (fun c7 => ?_)
    · refine V_iload1 dX2_crossings_58 ?_
      refine V_ireti dX2_crossings_59 ?_
      obtain rfl : side = 100 := by omega
      exact ⟨rfl, rfl⟩
    · refine V_aload0 dX2_crossings_10 ?_
      refine V_iload2 dX2_crossings_11 ?_
      refine V_iconst (nI 0) dX2_crossings_12 (by decide) ?_
      refine kX2_46 (m_X2_linesFrom _ _ M hM _ _ (by first | assumption | omega) (by first | assumption | omega)) (rOK_d (by decide) (by decide)) (Nat.le_of_ble_eq_true rfl) dX2_crossings_13 (fun r13 h13 hq13 => ?_)
      obtain ⟨e_, rfl⟩ := hq13
      replace e_ := e_.symm
      subst e_
      refine V_aload0 dX2_crossings_16 ?_
      refine V_iload2 dX2_crossings_17 ?_
      refine V_iconst (nI 2) dX2_crossings_18 (by decide) ?_
      refine kX2_46 (m_X2_linesFrom _ _ M hM _ _ (by first | assumption | omega) (by first | assumption | omega)) (rOK_d (by decide) (by decide)) (Nat.le_of_ble_eq_true rfl) dX2_crossings_19 (fun r19 h19 hq19 => ?_)
      obtain ⟨e_, rfl⟩ := hq19
      replace e_ := e_.symm
      subst e_
      first | refine V_iand_n dX2_crossings_22 ?_ | refine V_iand dX2_crossings_22 ?_
      refine V_istore3 dX2_crossings_23 (by decide) rfl ?_
      refine V_aload0 dX2_crossings_24 ?_
      refine V_iload2 dX2_crossings_25 ?_
      refine V_iconst (nI 1) dX2_crossings_26 (by decide) ?_
      refine kX2_46 (m_X2_linesFrom _ _ M hM _ _ (by first | assumption | omega) (by first | assumption | omega)) (rOK_d (by decide) (by decide)) (Nat.le_of_ble_eq_true rfl) dX2_crossings_27 (fun r27 h27 hq27 => ?_)
      obtain ⟨e_, rfl⟩ := hq27
      replace e_ := e_.symm
      subst e_
      refine V_aload0 dX2_crossings_30 ?_
      refine V_iload2 dX2_crossings_31 ?_
      refine V_iconst (nI 3) dX2_crossings_32 (by decide) ?_
      refine kX2_46 (m_X2_linesFrom _ _ M hM _ _ (by first | assumption | omega) (by first | assumption | omega)) (rOK_d (by decide) (by decide)) (Nat.le_of_ble_eq_true rfl) dX2_crossings_33 (fun r33 h33 hq33 => ?_)
      obtain ⟨e_, rfl⟩ := hq33
      replace e_ := e_.symm
      subst e_
      first | refine V_iand_n dX2_crossings_36 ?_ | refine V_iand dX2_crossings_36 ?_
      refine V_istore4 dX2_crossings_37 (by decide) rfl ?_
      refine V_iload1 dX2_crossings_39 ?_
      refine V_iload3 dX2_crossings_40 ?_
      refine kX2_49 (m_J6_bitCount_0f7a4 _ _ _ (by first | assumption | omega | exact hM.2 _ | exact lfM_lt hM.2 _ _ | exact and_lt12 (lfM_lt hM.2 _ _))) (rOK_d (by decide) (by decide)) (Nat.le_of_ble_eq_true rfl) dX2_crossings_41 (fun r41 h41 hq41 => ?_)
      obtain ⟨e_, rfl⟩ := hq41
      replace e_ := e_.symm
      subst e_
      refine V_iload4 dX2_crossings_44 ?_
      refine kX2_49 (m_J6_bitCount_0f7a4 _ _ _ (by first | assumption | omega | exact hM.2 _ | exact lfM_lt hM.2 _ _ | exact and_lt12 (lfM_lt hM.2 _ _))) (rOK_d (by decide) (by decide)) (Nat.le_of_ble_eq_true rfl) dX2_crossings_46 (fun r46 h46 hq46 => ?_)
      obtain ⟨e_, rfl⟩ := hq46
      replace e_ := e_.symm
      subst e_
      first | refine V_imul_n dX2_crossings_49 ?_ | refine V_imul dX2_crossings_49 ?_
      first | refine V_iadd_n dX2_crossings_50 ?_ | refine V_iadd dX2_crossings_50 ?_
      refine V_istore1 dX2_crossings_51 (by decide) rfl ?_
      first | refine V_iinc2_n 1 dX2_crossings_52 (by decide) (by decide) rfl ?_ | refine V_iinc2 (nI 1) dX2_crossings_52 (by decide) (by decide) rfl ?_
      refine V_goto 4 dX2_crossings_55 (by decide) ?_
      exact ih _ (by omega) (side + 1) (by omega) _ _ rfl rfl
set_option maxRecDepth 4000 in
theorem m_X2_crossings (G : GE) (h : Mem) (M : Nat → Nat) (hM : hasM M h) : Ct idsA G yX2_crossings cX2_crossings 5 (some .int) (rmD 3) [.ref (ad G 4)] h (Qi fun r h' => h' = h ∧ r = nI (fb_sm (fun p => popc (lfM M p 0 &&& lfM M p 2) * popc (lfM M p 1 &&& lfM M p 3)) 100)) := by
  refine Ct.of [some (.ref (ad G 4)), none, none, none, none] (by decide) (Nat.le_of_ble_eq_true rfl) (lvE_ok 4 rfl) ?_
  refine V_iconst (nI 0) dX2_crossings_0 (by decide) ?_
  refine V_istore1 dX2_crossings_1 (by decide) rfl ?_
  refine V_iconst (nI 0) dX2_crossings_2 (by decide) ?_
  refine V_istore2 dX2_crossings_3 (by decide) rfl ?_
  exact l_X2_crossings G h M hM 0 (by decide) _ _ rfl
def onw (M : Nat → Nat) (p d : Nat) : Int32 := if ¬ lfM M p d = 0 then nI d else if ¬ lfM M p ((d + 1) % 4) = 0 then nI ((d + 1) % 4) else if ¬ lfM M p ((d + 3) % 4) = 0 then nI ((d + 3) % 4) else -1
set_option maxRecDepth 4000 in
theorem m_X2_onward (G : GE) (h : Mem) (M : Nat → Nat) (hM : hasM M h) (p d : Nat) (hp : p < 100) (hd : d < 4) : Ct idsA G yX2_onward cX2_onward 5 (some .int) (rmD 3) [.ref (ad G 4), .int (nI p), .int (nI d)] h (Qi fun r h' => h' = h ∧ r = onw M p d) := by
  refine Ct.of [some (.ref (ad G 4)), some (.int (nI p)), some (.int (nI d)), none, none] (by decide) (Nat.le_of_ble_eq_true rfl) (lvE_ok 2 rfl) ?_
  have := lfM_lt hM.2 p d
  have := lfM_lt hM.2 p ((d + 1) % 4)
  have := lfM_lt hM.2 p ((d + 3) % 4)
  refine V_iload2 dX2_onward_0 ?_
  refine V_iconst (nI 1) dX2_onward_1 (by decide) ?_
  first | refine V_iadd_n dX2_onward_2 ?_ | refine V_iadd dX2_onward_2 ?_
  refine V_iconst (nI 4) dX2_onward_3 (by decide) ?_
  first | refine V_irem_n dX2_onward_4 (by omega) (by omega) (by omega) ?_ | refine V_irem dX2_onward_4 (by decide) ?_
  refine V_istore3 dX2_onward_5 (by decide) rfl ?_
  refine V_iload2 dX2_onward_6 ?_
  refine V_iconst (nI 3) dX2_onward_7 (by decide) ?_
  first | refine V_iadd_n dX2_onward_8 ?_ | refine V_iadd dX2_onward_8 ?_
  refine V_iconst (nI 4) dX2_onward_9 (by decide) ?_
  first | refine V_irem_n dX2_onward_10 (by omega) (by omega) (by omega) ?_ | refine V_irem dX2_onward_10 (by decide) ?_
  refine V_istore4 dX2_onward_11 (by decide) rfl ?_
  refine V_aload0 dX2_onward_13 ?_
  refine V_iload1 dX2_onward_14 ?_
  refine V_iload2 dX2_onward_15 ?_
  refine kX2_46 (m_X2_linesFrom _ _ M hM _ _ (by first | assumption | omega) (by first | assumption | omega)) (rOK_d (by decide) (by decide)) (Nat.le_of_ble_eq_true rfl) dX2_onward_16 (fun r16 h16 hq16 => ?_)
  obtain ⟨e_, rfl⟩ := hq16
  replace e_ := e_.symm
  subst e_
  first | refine V_if_eq_z 24 dX2_onward_19 (by decide) (fun c19 => ?_) (fun c19 => ?_) | refine V_if_eq_n 24 dX2_onward_19 (by decide) (by omega) (fun c19 => ?_) (fun c19 => ?_) | refine V_if_eq 24 dX2_onward_19 (by decide) (fun c19 => ?_) (fun c19 => ?_)
  · refine V_aload0 dX2_onward_24 ?_
    refine V_iload1 dX2_onward_25 ?_
    refine V_iload3 dX2_onward_26 ?_
    refine kX2_46 (m_X2_linesFrom _ _ M hM _ _ (by first | assumption | omega) (by first | assumption | omega)) (rOK_d (by decide) (by decide)) (Nat.le_of_ble_eq_true rfl) dX2_onward_27 (fun r27 h27 hq27 => ?_)
    obtain ⟨e_, rfl⟩ := hq27
    replace e_ := e_.symm
    subst e_
    first | refine V_if_eq_z 35 dX2_onward_30 (by decide) (fun c30 => ?_) (fun c30 => ?_) | refine V_if_eq_n 35 dX2_onward_30 (by decide) (by omega) (fun c30 => ?_) (fun c30 => ?_) | refine V_if_eq 35 dX2_onward_30 (by decide) (fun c30 => ?_) (fun c30 => ?_)
    · refine V_aload0 dX2_onward_35 ?_
      refine V_iload1 dX2_onward_36 ?_
      refine V_iload4 dX2_onward_37 ?_
      refine kX2_46 (m_X2_linesFrom _ _ M hM _ _ (by first | assumption | omega) (by first | assumption | omega)) (rOK_d (by decide) (by decide)) (Nat.le_of_ble_eq_true rfl) dX2_onward_39 (fun r39 h39 hq39 => ?_)
      obtain ⟨e_, rfl⟩ := hq39
      replace e_ := e_.symm
      subst e_
      first | refine V_if_eq_z 50 dX2_onward_42 (by decide) (fun c42 => ?_) (fun c42 => ?_) | refine V_if_eq_n 50 dX2_onward_42 (by decide) (by omega) (fun c42 => ?_) (fun c42 => ?_) | refine V_if_eq 50 dX2_onward_42 (by decide) (fun c42 => ?_) (fun c42 => ?_)
      · refine V_iconst (-1) dX2_onward_50 (by decide) ?_
        refine V_ireti dX2_onward_51 ?_
        exact ⟨rfl, by simp only [onw]; first | rw [if_pos c19] | (rw [if_neg (fun z => z c19)]; first | rw [if_pos c30] | (rw [if_neg (fun z => z c30)]; first | rw [if_pos c42] | rw [if_neg (fun z => z c42)]))⟩
      · refine V_iload4 dX2_onward_45 ?_
        refine V_goto 51 dX2_onward_47 (by decide) ?_
        refine V_ireti dX2_onward_51 ?_
        exact ⟨rfl, by simp only [onw]; first | rw [if_pos c19] | (rw [if_neg (fun z => z c19)]; first | rw [if_pos c30] | (rw [if_neg (fun z => z c30)]; first | rw [if_pos c42] | rw [if_neg (fun z => z c42)]))⟩
    · refine V_iload3 dX2_onward_33 ?_
      refine V_ireti dX2_onward_34 ?_
      exact ⟨rfl, by simp only [onw]; first | rw [if_pos c19] | (rw [if_neg (fun z => z c19)]; first | rw [if_pos c30] | (rw [if_neg (fun z => z c30)]; first | rw [if_pos c42] | rw [if_neg (fun z => z c42)]))⟩
  · refine V_iload2 dX2_onward_22 ?_
    refine V_ireti dX2_onward_23 ?_
    exact ⟨rfl, by simp only [onw]; first | rw [if_pos c19] | (rw [if_neg (fun z => z c19)]; first | rw [if_pos c30] | (rw [if_neg (fun z => z c30)]; first | rw [if_pos c42] | rw [if_neg (fun z => z c42)]))⟩
set_option maxRecDepth 4000 in
theorem l_X2_shutPlaces (G : GE) (h : Mem) (sh : Nat → Bool) (hsh : ∀ p, p < 100 → h 8 p = bz (sh p = true)) (side : Nat) (hs : side ≤ 100) : V idsA G RX2 cX2_shutPlaces 3 (some .int) (rmD 1) 4 [some (.ref (ad G 4)), some (.int (nI (fb_ct sh side))), some (.int (nI side))] [] h (Qi (fun r h' => h' = h ∧ r = nI (fb_ct sh 100))) := by
  induction hn : 100 - side using Nat.strongRecOn generalizing side with
  | _ n ih =>
    subst hn
    refine V_iload2 dX2_shutPlaces_4 ?_
    refine V_bipush (nI 100) dX2_shutPlaces_5 (by decide) ?_
    first | refine V_icmp_ge_n 28 dX2_shutPlaces_7 (by decide) (by omega) (by omega) (fun c7 => ?_) (fun c7 => ?_) | refine V_icmp_ge 28 dX2_shutPlaces_7 (by decide) (fun c7 => ?_) (fun c7 => ?_)
    · refine V_iload1 dX2_shutPlaces_28 ?_
      refine V_ireti dX2_shutPlaces_29 ?_
      obtain rfl : side = 100 := by omega
      exact ⟨rfl, rfl⟩
    · refine V_aload0 dX2_shutPlaces_10 ?_
      refine gX2_9 dX2_shutPlaces_11 ?_
      refine V_iload2 dX2_shutPlaces_14 ?_
      refine V_baload (by decide) aZ_8 (by decide) rfl (by first | assumption | omega) dX2_shutPlaces_15 ?_
      rw [hsh side (by omega)]
      first | refine V_if_eq_z 22 dX2_shutPlaces_16 (by decide) (fun c16 => ?_) (fun c16 => ?_) | refine V_if_eq_n 22 dX2_shutPlaces_16 (by decide) (by omega) (fun c16 => ?_) (fun c16 => ?_) | refine V_if_eq 22 dX2_shutPlaces_16 (by decide) (fun c16 => ?_) (fun c16 => ?_)
      · first | refine V_iinc2_n 1 dX2_shutPlaces_22 (by decide) (by decide) rfl ?_ | refine V_iinc2 (nI 1) dX2_shutPlaces_22 (by decide) (by decide) rfl ?_
        refine V_goto 4 dX2_shutPlaces_25 (by decide) ?_
        first | rw [ct_t (p := sh) (n := side) c16] | rw [ct_f (p := sh) (n := side) (Bool.eq_false_iff.mpr c16)]
        exact ih _ (by omega) (side + 1) (by omega) rfl
      · first | refine V_iinc1_n 1 dX2_shutPlaces_19 (by decide) (by decide) rfl ?_ | refine V_iinc1 (nI 1) dX2_shutPlaces_19 (by decide) (by decide) rfl ?_
        first | refine V_iinc2_n 1 dX2_shutPlaces_22 (by decide) (by decide) rfl ?_ | refine V_iinc2 (nI 1) dX2_shutPlaces_22 (by decide) (by decide) rfl ?_
        refine V_goto 4 dX2_shutPlaces_25 (by decide) ?_
        first | rw [ct_t (p := sh) (n := side) c16] | rw [ct_f (p := sh) (n := side) (Bool.eq_false_iff.mpr c16)]
        exact ih _ (by omega) (side + 1) (by omega) rfl
set_option maxRecDepth 4000 in
theorem m_X2_shutPlaces (G : GE) (h : Mem) (sh : Nat → Bool) (hsh : ∀ p, p < 100 → h 8 p = bz (sh p = true)) : Ct idsA G yX2_shutPlaces cX2_shutPlaces 3 (some .int) (rmD 1) [.ref (ad G 4)] h (Qi fun r h' => h' = h ∧ r = nI (fb_ct sh 100)) := by
  refine Ct.of [some (.ref (ad G 4)), none, none] (by decide) (Nat.le_of_ble_eq_true rfl) (lvE_ok 2 rfl) ?_
  refine V_iconst (nI 0) dX2_shutPlaces_0 (by decide) ?_
  refine V_istore1 dX2_shutPlaces_1 (by decide) rfl ?_
  refine V_iconst (nI 0) dX2_shutPlaces_2 (by decide) ?_
  refine V_istore2 dX2_shutPlaces_3 (by decide) rfl ?_
  exact l_X2_shutPlaces G h sh hsh 0 (by decide)
def orL (M : Nat → Nat) (p : Nat) : Nat → Nat
  | 0 => 0
  | n + 1 => orL M p n ||| lfM M p n
theorem orL_lt {M : Nat → Nat} (hM : ∀ s, M s < 4096) (p : Nat) : ∀ n, orL M p n < 4096
  | 0 => (by decide : (0 : Nat) < 4096)
  | n + 1 => or_lt12 (orL_lt hM p n) (lfM_lt hM p n)
set_option maxRecDepth 4000 in
theorem l_X2_isGoneThrough (G : GE) (h : Mem) (M : Nat → Nat) (hM : hasM M h) (p d : Nat) (hp : p < 100) (hd : d ≤ 4) : V idsA G RX2 cX2_isGoneThrough 4 (some .boolean) (rmD 3) 4 [some (.ref (ad G 4)), some (.int (nI p)), some (.int (nI (orL M p d))), some (.int (nI d))] [] h (Qi (fun r h' => h' = h ∧ r = bz (¬ orL M p 4 = 0))) := by
  induction hn : 4 - d using Nat.strongRecOn generalizing d with
  | _ n ih =>
    subst hn
    refine V_iload3 dX2_isGoneThrough_4 ?_
    refine V_iconst (nI 4) dX2_isGoneThrough_5 (by decide) ?_
    first | refine V_icmp_ge_n 24 dX2_isGoneThrough_6 (by decide) (by omega) (by omega) (fun c6 => ?_) (fun c6 => ?_) | refine V_icmp_ge 24 dX2_isGoneThrough_6 (by decide) (fun c6 => ?_) (fun c6 => ?_)
    · refine V_iload2 dX2_isGoneThrough_24 ?_
      have hol := orL_lt hM.2 p d
      first | refine V_if_eq_z 32 dX2_isGoneThrough_25 (by decide) (fun c25 => ?_) (fun c25 => ?_) | refine V_if_eq_n 32 dX2_isGoneThrough_25 (by decide) (by omega) (fun c25 => ?_) (fun c25 => ?_) | refine V_if_eq 32 dX2_isGoneThrough_25 (by decide) (fun c25 => ?_) (fun c25 => ?_)
      · refine V_iconst (nI 0) dX2_isGoneThrough_32 (by decide) ?_
        refine V_zreti dX2_isGoneThrough_33 (by first | exact bz_01 | exact nI_01 (Or.inl rfl) | exact nI_01 (Or.inr rfl) | assumption) ?_
        obtain rfl : d = 4 := by omega
        exact ⟨rfl, by first | exact bz_r1 c25 | exact bz_r0 (fun z => z c25)⟩
      · refine V_iconst (nI 1) dX2_isGoneThrough_28 (by decide) ?_
        refine V_goto 33 dX2_isGoneThrough_29 (by decide) ?_
        refine V_zreti dX2_isGoneThrough_33 (by first | exact bz_01 | exact nI_01 (Or.inl rfl) | exact nI_01 (Or.inr rfl) | assumption) ?_
        obtain rfl : d = 4 := by omega
        exact ⟨rfl, by first | exact bz_r1 c25 | exact bz_r0 (fun z => z c25)⟩
    · refine V_iload2 dX2_isGoneThrough_9 ?_
      refine V_aload0 dX2_isGoneThrough_10 ?_
      refine V_iload1 dX2_isGoneThrough_11 ?_
      refine V_iload3 dX2_isGoneThrough_12 ?_
      refine kX2_46 (m_X2_linesFrom _ _ M hM _ _ (by first | assumption | omega) (by first | assumption | omega)) (rOK_d (by decide) (by decide)) (Nat.le_of_ble_eq_true rfl) dX2_isGoneThrough_13 (fun r13 h13 hq13 => ?_)
      obtain ⟨e_, rfl⟩ := hq13
      replace e_ := e_.symm
      subst e_
      first | refine V_ior_n dX2_isGoneThrough_16 ?_ | refine V_ior dX2_isGoneThrough_16 ?_
      refine V_istore2 dX2_isGoneThrough_17 (by decide) rfl ?_
      first | refine V_iinc3_n 1 dX2_isGoneThrough_18 (by decide) (by decide) rfl ?_ | refine V_iinc3 (nI 1) dX2_isGoneThrough_18 (by decide) (by decide) rfl ?_
      refine V_goto 4 dX2_isGoneThrough_21 (by decide) ?_
      exact ih _ (by omega) (d + 1) (by omega) rfl
set_option maxRecDepth 4000 in
theorem m_X2_isGoneThrough (G : GE) (h : Mem) (M : Nat → Nat) (hM : hasM M h) (p : Nat) (hp : p < 100) : Ct idsA G yX2_isGoneThrough cX2_isGoneThrough 4 (some .boolean) (rmD 3) [.ref (ad G 4), .int (nI p)] h (Qi fun r h' => h' = h ∧ r = bz (¬ orL M p 4 = 0)) := by
  refine Ct.of [some (.ref (ad G 4)), some (.int (nI p)), none, none] (by decide) (Nat.le_of_ble_eq_true rfl) (lvE_ok 2 rfl) ?_
  refine V_iconst (nI 0) dX2_isGoneThrough_0 (by decide) ?_
  refine V_istore2 dX2_isGoneThrough_1 (by decide) rfl ?_
  refine V_iconst (nI 0) dX2_isGoneThrough_2 (by decide) ?_
  refine V_istore3 dX2_isGoneThrough_3 (by decide) rfl ?_
  exact l_X2_isGoneThrough G h M hM p 0 hp (by decide)
