set_option maxRecDepth 4000 in
theorem m_X2_linesFrom (G : GE) (h : Mem) (M : Nat → Nat) (hM : hasM M h) (p d : Nat) (hp : p < 100) (hd : d < 4) : Ct idsA G yX2_linesFrom cX2_linesFrom 4 (some .int) (rmD 2) [.ref (ad G 4), .int (nI p), .int (nI d)] h (Qi fun r h' => h' = h ∧ r = nI (lfM M p d)) := by
  refine Ct.of [some (.ref (ad G 4)), some (.int (nI p)), some (.int (nI d)), none] (by decide) (Nat.le_of_ble_eq_true rfl) (lvE_ok 1 rfl) ?_
  refine V_iload1 dX2_linesFrom_0 ?_
  refine V_iload2 dX2_linesFrom_1 ?_
  refine kX2_39 (m_X5_beside _ _ _ _ (by first | assumption | omega) (by first | assumption | omega)) (rOK_d (by decide) (by decide)) (Nat.le_of_ble_eq_true rfl) dX2_linesFrom_2 (fun r2 h2 hq2 => ?_)
  obtain ⟨e_, rfl⟩ := hq2
  replace e_ := e_.symm
  subst e_
  cases e : nb p d with
  | none =>
    simp only [oI]
    refine V_istore3 dX2_linesFrom_5 (by decide) rfl ?_
    refine V_iload3 dX2_linesFrom_6 ?_
    first | refine V_if_ge_n 14 dX2_linesFrom_7 (by decide) (by omega) (fun c7 => ?_) (fun c7 => ?_) | refine V_if_ge 14 dX2_linesFrom_7 (by decide) (fun c7 => ?_) (fun c7 => ?_)
    · exact absurd c7 (by decide) --end
    · refine V_iconst (nI 0) dX2_linesFrom_10 (by decide) ?_
      refine V_goto 25 dX2_linesFrom_11 (by decide) ?_
      refine V_ireti dX2_linesFrom_25 ?_
      exact ⟨rfl, by simp [lfM, e]⟩
  | some q =>
    have hq := nb_lt hp e
    simp only [oI]
    refine V_istore3 dX2_linesFrom_5 (by decide) rfl ?_
    refine V_iload3 dX2_linesFrom_6 ?_
    first | refine V_if_ge_n 14 dX2_linesFrom_7 (by decide) (by omega) (fun c7 => ?_) (fun c7 => ?_) | refine V_if_ge 14 dX2_linesFrom_7 (by decide) (fun c7 => ?_) (fun c7 => ?_)
    · refine V_aload0 dX2_linesFrom_14 ?_
      refine gX2_19 dX2_linesFrom_15 ?_
      refine V_iload1 dX2_linesFrom_18 ?_
      refine V_iload3 dX2_linesFrom_19 ?_
      refine V_iload2 dX2_linesFrom_20 ?_
      refine kX2_42 (m_X5_sideBetween _ _ _ _ _ (by first | assumption | omega) (by first | assumption | omega) (by first | assumption | omega)) (rOK_d (by decide) (by decide)) (Nat.le_of_ble_eq_true rfl) dX2_linesFrom_21 (fun r21 h21 hq21 => ?_)
      obtain ⟨e_, rfl⟩ := hq21
      replace e_ := e_.symm
      subst e_
      refine V_iaload (by decide) aI_10 (by decide) rfl (sA_lt hp) dX2_linesFrom_24 ?_
      refine V_ireti dX2_linesFrom_25 ?_
      exact ⟨rfl, by simp [lfM, e]; exact hM.1 _ (sA_lt hp)⟩
    · exact c7.elim --end
set_option maxRecDepth 4000 in
theorem m_X2_widthFrom (G : GE) (h : Mem) (M : Nat → Nat) (hM : hasM M h) (p d : Nat) (hp : p < 100) (hd : d < 4) : Ct idsA G yX2_widthFrom cX2_widthFrom 3 (some .int) (rmD 3) [.ref (ad G 4), .int (nI p), .int (nI d)] h (Qi fun r h' => h' = h ∧ r = nI (popc (lfM M p d))) := by
  refine Ct.of [some (.ref (ad G 4)), some (.int (nI p)), some (.int (nI d))] (by decide) (Nat.le_of_ble_eq_true rfl) (lvE_ok 0 rfl) ?_
  refine V_aload0 dX2_widthFrom_0 ?_
  refine V_iload1 dX2_widthFrom_1 ?_
  refine V_iload2 dX2_widthFrom_2 ?_
  refine kX2_46 (m_X2_linesFrom _ _ M hM _ _ (by first | assumption | omega) (by first | assumption | omega)) (rOK_d (by decide) (by decide)) (Nat.le_of_ble_eq_true rfl) dX2_widthFrom_3 (fun r3 h3 hq3 => ?_)
  obtain ⟨e_, rfl⟩ := hq3
  replace e_ := e_.symm
  subst e_
  refine kX2_49 (m_J6_bitCount_0f7a4 _ _ _ (by first | assumption | omega | exact hM.2 _ | exact lfM_lt hM.2 _ _ | exact and_lt12 (lfM_lt hM.2 _ _))) (rOK_d (by decide) (by decide)) (Nat.le_of_ble_eq_true rfl) dX2_widthFrom_6 (fun r6 h6 hq6 => ?_)
  obtain ⟨e_, rfl⟩ := hq6
  replace e_ := e_.symm
  subst e_
  refine V_ireti dX2_widthFrom_9 ?_
  exact ⟨rfl, rfl⟩
set_option maxRecDepth 4000 in
theorem l_X2_usedSides (G : GE) (h : Mem) (M : Nat → Nat) (hM : hasM M h) (side : Nat) (hs : side ≤ 200) : V idsA G RX2 cX2_usedSides 3 (some .int) (rmD 1) 4 [some (.ref (ad G 4)), some (.int (nI (fb_ct (fun s => decide (¬ M s = 0)) side))), some (.int (nI side))] [] h (Qi (fun r h' => h' = h ∧ r = nI (fb_ct (fun s => decide (¬ M s = 0)) 200))) := by
  induction hn : 200 - side using Nat.strongRecOn generalizing side with
  | _ n ih =>
    subst hn
    refine V_iload2 dX2_usedSides_4 ?_
    refine V_sipush (nI 200) dX2_usedSides_5 (by decide) ?_
    first | refine V_icmp_ge_n 29 dX2_usedSides_8 (by decide) (by omega) (by omega) (fun c8 => ?_) (fun c8 => ?_) | refine V_icmp_ge 29 dX2_usedSides_8 (by decide) (fun c8 => ?_) (fun c8 => ?_)
    · refine V_iload1 dX2_usedSides_29 ?_
      refine V_ireti dX2_usedSides_30 ?_
      obtain rfl : side = 200 := by omega
      exact ⟨rfl, rfl⟩
    · refine V_aload0 dX2_usedSides_11 ?_
      refine gX2_19 dX2_usedSides_12 ?_
      refine V_iload2 dX2_usedSides_15 ?_
      refine V_iaload (by decide) aI_10 (by decide) rfl (by first | assumption | omega) dX2_usedSides_16 ?_
      rw [hM.1 side (by omega)]
      have hlt := hM.2 side
      first | refine V_if_eq_z 23 dX2_usedSides_17 (by decide) (fun c17 => ?_) (fun c17 => ?_) | refine V_if_eq_n 23 dX2_usedSides_17 (by decide) (by omega) (fun c17 => ?_) (fun c17 => ?_) | refine V_if_eq 23 dX2_usedSides_17 (by decide) (fun c17 => ?_) (fun c17 => ?_)
      · first | refine V_iinc2_n 1 dX2_usedSides_23 (by decide) (by decide) rfl ?_ | refine V_iinc2 (nI 1) dX2_usedSides_23 (by decide) (by decide) rfl ?_
        refine V_goto 4 dX2_usedSides_26 (by decide) ?_
        first | rw [ct_t (p := (fun s => decide (¬ M s = 0))) (n := side) (decide_eq_true c17)] | rw [ct_f (p := (fun s => decide (¬ M s = 0))) (n := side) (decide_eq_false (fun z => z c17))]
        exact ih _ (by omega) (side + 1) (by omega) rfl
      · first | refine V_iinc1_n 1 dX2_usedSides_20 (by decide) (by decide) rfl ?_ | refine V_iinc1 (nI 1) dX2_usedSides_20 (by decide) (by decide) rfl ?_
        first | refine V_iinc2_n 1 dX2_usedSides_23 (by decide) (by decide) rfl ?_ | refine V_iinc2 (nI 1) dX2_usedSides_23 (by decide) (by decide) rfl ?_
        refine V_goto 4 dX2_usedSides_26 (by decide) ?_
        first | rw [ct_t (p := (fun s => decide (¬ M s = 0))) (n := side) (decide_eq_true c17)] | rw [ct_f (p := (fun s => decide (¬ M s = 0))) (n := side) (decide_eq_false (fun z => z c17))]
        exact ih _ (by omega) (side + 1) (by omega) rfl
set_option maxRecDepth 4000 in
theorem m_X2_usedSides (G : GE) (h : Mem) (M : Nat → Nat) (hM : hasM M h) : Ct idsA G yX2_usedSides cX2_usedSides 3 (some .int) (rmD 1) [.ref (ad G 4)] h (Qi fun r h' => h' = h ∧ r = nI (fb_ct (fun s => decide (¬ M s = 0)) 200)) := by
  refine Ct.of [some (.ref (ad G 4)), none, none] (by decide) (Nat.le_of_ble_eq_true rfl) (lvE_ok 2 rfl) ?_
  refine V_iconst (nI 0) dX2_usedSides_0 (by decide) ?_
  refine V_istore1 dX2_usedSides_1 (by decide) rfl ?_
  refine V_iconst (nI 0) dX2_usedSides_2 (by decide) ?_
  refine V_istore2 dX2_usedSides_3 (by decide) rfl ?_
  exact l_X2_usedSides G h M hM 0 (by decide)
set_option maxRecDepth 4000 in
theorem l_X2_sidesWithAll (G : GE) (h : Mem) (M : Nat → Nat) (hM : hasM M h) (b : Nat) (hb : b < 4096) (side : Nat) (hs : side ≤ 200) : V idsA G RX2 cX2_sidesWithAll 4 (some .int) (rmD 1) 4 [some (.ref (ad G 4)), some (.int (nI b)), some (.int (nI (fb_ct (fun s => decide (M s &&& b = b)) side))), some (.int (nI side))] [] h (Qi (fun r h' => h' = h ∧ r = nI (fb_ct (fun s => decide (M s &&& b = b)) 200))) := by
  induction hn : 200 - side using Nat.strongRecOn generalizing side with
  | _ n ih =>
    subst hn
    refine V_iload3 dX2_sidesWithAll_4 ?_
    refine V_sipush (nI 200) dX2_sidesWithAll_5 (by decide) ?_
    first | refine V_icmp_ge_n 32 dX2_sidesWithAll_8 (by decide) (by omega) (by omega) (fun c8 => ?_) (fun c8 => ?_) | refine V_icmp_ge 32 dX2_sidesWithAll_8 (by decide) (fun c8 => ?_) (fun c8 => ?_)
    · refine V_iload2 dX2_sidesWithAll_32 ?_
      refine V_ireti dX2_sidesWithAll_33 ?_
      obtain rfl : side = 200 := by omega
      exact ⟨rfl, rfl⟩
    · refine V_aload0 dX2_sidesWithAll_11 ?_
      refine gX2_19 dX2_sidesWithAll_12 ?_
      refine V_iload3 dX2_sidesWithAll_15 ?_
      refine V_iaload (by decide) aI_10 (by decide) rfl (by first | assumption | omega) dX2_sidesWithAll_16 ?_
      rw [hM.1 side (by omega)]
      have hlt := hM.2 side
      have hal : M side &&& b < 4096 := and_lt12 hlt
      refine V_iload1 dX2_sidesWithAll_17 ?_
      first | refine V_iand_n dX2_sidesWithAll_18 ?_ | refine V_iand dX2_sidesWithAll_18 ?_
      refine V_iload1 dX2_sidesWithAll_19 ?_
      first | refine V_icmp_ne_n 26 dX2_sidesWithAll_20 (by decide) (by omega) (by omega) (fun c20 => ?_) (fun c20 => ?_) | refine V_icmp_ne 26 dX2_sidesWithAll_20 (by decide) (fun c20 => ?_) (fun c20 => ?_)
      · first | refine V_iinc3_n 1 dX2_sidesWithAll_26 (by decide) (by decide) rfl ?_ | refine V_iinc3 (nI 1) dX2_sidesWithAll_26 (by decide) (by decide) rfl ?_
        refine V_goto 4 dX2_sidesWithAll_29 (by decide) ?_
        first | rw [ct_t (p := (fun s => decide (M s &&& b = b))) (n := side) (decide_eq_true c20)] | rw [ct_f (p := (fun s => decide (M s &&& b = b))) (n := side) (decide_eq_false c20)]
        exact ih _ (by omega) (side + 1) (by omega) rfl
      · first | refine V_iinc2_n 1 dX2_sidesWithAll_23 (by decide) (by decide) rfl ?_ | refine V_iinc2 (nI 1) dX2_sidesWithAll_23 (by decide) (by decide) rfl ?_
        first | refine V_iinc3_n 1 dX2_sidesWithAll_26 (by decide) (by decide) rfl ?_ | refine V_iinc3 (nI 1) dX2_sidesWithAll_26 (by decide) (by decide) rfl ?_
        refine V_goto 4 dX2_sidesWithAll_29 (by decide) ?_
        first | rw [ct_t (p := (fun s => decide (M s &&& b = b))) (n := side) (decide_eq_true c20)] | rw [ct_f (p := (fun s => decide (M s &&& b = b))) (n := side) (decide_eq_false c20)]
        exact ih _ (by omega) (side + 1) (by omega) rfl
set_option maxRecDepth 4000 in
theorem m_X2_sidesWithAll (G : GE) (h : Mem) (M : Nat → Nat) (hM : hasM M h) (b : Nat) (hb : b < 4096) : Ct idsA G yX2_sidesWithAll cX2_sidesWithAll 4 (some .int) (rmD 1) [.ref (ad G 4), .int (nI b)] h (Qi fun r h' => h' = h ∧ r = nI (fb_ct (fun s => decide (M s &&& b = b)) 200)) := by
  refine Ct.of [some (.ref (ad G 4)), some (.int (nI b)), none, none] (by decide) (Nat.le_of_ble_eq_true rfl) (lvE_ok 2 rfl) ?_
  refine V_iconst (nI 0) dX2_sidesWithAll_0 (by decide) ?_
  refine V_istore2 dX2_sidesWithAll_1 (by decide) rfl ?_
  refine V_iconst (nI 0) dX2_sidesWithAll_2 (by decide) ?_
  refine V_istore3 dX2_sidesWithAll_3 (by decide) rfl ?_
  exact l_X2_sidesWithAll G h M hM b hb 0 (by decide)
set_option maxRecDepth 4000 in
theorem l_X2_sidesWithOthers (G : GE) (h : Mem) (M : Nat → Nat) (hM : hasM M h) (l : Nat) (hl : l < 12) (hbit : h (40 + l) 0 = nI (2 ^ l)) (side : Nat) (hs : side ≤ 200) : V idsA G RX2 cX2_sidesWithOthers 4 (some .int) (rmD 1) 4 [some (.ref (ad G 4)), some (.ref (ad G (40 + l))), some (.int (nI (fb_ct (fun s => decide (¬ M s &&& 2 ^ l = 0 ∧ ¬ M s = 2 ^ l)) side))), some (.int (nI side))] [] h (Qi (fun r h' => h' = h ∧ r = nI (fb_ct (fun s => decide (¬ M s &&& 2 ^ l = 0 ∧ ¬ M s = 2 ^ l)) 200))) := by
  induction hn : 200 - side using Nat.strongRecOn generalizing side with
  | _ n ih =>
    subst hn
    refine V_iload3 dX2_sidesWithOthers_4 ?_
    refine V_sipush (nI 200) dX2_sidesWithOthers_5 (by decide) ?_
    first | refine V_icmp_ge_n 47 dX2_sidesWithOthers_8 (by decide) (by omega) (by omega) (fun c8 => ?_) (fun c8 => ?_) | refine V_icmp_ge 47 dX2_sidesWithOthers_8 (by decide) (fun c8 => ?_) (fun c8 => ?_)
    · refine V_iload2 dX2_sidesWithOthers_47 ?_
      refine V_ireti dX2_sidesWithOthers_48 ?_
      obtain rfl : side = 200 := by omega
      exact ⟨rfl, rfl⟩
    · refine V_aload0 dX2_sidesWithOthers_11 ?_
      refine gX2_19 dX2_sidesWithOthers_12 ?_
      refine V_iload3 dX2_sidesWithOthers_15 ?_
      refine V_iaload (by decide) aI_10 (by decide) rfl (by first | assumption | omega) dX2_sidesWithOthers_16 ?_
      rw [hM.1 side (by omega)]
      have hlt := hM.2 side
      have hpw : 2 ^ l < 4096 := Nat.pow_lt_pow_right (by decide) (show l < 12 from hl)
      have hal : M side &&& 2 ^ l < 4096 := and_lt12 hlt
      refine V_aload1 dX2_sidesWithOthers_17 ?_
      refine gX2_86 (by first | assumption | omega) dX2_sidesWithOthers_18 ?_
      rw [hbit]
      first | refine V_iand_n dX2_sidesWithOthers_21 ?_ | refine V_iand dX2_sidesWithOthers_21 ?_
      first | refine V_if_eq_z 41 dX2_sidesWithOthers_22 (by decide) (fun c22 => ?_) (fun c22 => ?_) | refine V_if_eq_n 41 dX2_sidesWithOthers_22 (by decide) (by omega) (fun c22 => ?_) (fun c22 => ?_) | refine V_if_eq 41 dX2_sidesWithOthers_22 (by decide) (fun c22 => ?_) (fun c22 => ?_)
      · first | refine V_iinc3_n 1 dX2_sidesWithOthers_41 (by decide) (by decide) rfl ?_ | refine V_iinc3 (nI 1) dX2_sidesWithOthers_41 (by decide) (by decide) rfl ?_
        refine V_goto 4 dX2_sidesWithOthers_44 (by decide) ?_
        first | rw [ct_t (p := (fun s => decide (¬ M s &&& 2 ^ l = 0 ∧ ¬ M s = 2 ^ l))) (n := side) (decide_eq_true ⟨c22, c35⟩)] | rw [ct_f (p := (fun s => decide (¬ M s &&& 2 ^ l = 0 ∧ ¬ M s = 2 ^ l))) (n := side) (decide_eq_false (fun z => z.2 c35))] | rw [ct_f (p := (fun s => decide (¬ M s &&& 2 ^ l = 0 ∧ ¬ M s = 2 ^ l))) (n := side) (decide_eq_false (fun z => z.1 c22))]
        exact ih _ (by omega) (side + 1) (by omega) rfl
      · refine V_aload0 dX2_sidesWithOthers_25 ?_
        refine gX2_19 dX2_sidesWithOthers_26 ?_
        refine V_iload3 dX2_sidesWithOthers_29 ?_
        refine V_iaload (by decide) aI_10 (by decide) rfl (by first | assumption | omega) dX2_sidesWithOthers_30 ?_
        rw [hM.1 side (by omega)]
        refine V_aload1 dX2_sidesWithOthers_31 ?_
        refine gX2_86 (by first | assumption | omega) dX2_sidesWithOthers_32 ?_
        rw [hbit]
        first | refine V_icmp_eq_n 41 dX2_sidesWithOthers_35 (by decide) (by omega) (by omega) (fun c35 => ?_) (fun c35 => ?_) | refine V_icmp_eq 41 dX2_sidesWithOthers_35 (by decide) (fun c35 => ?_) (fun c35 => ?_)
        · first | refine V_iinc3_n 1 dX2_sidesWithOthers_41 (by decide) (by decide) rfl ?_ | refine V_iinc3 (nI 1) dX2_sidesWithOthers_41 (by decide) (by decide) rfl ?_
          refine V_goto 4 dX2_sidesWithOthers_44 (by decide) ?_
          first | rw [ct_t (p := (fun s => decide (¬ M s &&& 2 ^ l = 0 ∧ ¬ M s = 2 ^ l))) (n := side) (decide_eq_true ⟨c22, c35⟩)] | rw [ct_f (p := (fun s => decide (¬ M s &&& 2 ^ l = 0 ∧ ¬ M s = 2 ^ l))) (n := side) (decide_eq_false (fun z => z.2 c35))] | rw [ct_f (p := (fun s => decide (¬ M s &&& 2 ^ l = 0 ∧ ¬ M s = 2 ^ l))) (n := side) (decide_eq_false (fun z => z.1 c22))]
          exact ih _ (by omega) (side + 1) (by omega) rfl
        · first | refine V_iinc2_n 1 dX2_sidesWithOthers_38 (by decide) (by decide) rfl ?_ | refine V_iinc2 (nI 1) dX2_sidesWithOthers_38 (by decide) (by decide) rfl ?_
          first | refine V_iinc3_n 1 dX2_sidesWithOthers_41 (by decide) (by decide) rfl ?_ | refine V_iinc3 (nI 1) dX2_sidesWithOthers_41 (by decide) (by decide) rfl ?_
          refine V_goto 4 dX2_sidesWithOthers_44 (by decide) ?_
          first | rw [ct_t (p := (fun s => decide (¬ M s &&& 2 ^ l = 0 ∧ ¬ M s = 2 ^ l))) (n := side) (decide_eq_true ⟨c22, c35⟩)] | rw [ct_f (p := (fun s => decide (¬ M s &&& 2 ^ l = 0 ∧ ¬ M s = 2 ^ l))) (n := side) (decide_eq_false (fun z => z.2 c35))] | rw [ct_f (p := (fun s => decide (¬ M s &&& 2 ^ l = 0 ∧ ¬ M s = 2 ^ l))) (n := side) (decide_eq_false (fun z => z.1 c22))]
          exact ih _ (by omega) (side + 1) (by omega) rfl
set_option maxRecDepth 4000 in
theorem m_X2_sidesWithOthers (G : GE) (h : Mem) (M : Nat → Nat) (hM : hasM M h) (l : Nat) (hl : l < 12) (hbit : h (40 + l) 0 = nI (2 ^ l)) : Ct idsA G yX2_sidesWithOthers cX2_sidesWithOthers 4 (some .int) (rmD 1) [.ref (ad G 4), .ref (ad G (40 + l))] h (Qi fun r h' => h' = h ∧ r = nI (fb_ct (fun s => decide (¬ M s &&& 2 ^ l = 0 ∧ ¬ M s = 2 ^ l)) 200)) := by
  refine Ct.of [some (.ref (ad G 4)), some (.ref (ad G (40 + l))), none, none] (by decide) (Nat.le_of_ble_eq_true rfl) (lvE_ok 2 rfl) ?_
  refine V_iconst (nI 0) dX2_sidesWithOthers_0 (by decide) ?_
  refine V_istore2 dX2_sidesWithOthers_1 (by decide) rfl ?_
  refine V_iconst (nI 0) dX2_sidesWithOthers_2 (by decide) ?_
  refine V_istore3 dX2_sidesWithOthers_3 (by decide) rfl ?_
  exact l_X2_sidesWithOthers G h M hM l hl hbit 0 (by decide)
theorem nI_max {a b : Nat} (ha : a < 2 ^ 31) (hb : b < 2 ^ 31) : (if nI a < nI b then nI b else nI a) = nI (max a b) := by
  simp only [nI_ltI ha hb, Nat.max_def]
  split <;> split <;> first | rfl | (congr 1; omega)
def prc (b s j : Nat) : Nat := max 1 (b - j * s)
theorem prc_eq {b s j : Nat} (hb : b ≤ 100) (hs : s ≤ 50) (hj : j < 12) : (if nI 1 < nI b - nI (j * s) then nI b - nI (j * s) else nI 1) = nI (prc b s j) := by
  have hm : j * s ≤ 12 * 50 := Nat.mul_le_mul (by omega) hs
  unfold prc
  by_cases h : j * s ≤ b
  · rw [pk_sub h, nI_max (by decide) (by omega)]
  · have h1 : nI b - nI (j * s) < 0 := pk_sneg (by omega) (by omega)
    rw [if_neg, show b - j * s = 0 by omega]
    · rfl
    · intro z
      have h2 : nI 1 < 0 := fa_trans z (Int32.le_of_lt h1)
      exact absurd h2 (by decide)
/-- the two rules stand in the net, and pr is what they say -/
def hasP (pr : Nat → Nat) (h : Mem) : Prop := ∃ b s : Nat, b ≤ 100 ∧ s ≤ 50 ∧ h 4 4 = nI b ∧ h 4 5 = nI s ∧ ∀ j, j < 12 → pr j = prc b s j
theorem and_pow_bit {a l : Nat} : a &&& 2 ^ l = 0 ↔ a.testBit l = false := fb_bit_nat a l
theorem popc_pos {x l : Nat} (hl : l < 12) (h : ¬ x &&& 2 ^ l = 0) : 1 ≤ popc x := by
  have h1 : x.testBit l = true := by
    cases e : x.testBit l with
    | true => rfl
    | false => exact absurd (and_pow_bit.mpr e) h
  exact fb_ct_pos.mpr ⟨l, hl, h1⟩
set_option maxRecDepth 4000 in
theorem m_X2_price (G : GE) (h : Mem) (pr : Nat → Nat) (hpr : hasP pr h) (j : Nat) (hj : j < 12) : Ct idsA G yX2_price cX2_price 2 (some .int) (rmD 1) [.ref (ad G 4), .int (nI j)] h (Qi fun r h' => h' = h ∧ r = nI (pr j)) := by
  refine Ct.of [some (.ref (ad G 4)), some (.int (nI j))] (by decide) (Nat.le_of_ble_eq_true rfl) (lvE_ok 0 rfl) ?_
  obtain ⟨b, s, hb, hs, e4, e5, hp⟩ := hpr
  refine V_iconst (nI 1) dX2_price_0 (by decide) ?_
  refine V_aload0 dX2_price_1 ?_
  refine gX2_25 dX2_price_2 ?_
  rw [e4]
  refine V_iload1 dX2_price_5 ?_
  refine V_aload0 dX2_price_6 ?_
  refine gX2_29 dX2_price_7 ?_
  rw [e5]
  first | refine V_imul_n dX2_price_10 ?_ | refine V_imul dX2_price_10 ?_
  refine V_isub dX2_price_11 ?_
  refine kX2_33 (by decide) (Nat.le_of_ble_eq_true rfl) dX2_price_12 ?_
  rw [prc_eq hb hs hj, ← hp j hj]
  refine V_ireti dX2_price_15 ?_
  exact ⟨rfl, rfl⟩
set_option maxRecDepth 4000 in
theorem l_X2_costAmongOthers (G : GE) (h : Mem) (M : Nat → Nat) (hM : hasM M h) (pr : Nat → Nat) (hpr : hasP pr h) (l : Nat) (hl : l < 12) (hbit : h (40 + l) 0 = nI (2 ^ l)) (side : Nat) (hs : side ≤ 200) : V idsA G RX2 cX2_costAmongOthers 4 (some .int) (rmD 2) 4 [some (.ref (ad G 4)), some (.ref (ad G (40 + l))), some (.int (nI (fb_sm (fun s => if M s &&& 2 ^ l = 0 then 0 else pr (popc (M s) - 1)) side))), some (.int (nI side))] [] h (Qi (fun r h' => h' = h ∧ r = nI (fb_sm (fun s => if M s &&& 2 ^ l = 0 then 0 else pr (popc (M s) - 1)) 200))) := by
  induction hn : 200 - side using Nat.strongRecOn generalizing side with
  | _ n ih =>
    subst hn
    refine V_iload3 dX2_costAmongOthers_4 ?_
    refine V_sipush (nI 200) dX2_costAmongOthers_5 (by decide) ?_
    first | refine V_icmp_ge_n 49 dX2_costAmongOthers_8 (by decide) (by omega) (by omega) (fun c8 => ?_) (fun c8 => ?_) | refine V_icmp_ge 49 dX2_costAmongOthers_8 (by decide) (fun c8 => ?_) (fun c8 => ?_)
    · refine V_iload2 dX2_costAmongOthers_49 ?_
      refine V_ireti dX2_costAmongOthers_50 ?_
      obtain rfl : side = 200 := by omega
      exact ⟨rfl, rfl⟩
    · refine V_aload0 dX2_costAmongOthers_11 ?_
      refine gX2_19 dX2_costAmongOthers_12 ?_
      refine V_iload3 dX2_costAmongOthers_15 ?_
      refine V_iaload (by decide) aI_10 (by decide) rfl (by first | assumption | omega) dX2_costAmongOthers_16 ?_
      rw [hM.1 side (by omega)]
      have hlt := hM.2 side
      have hpw : 2 ^ l < 4096 := Nat.pow_lt_pow_right (by decide) (show l < 12 from hl)
      have hal : M side &&& 2 ^ l < 4096 := and_lt12 hlt
      refine V_aload1 dX2_costAmongOthers_17 ?_
      refine gX2_86 (by first | assumption | omega) dX2_costAmongOthers_18 ?_
      rw [hbit]
      first | refine V_iand_n dX2_costAmongOthers_21 ?_ | refine V_iand dX2_costAmongOthers_21 ?_
      first | refine V_if_eq_z 43 dX2_costAmongOthers_22 (by decide) (fun c22 => ?_) (fun c22 => ?_) | refine V_if_eq_n 43 dX2_costAmongOthers_22 (by decide) (by omega) (fun c22 => ?_) (fun c22 => ?_) | refine V_if_eq 43 dX2_costAmongOthers_22 (by decide) (fun c22 => ?_) (fun c22 => ?_)
      · first | refine V_iinc3_n 1 dX2_costAmongOthers_43 (by decide) (by decide) rfl ?_ | refine V_iinc3 (nI 1) dX2_costAmongOthers_43 (by decide) (by decide) rfl ?_
        refine V_goto 4 dX2_costAmongOthers_46 (by decide) ?_
        first | rw [show fb_sm (fun s => if M s &&& 2 ^ l = 0 then 0 else pr (popc (M s) - 1)) side + pr (popc (M side) - 1) = fb_sm (fun s => if M s &&& 2 ^ l = 0 then 0 else pr (popc (M s) - 1)) (side + 1) by rw [fb_sm_succ, if_neg c22]] | rw [show fb_sm (fun s => if M s &&& 2 ^ l = 0 then 0 else pr (popc (M s) - 1)) side = fb_sm (fun s => if M s &&& 2 ^ l = 0 then 0 else pr (popc (M s) - 1)) (side + 1) by rw [fb_sm_succ, if_pos c22]; rfl]
        exact ih _ (by omega) (side + 1) (by omega) rfl
      · refine V_iload2 dX2_costAmongOthers_25 ?_
        refine V_aload0 dX2_costAmongOthers_26 ?_
        refine V_aload0 dX2_costAmongOthers_27 ?_
        refine gX2_19 dX2_costAmongOthers_28 ?_
        refine V_iload3 dX2_costAmongOthers_31 ?_
        refine V_iaload (by decide) aI_10 (by decide) rfl (by first | assumption | omega) dX2_costAmongOthers_32 ?_
        rw [hM.1 side (by omega)]
        have hpp := popc_pos hl c22
        have hpl := popc_le (M side)
        refine kX2_49 (m_J6_bitCount_0f7a4 _ _ _ (by first | assumption | omega | exact hM.2 _ | exact lfM_lt hM.2 _ _ | exact and_lt12 (lfM_lt hM.2 _ _))) (rOK_d (by decide) (by decide)) (Nat.le_of_ble_eq_true rfl) dX2_costAmongOthers_33 (fun r33 h33 hq33 => ?_)
        obtain ⟨e_, rfl⟩ := hq33
        replace e_ := e_.symm
        subst e_
        refine V_iconst (nI 1) dX2_costAmongOthers_36 (by decide) ?_
        first | refine V_isub_n dX2_costAmongOthers_37 (by omega) ?_ | refine V_isub dX2_costAmongOthers_37 ?_
        refine kX2_89 (m_X2_price _ _ pr hpr _ (by first | assumption | omega)) (rOK_d (by decide) (by decide)) (Nat.le_of_ble_eq_true rfl) dX2_costAmongOthers_38 (fun r38 h38 hq38 => ?_)
        obtain ⟨e_, rfl⟩ := hq38
        replace e_ := e_.symm
        subst e_
        first | refine V_iadd_n dX2_costAmongOthers_41 ?_ | refine V_iadd dX2_costAmongOthers_41 ?_
        refine V_istore2 dX2_costAmongOthers_42 (by decide) rfl ?_
        first | refine V_iinc3_n 1 dX2_costAmongOthers_43 (by decide) (by decide) rfl ?_ | refine V_iinc3 (nI 1) dX2_costAmongOthers_43 (by decide) (by decide) rfl ?_
        refine V_goto 4 dX2_costAmongOthers_46 (by decide) ?_
        first | rw [show fb_sm (fun s => if M s &&& 2 ^ l = 0 then 0 else pr (popc (M s) - 1)) side + pr (popc (M side) - 1) = fb_sm (fun s => if M s &&& 2 ^ l = 0 then 0 else pr (popc (M s) - 1)) (side + 1) by rw [fb_sm_succ, if_neg c22]] | rw [show fb_sm (fun s => if M s &&& 2 ^ l = 0 then 0 else pr (popc (M s) - 1)) side = fb_sm (fun s => if M s &&& 2 ^ l = 0 then 0 else pr (popc (M s) - 1)) (side + 1) by rw [fb_sm_succ, if_pos c22]; rfl]
        exact ih _ (by omega) (side + 1) (by omega) rfl
set_option maxRecDepth 4000 in
theorem m_X2_costAmongOthers (G : GE) (h : Mem) (M : Nat → Nat) (hM : hasM M h) (pr : Nat → Nat) (hpr : hasP pr h) (l : Nat) (hl : l < 12) (hbit : h (40 + l) 0 = nI (2 ^ l)) : Ct idsA G yX2_costAmongOthers cX2_costAmongOthers 4 (some .int) (rmD 2) [.ref (ad G 4), .ref (ad G (40 + l))] h (Qi fun r h' => h' = h ∧ r = nI (fb_sm (fun s => if M s &&& 2 ^ l = 0 then 0 else pr (popc (M s) - 1)) 200)) := by
  refine Ct.of [some (.ref (ad G 4)), some (.ref (ad G (40 + l))), none, none] (by decide) (Nat.le_of_ble_eq_true rfl) (lvE_ok 2 rfl) ?_
  refine V_iconst (nI 0) dX2_costAmongOthers_0 (by decide) ?_
  refine V_istore2 dX2_costAmongOthers_1 (by decide) rfl ?_
  refine V_iconst (nI 0) dX2_costAmongOthers_2 (by decide) ?_
  refine V_istore3 dX2_costAmongOthers_3 (by decide) rfl ?_
  exact l_X2_costAmongOthers G h M hM pr hpr l hl hbit 0 (by decide)
