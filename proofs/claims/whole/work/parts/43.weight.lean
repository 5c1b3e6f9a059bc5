set_option maxRecDepth 4000 in
theorem m_X0_weight (G : GE) (h : Mem) (M : Nat → Nat) (hM : hasM M h) (pr : Nat → Nat) (hpr : hasP pr h) (l s : Nat) (hl : l < 12) (hbit : h (40 + l) 0 = nI (2 ^ l)) (hs : s < 200) : Ct idsA G yX0_weight cX0_weight 3 (some .int) (rmD 2) [.ref (ad G 4), .ref (ad G (40 + l)), .int (nI s)] h (Qi fun r h' => h' = h ∧ r = nI (wgt M pr l s)) := by
  refine Ct.of [some (.ref (ad G 4)), some (.ref (ad G (40 + l))), some (.int (nI s))] (by decide) (Nat.le_of_ble_eq_true rfl) (lvE_ok 0 rfl) ?_
  refine V_aload0 dX0_weight_0 ?_
  refine V_aload0 dX0_weight_1 ?_
  refine gX0_49 dX0_weight_2 ?_
  refine V_iload2 dX0_weight_5 ?_
  refine V_iaload (by decide) aI_10 (by decide) rfl (by first | assumption | omega) dX0_weight_6 ?_
  rw [hM.1 s hs]
  refine V_aload1 dX0_weight_7 ?_
  refine gX0_54 (by first | assumption | omega) dX0_weight_8 ?_
  rw [hbit]
  refine V_iconst (-1) dX0_weight_11 (by decide) ?_
  refine V_ixor dX0_weight_12 ?_
  refine V_iand dX0_weight_13 ?_
  rw [clr_eq hl (hM.2 s)]
  refine kX0_57 (m_J6_bitCount_0f7a4 _ _ _ (clr_lt (hM.2 s))) (rOK_d (by decide) (by decide)) (Nat.le_of_ble_eq_true rfl) dX0_weight_14 (fun r14 h14 hq14 => ?_)
  obtain ⟨e_, rfl⟩ := hq14
  replace e_ := e_.symm
  subst e_
  refine kX0_63 (m_X2_price _ _ pr hpr _ (popc_clr hl)) (rOK_d (by decide) (by decide)) (Nat.le_of_ble_eq_true rfl) dX0_weight_17 (fun r17 h17 hq17 => ?_)
  obtain ⟨e_, rfl⟩ := hq17
  replace e_ := e_.symm
  subst e_
  refine V_sipush (nI 128) dX0_weight_20 (by decide) ?_
  first | refine V_imul_n dX0_weight_23 ?_ | refine V_imul dX0_weight_23 ?_
  refine V_iconst (nI 1) dX0_weight_24 (by decide) ?_
  first | refine V_iadd_n dX0_weight_25 ?_ | refine V_iadd dX0_weight_25 ?_
  refine V_ireti dX0_weight_26 ?_
  exact ⟨rfl, rfl⟩
def hasF (lf : Nat → Nat) (h : Mem) : Prop := (∀ p, p < 100 → h 13 p = nI (lf p)) ∧ ∀ p, lf p ≤ 536870912
theorem hasF.same {lf : Nat → Nat} {h h' : Mem} {cs : List Nat} (a : hasF lf h) (b : same cs h h') (hc : 13 ∉ cs) : hasF lf h' := ⟨fun p hp => by rw [b 13 hc]; exact a.1 p hp, a.2⟩
theorem sub_eq {a b w : Nat} (ha : a ≤ 536870912) (hb : b ≤ 536870912) (hw : w < 2 ^ 30) : nI a - nI b = nI w ↔ a = b + w := by
  constructor
  · intro h
    have h1 := pk_sub_toInt (a := a) (b := b) (by omega) (by omega)
    rw [h, nI_toInt (by omega)] at h1
    omega
  · rintro rfl
    rw [pk_sub (by omega)]
    congr 1
    omega
/-- what leastDirection looks for -/
def okl (wt lf : Nat → Nat) (p d : Nat) : Prop := ∃ q, nb p d = some q ∧ lf p = lf q + wt (sA p q d)
set_option maxRecDepth 4000 in
theorem l_X0_leastDirection (G : GE) (h : Mem) (M : Nat → Nat) (hM : hasM M h) (pr : Nat → Nat) (hpr : hasP pr h) (l p : Nat) (hl : l < 12) (hbit : h (40 + l) 0 = nI (2 ^ l)) (hp : p < 100) (lf : Nat → Nat) (hF : hasF lf h) (hw : wtOK (wgt M pr l)) (d : Nat) (hd : d ≤ 4) (v5 : OV) (hno : ∀ d', d' < d → ¬ okl (wgt M pr l) lf p d') : V idsA G RX0 cX0_leastDirection 6 (some .int) (rmD 3) 3 [some (.ref (ad G 5)), some (.ref (ad G 4)), some (.ref (ad G (40 + l))), some (.int (nI p)), some (.int (nI d)), v5] [] h (Qi (fun r h' => h' = h ∧ ((∃ d, d < 4 ∧ r = nI d ∧ okl (wgt M pr l) lf p d ∧ ∀ d', d' < d → ¬ okl (wgt M pr l) lf p d') ∨ (r = -1 ∧ ∀ d, d < 4 → ¬ okl (wgt M pr l) lf p d)))) := by
  induction hm : 4 - d using Nat.strongRecOn generalizing d v5 with
  | _ m ih =>
    subst hm
    refine V_iload4 dX0_leastDirection_3 ?_
    refine V_iconst (nI 4) dX0_leastDirection_5 (by decide) ?_
    first | refine V_icmp_ge_n 61 dX0_leastDirection_6 (by decide) (by omega) (by omega) (fun c6 => ?_) (fun c6 => ?_) | refine V_icmp_ge 61 dX0_leastDirection_6 (by decide) (fun c6 => ?_) (fun c6 => ?_)
    · refine V_iconst (-1) dX0_leastDirection_61 (by decide) ?_
      refine V_ireti dX0_leastDirection_62 ?_
      exact ⟨rfl, Or.inr ⟨rfl, fun d' h1 => hno d' (by omega)⟩⟩
    · refine V_iload3 dX0_leastDirection_9 ?_
      refine V_iload4 dX0_leastDirection_10 ?_
      refine kX0_45 (m_X5_beside _ _ _ _ (by first | assumption | omega) (by first | assumption | omega)) (rOK_d (by decide) (by decide)) (Nat.le_of_ble_eq_true rfl) dX0_leastDirection_12 (fun r12 h12 hq12 => ?_)
      obtain ⟨e_, rfl⟩ := hq12
      replace e_ := e_.symm
      subst e_
      cases e : nb p d with
      | none =>
        simp only [oI]
        refine V_istore5 dX0_leastDirection_15 (by decide) rfl ?_
        refine V_iload5 dX0_leastDirection_17 ?_
        first | refine V_if_lt_n 55 dX0_leastDirection_19 (by decide) (by omega) (fun c19 => ?_) (fun c19 => ?_) | refine V_if_lt 55 dX0_leastDirection_19 (by decide) (fun c19 => ?_) (fun c19 => ?_)
        · first | refine V_iinc4_n 1 dX0_leastDirection_55 (by decide) (by decide) rfl ?_ | refine V_iinc4 (nI 1) dX0_leastDirection_55 (by decide) (by decide) rfl ?_
          refine V_goto 3 dX0_leastDirection_58 (by decide) ?_
          exact ih _ (by omega) (d + 1) (by omega) _ (lt_s hno (fun z => by obtain ⟨q, h1, -⟩ := z; rw [e] at h1; cases h1)) rfl
        · exact absurd (by decide) c19 --end
      | some q =>
        have hq := nb_lt hp e
        simp only [oI]
        refine V_istore5 dX0_leastDirection_15 (by decide) rfl ?_
        refine V_iload5 dX0_leastDirection_17 ?_
        first | refine V_if_lt_n 55 dX0_leastDirection_19 (by decide) (by omega) (fun c19 => ?_) (fun c19 => ?_) | refine V_if_lt 55 dX0_leastDirection_19 (by decide) (fun c19 => ?_) (fun c19 => ?_)
        · exact c19.elim --end
        · refine V_aload0 dX0_leastDirection_22 ?_
          refine gX0_9 dX0_leastDirection_23 ?_
          refine V_iload3 dX0_leastDirection_26 ?_
          refine V_iaload (by decide) aI_13 (by decide) rfl (by first | assumption | omega) dX0_leastDirection_27 ?_
          rw [hF.1 p hp]
          refine V_aload0 dX0_leastDirection_28 ?_
          refine gX0_9 dX0_leastDirection_29 ?_
          refine V_iload5 dX0_leastDirection_32 ?_
          refine V_iaload (by decide) aI_13 (by decide) rfl (by first | assumption | omega) dX0_leastDirection_34 ?_
          rw [hF.1 q hq]
          have f1 := hF.2 p
          have f2 := hF.2 q
          have f3 := hw (sA p q d)
          refine V_isub dX0_leastDirection_35 ?_
          refine V_aload1 dX0_leastDirection_36 ?_
          refine V_aload2 dX0_leastDirection_37 ?_
          refine V_iload3 dX0_leastDirection_38 ?_
          refine V_iload5 dX0_leastDirection_39 ?_
          refine V_iload4 dX0_leastDirection_41 ?_
          refine kX0_66 (m_X5_sideBetween _ _ _ _ _ (by first | assumption | omega) (by first | assumption | omega) (by first | assumption | omega)) (rOK_d (by decide) (by decide)) (Nat.le_of_ble_eq_true rfl) dX0_leastDirection_43 (fun r43 h43 hq43 => ?_)
          obtain ⟨e_, rfl⟩ := hq43
          replace e_ := e_.symm
          subst e_
          refine kX0_70 (m_X0_weight _ _ M hM pr hpr _ _ (by assumption) hbit (sA_lt (by assumption))) (rOK_d (by decide) (by decide)) (Nat.le_of_ble_eq_true rfl) dX0_leastDirection_46 (fun r46 h46 hq46 => ?_)
          obtain ⟨e_, rfl⟩ := hq46
          replace e_ := e_.symm
          subst e_
          refine V_icmp_ne 55 dX0_leastDirection_49 (by decide) (fun c49 => ?_) (fun c49 => ?_)
          · have hnot : ¬ okl (wgt M pr l) lf p d := by
              rintro ⟨q', h1, h2⟩
              rw [e] at h1
              cases h1
              exact c49 (by first | exact (sub_eq f1 f2 (by omega)).mpr h2 | (congr 1; omega))
            first | refine V_iinc4_n 1 dX0_leastDirection_55 (by decide) (by decide) rfl ?_ | refine V_iinc4 (nI 1) dX0_leastDirection_55 (by decide) (by decide) rfl ?_
            refine V_goto 3 dX0_leastDirection_58 (by decide) ?_
            exact ih _ (by omega) (d + 1) (by omega) _ (lt_s hno hnot) rfl
          · have hyes : okl (wgt M pr l) lf p d := ⟨q, e, (sub_eq f1 f2 (by omega)).mp (by first | exact c49 | (rw [pk_sub (by omega)]; exact c49))⟩
            refine V_iload4 dX0_leastDirection_52 ?_
            refine V_ireti dX0_leastDirection_54 ?_
            exact ⟨rfl, Or.inl ⟨d, by omega, rfl, hyes, hno⟩⟩
set_option maxRecDepth 4000 in
theorem m_X0_leastDirection (G : GE) (h : Mem) (M : Nat → Nat) (hM : hasM M h) (pr : Nat → Nat) (hpr : hasP pr h) (l p : Nat) (hl : l < 12) (hbit : h (40 + l) 0 = nI (2 ^ l)) (hp : p < 100) (lf : Nat → Nat) (hF : hasF lf h) (hw : wtOK (wgt M pr l)) : Ct idsA G yX0_leastDirection cX0_leastDirection 6 (some .int) (rmD 3) [.ref (ad G 5), .ref (ad G 4), .ref (ad G (40 + l)), .int (nI p)] h (Qi fun r h' => h' = h ∧ ((∃ d, d < 4 ∧ r = nI d ∧ okl (wgt M pr l) lf p d ∧ ∀ d', d' < d → ¬ okl (wgt M pr l) lf p d') ∨ (r = -1 ∧ ∀ d, d < 4 → ¬ okl (wgt M pr l) lf p d))) := by
  refine Ct.of [some (.ref (ad G 5)), some (.ref (ad G 4)), some (.ref (ad G (40 + l))), some (.int (nI p)), none, none] (by decide) (Nat.le_of_ble_eq_true rfl) (lvE_ok 2 rfl) ?_
  refine V_iconst (nI 0) dX0_leastDirection_0 (by decide) ?_
  refine V_istore4 dX0_leastDirection_1 (by decide) rfl ?_
  exact l_X0_leastDirection G h M hM pr hpr l p hl hbit hp lf hF hw 0 (by decide) _ (fun _ z => absurd z (Nat.not_lt_zero _))
