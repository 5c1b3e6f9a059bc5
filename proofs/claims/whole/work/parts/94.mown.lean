theorem own_eq {N : Ng} (i : Inv N) {l : Nat} (hl : l < 12) : fb_sm (fun s => if nOn N l (phi s) = true then nPr N (popc (nMk N (phi s)) - 1) else 0) 180 = ownC N l := by
  rw [sm_phi (f := fun s => if nOn N l s = true then nPr N (popc (nMk N s) - 1) else 0) (fun s hs e => by rw [on_img i e]; rfl)]
  unfold ownC
  refine fb_sm_cong (fun s _ => ?_)
  have hb : (nMk N s).testBit l = nOn N l s := by unfold nMk; rw [msk_bit]; simp [hl]
  have h1 : nMk N s &&& 2 ^ l = 0 ↔ nOn N l s = false := by rw [fb_bit_nat, hb]
  by_cases e : nOn N l s = true
  · rw [if_pos e, if_neg (fun z => by rw [h1.mp z] at e; cases e)]
  · rw [if_neg e, if_pos (h1.mpr (Bool.eq_false_iff.mpr e))]
theorem on_pos {N : Ng} {l s : Nat} (hl : l < 12) (h : nOn N l s = true) : 1 ≤ popc (nMk N s) := by
  have hb : (nMk N s).testBit l = nOn N l s := by unfold nMk; rw [msk_bit]; simp [hl]
  exact popc_pos hl (fun z => by rw [fb_bit_nat, hb, h] at z; cases z)
set_option maxRecDepth 4000 in
theorem l_X6_ownCost (G : GE) (h : Mem) (N : Ng) (i : Inv N) (r : RBn N h) (l : Nat) (hl : l < 12) (k : Nat) (hk : k ≤ 180) : V idsB G RX6 cX6_ownCost 4 (some .int) (rmD 1) 4 [some (.ref (ad G 100)), some (.int (nI l)), some (.int (nI (fb_sm (fun s => if nOn N l (phi s) = true then nPr N (popc (nMk N (phi s)) - 1) else 0) k))), some (.int (nI k))] [] h (Qi (fun v h' => h' = h ∧ v = nI (ownC N l))) := by
  induction hn : 180 - k using Nat.strongRecOn generalizing k with
  | _ n ih =>
    subst hn
    refine V_iload3 dX6_ownCost_4 ?_
    refine V_sipush (nI 180) dX6_ownCost_5 (by decide) ?_
    first | refine V_icmp_ge_n 50 dX6_ownCost_8 (by decide) (by omega) (by omega) (fun c8 => ?_) (fun c8 => ?_) | refine V_icmp_ge 50 dX6_ownCost_8 (by decide) (fun c8 => ?_) (fun c8 => ?_)
    · refine V_iload2 dX6_ownCost_50 ?_
      refine V_ireti dX6_ownCost_51 ?_
      obtain rfl : k = 180 := by omega
      exact ⟨rfl, by rw [own_eq i hl]⟩
    · refine V_iload2 dX6_ownCost_11 ?_
      refine V_aload0 dX6_ownCost_12 ?_
      refine gX6_38 dX6_ownCost_13 ?_
      refine V_sipush (nI 180) dX6_ownCost_16 (by decide) ?_
      refine V_iload1 dX6_ownCost_19 ?_
      first | refine V_imul_n dX6_ownCost_20 ?_ | refine V_imul dX6_ownCost_20 ?_
      refine V_iload3 dX6_ownCost_21 ?_
      first | refine V_iadd_n dX6_ownCost_22 ?_ | refine V_iadd dX6_ownCost_22 ?_
      refine V_baload (by decide) aZ_113 (by decide) rfl (by first | assumption | omega) dX6_ownCost_23 ?_
      rw [r.2.2.2.2.2.2.1 l hl k (by omega)]
      have hpl := popc_le (nMk N (phi k))
      first | refine V_if_eq_z 41 dX6_ownCost_24 (by decide) (fun c24 => ?_) (fun c24 => ?_) | refine V_if_eq_n 41 dX6_ownCost_24 (by decide) (by omega) (fun c24 => ?_) (fun c24 => ?_) | refine V_if_eq 41 dX6_ownCost_24 (by decide) (fun c24 => ?_) (fun c24 => ?_)
      · refine V_iconst (nI 0) dX6_ownCost_41 (by decide) ?_
        first | refine V_iadd_n dX6_ownCost_42 ?_ | refine V_iadd dX6_ownCost_42 ?_
        refine V_istore2 dX6_ownCost_43 (by decide) rfl ?_
        first | refine V_iinc3_n 1 dX6_ownCost_44 (by decide) (by decide) rfl ?_ | refine V_iinc3 (nI 1) dX6_ownCost_44 (by decide) (by decide) rfl ?_
        refine V_goto 4 dX6_ownCost_47 (by decide) ?_
        first
        | rw [show fb_sm (fun s => if nOn N l (phi s) = true then nPr N (popc (nMk N (phi s)) - 1) else 0) k + nPr N (popc (nMk N (phi k)) - 1) = fb_sm (fun s => if nOn N l (phi s) = true then nPr N (popc (nMk N (phi s)) - 1) else 0) (k + 1) by rw [fb_sm_succ, if_pos c24]]
        | rw [show fb_sm (fun s => if nOn N l (phi s) = true then nPr N (popc (nMk N (phi s)) - 1) else 0) k + 0 = fb_sm (fun s => if nOn N l (phi s) = true then nPr N (popc (nMk N (phi s)) - 1) else 0) (k + 1) by rw [fb_sm_succ, if_neg c24]]
        exact ih _ (by omega) (k + 1) (by omega) rfl
      · have hp1 := on_pos hl c24
        refine V_aload0 dX6_ownCost_27 ?_
        refine V_aload0 dX6_ownCost_28 ?_
        refine V_iload3 dX6_ownCost_29 ?_
        refine kX6_112 (m_X6_widthOf _ _ N i r _ (by omega)) (rOK_d (by decide) (by decide)) (Nat.le_of_ble_eq_true rfl) dX6_ownCost_30 (fun r30 h30 hq30 => ?_)
        obtain ⟨e_, rfl⟩ := hq30
        replace e_ := e_.symm
        subst e_
        refine V_iconst (nI 1) dX6_ownCost_33 (by decide) ?_
        first | refine V_isub_n dX6_ownCost_34 (by omega) ?_ | refine V_isub dX6_ownCost_34 ?_
        refine kX6_125 (m_X6_costOf _ _ N i r _ (by omega)) (rOK_d (by decide) (by decide)) (Nat.le_of_ble_eq_true rfl) dX6_ownCost_35 (fun r35 h35 hq35 => ?_)
        obtain ⟨e_, rfl⟩ := hq35
        replace e_ := e_.symm
        subst e_
        refine V_goto 42 dX6_ownCost_38 (by decide) ?_
        first | refine V_iadd_n dX6_ownCost_42 ?_ | refine V_iadd dX6_ownCost_42 ?_
        refine V_istore2 dX6_ownCost_43 (by decide) rfl ?_
        first | refine V_iinc3_n 1 dX6_ownCost_44 (by decide) (by decide) rfl ?_ | refine V_iinc3 (nI 1) dX6_ownCost_44 (by decide) (by decide) rfl ?_
        refine V_goto 4 dX6_ownCost_47 (by decide) ?_
        first
        | rw [show fb_sm (fun s => if nOn N l (phi s) = true then nPr N (popc (nMk N (phi s)) - 1) else 0) k + nPr N (popc (nMk N (phi k)) - 1) = fb_sm (fun s => if nOn N l (phi s) = true then nPr N (popc (nMk N (phi s)) - 1) else 0) (k + 1) by rw [fb_sm_succ, if_pos c24]]
        | rw [show fb_sm (fun s => if nOn N l (phi s) = true then nPr N (popc (nMk N (phi s)) - 1) else 0) k + 0 = fb_sm (fun s => if nOn N l (phi s) = true then nPr N (popc (nMk N (phi s)) - 1) else 0) (k + 1) by rw [fb_sm_succ, if_neg c24]]
        exact ih _ (by omega) (k + 1) (by omega) rfl
set_option maxRecDepth 4000 in
theorem m_X6_ownCost (G : GE) (h : Mem) (N : Ng) (i : Inv N) (r : RBn N h) (l : Nat) (hl : l < 12) : Ct idsB G yX6_ownCost cX6_ownCost 4 (some .int) (rmD 1) [.ref (ad G 100), .int (nI l)] h (Qi fun v h' => h' = h ∧ v = nI (ownC N l)) := by
  refine Ct.of [some (.ref (ad G 100)), some (.int (nI l)), none, none] (by decide) (Nat.le_of_ble_eq_true rfl) (lvE_ok 2 rfl) ?_
  refine V_iconst (nI 0) dX6_ownCost_0 (by decide) ?_
  refine V_istore2 dX6_ownCost_1 (by decide) rfl ?_
  refine V_iconst (nI 0) dX6_ownCost_2 (by decide) ?_
  refine V_istore3 dX6_ownCost_3 (by decide) rfl ?_
  exact l_X6_ownCost G h N i r l hl 0 (by decide)
