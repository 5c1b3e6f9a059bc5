theorem ldO_inv {N : Ng} (i : Inv N) {l c : Nat} {w : List Nat} (hl : l < nNl N) (h : ldO N l = some (c, w)) : ∃ y, nD N l (nSt N l) = some y ∧ c = y / 128 ∧ isP (wgt (nMk N) (nPr N) l) (nD N l) (nGl N l) (nSt N l) w := by
  cases e : nD N l (nSt N l) with
  | none => rw [ldO_none e] at h; cases h
  | some y =>
    obtain ⟨w', hw', -⟩ := isP_ex (nD_ok N l) (i.wt _ _) y _ (i.st hl) e
    rw [ldO_some e hw'] at h
    cases h
    exact ⟨y, rfl, rfl, hw'⟩
theorem bet_cases {N : Ng} (i : Inv N) {l : Nat} (hl : l < nNl N) : o_bet N l = (false, N) ∨ ∃ c w, ldO N l = some (c, w) ∧ okWay (nSh N) (nSt N l) (nGl N l) w ∧ w ≠ [] ∧ (nWy N l = [] ∨ c < ownC N l) ∧ o_bet N l = (true, setW N l w) := by
  cases e : ldO N l with
  | none => left; simp only [o_bet, e]
  | some cw =>
    obtain ⟨c, w⟩ := cw
    obtain ⟨y, h1, h2, h3⟩ := ldO_inv i hl e
    have hw := isP_way i hl h1 h3
    by_cases z : nWy N l ≠ [] ∧ ownC N l ≤ c
    · left; simp only [o_bet, e]; rw [if_pos z]
    · right
      refine ⟨c, w, rfl, hw, fun e2 => ?_, ?_, by simp only [o_bet, e]; rw [if_neg z]⟩
      · subst e2; exact i.ne hl hw.2.1
      · by_cases z2 : nWy N l = []
        · exact Or.inl z2
        · exact Or.inr (Nat.lt_of_not_le (fun z3 => z ⟨z2, z3⟩))
theorem bet_inv {N : Ng} (i : Inv N) {l : Nat} (hl : l < nNl N) : Inv (o_bet N l).2 := by
  rcases bet_cases i hl with e | ⟨c, w, -, hw, -, -, e⟩
  · rw [e]; exact i
  · rw [e]; exact i.set hl (Or.inr hw)
theorem bet_nl {N : Ng} (i : Inv N) {l : Nat} (hl : l < nNl N) : nNl (o_bet N l).2 = nNl N := by
  rcases bet_cases i hl with e | ⟨c, w, -, hw, -, -, e⟩ <;> rw [e] <;> rfl
noncomputable def psF (N : Ng) : Nat → Nat × Ng
  | 0 => (0, N)
  | k + 1 => ((psF N k).1 + (if (o_bet (psF N k).2 k).1 = true then 1 else 0), (o_bet (psF N k).2 k).2)
noncomputable def o_pass (N : Ng) : Nat × Ng := psF N (nNl N)
theorem psF_ok {N : Ng} (i : Inv N) : ∀ k, k ≤ nNl N → Inv (psF N k).2 ∧ nNl (psF N k).2 = nNl N ∧ (psF N k).1 ≤ k
  | 0, _ => ⟨i, rfl, Nat.le_refl _⟩
  | k + 1, hk => by
    obtain ⟨a, b, c⟩ := psF_ok i k (by omega)
    refine ⟨bet_inv a (by omega), (bet_nl a (by omega)).trans b, ?_⟩
    show (psF N k).1 + (if (o_bet (psF N k).2 k).1 = true then 1 else 0) ≤ k + 1
    split <;> omega
def smW (h h' : Mem) : Prop := ∀ c, c < 40 → c ∉ [5, 10, 13, 14, 15] → h' c = h c
theorem smW.rf {h : Mem} : smW h h := fun _ _ _ => rfl
theorem smW.tr {h h1 h2 : Mem} (a : smW h h1) (b : smW h1 h2) : smW h h2 := fun c h1 h2 => (b c h1 h2).trans (a c h1 h2)
theorem smW.of {h h' : Mem} {l : Nat} {cs : List Nat} (s : same cs h h') (hc : ∀ c ∈ cs, c ∈ [5, 10, 13, 14, 15] ∨ 40 ≤ c) : smW h h' := fun c h1 h2 => s c (fun z => by
  rcases hc c z with y | y
  · exact h2 y
  · omega)
set_option maxRecDepth 4000 in
theorem l_X5_goThroughLines (G : GE) (h hc : Mem) (N : Ng) (i : Inv N) (k : Nat) (hk : k ≤ nNl N) (r2 : RAn (psF N k).2 hc) (s2 : smW h hc) : V idsA G RX5 cX5_goThroughLines 3 (some .int) (rmD 7) 4 [some (.ref (ad G 0)), some (.int (nI (psF N k).1)), some (.int (nI k))] [] hc (Qi (fun v h' => v = nI (o_pass N).1 ∧ RAn (o_pass N).2 h' ∧ smW h h')) := by
  induction hm : nNl N - k using Nat.strongRecOn generalizing hc k with
  | _ m ih =>
    subst hm
    obtain ⟨j1, j2, j3⟩ := psF_ok i k hk
    have hnl := i.nl
    refine V_iload2 dX5_goThroughLines_4 ?_
    refine V_aload0 dX5_goThroughLines_5 ?_
    refine gX5_129 dX5_goThroughLines_6 ?_
    rw [r2.2.1, j2]
    first | refine V_icmp_ge_n 34 dX5_goThroughLines_9 (by decide) (by omega) (by omega) (fun c9 => ?_) (fun c9 => ?_) | refine V_icmp_ge 34 dX5_goThroughLines_9 (by decide) (fun c9 => ?_) (fun c9 => ?_)
    · refine V_iload1 dX5_goThroughLines_34 ?_
      refine V_ireti dX5_goThroughLines_35 ?_
      obtain rfl : k = nNl N := by omega
      exact ⟨rfl, r2, s2⟩
    · refine V_aload0 dX5_goThroughLines_12 ?_
      refine V_aload0 dX5_goThroughLines_13 ?_
      refine gX5_21 dX5_goThroughLines_14 ?_
      refine V_iload2 dX5_goThroughLines_17 ?_
      refine V_aaloadL (by decide) rfl (by first | assumption | omega) dX5_goThroughLines_18 ?_
      refine kX5_270 (m_X5_leadIfBetter _ _ (psF N k).2 j1 r2 k (by omega)) (rOK_d (by decide) (by decide)) (Nat.le_of_ble_eq_true rfl) dX5_goThroughLines_19 (fun r19 h19 hq19 => ?_)
      obtain ⟨rfl, t1, t2⟩ := hq19
      have sm2 := s2.tr (smW.of (l := 0) t2 (by intro c hc; simp only [List.mem_cons, List.not_mem_nil, or_false] at hc ⊢; omega))
      first | refine V_if_eq_z 28 dX5_goThroughLines_22 (by decide) (fun c22 => ?_) (fun c22 => ?_) | refine V_if_eq_n 28 dX5_goThroughLines_22 (by decide) (by omega) (fun c22 => ?_) (fun c22 => ?_) | refine V_if_eq 28 dX5_goThroughLines_22 (by decide) (fun c22 => ?_) (fun c22 => ?_)
      · first | refine V_iinc2_n 1 dX5_goThroughLines_28 (by decide) (by decide) rfl ?_ | refine V_iinc2 (nI 1) dX5_goThroughLines_28 (by decide) (by decide) rfl ?_
        refine V_goto 4 dX5_goThroughLines_31 (by decide) ?_
        first
        | rw [show (psF N k).1 + 1 = (psF N (k + 1)).1 by show _ = (psF N k).1 + (if (o_bet (psF N k).2 k).1 = true then 1 else 0); rw [if_pos c22]]
        | rw [show (psF N k).1 = (psF N (k + 1)).1 by show _ = (psF N k).1 + (if (o_bet (psF N k).2 k).1 = true then 1 else 0); rw [if_neg c22]; rfl]
        exact ih _ (by omega) _ (k + 1) (by omega) t1 sm2 rfl
      · first | refine V_iinc1_n 1 dX5_goThroughLines_25 (by decide) (by decide) rfl ?_ | refine V_iinc1 (nI 1) dX5_goThroughLines_25 (by decide) (by decide) rfl ?_
        first | refine V_iinc2_n 1 dX5_goThroughLines_28 (by decide) (by decide) rfl ?_ | refine V_iinc2 (nI 1) dX5_goThroughLines_28 (by decide) (by decide) rfl ?_
        refine V_goto 4 dX5_goThroughLines_31 (by decide) ?_
        first
        | rw [show (psF N k).1 + 1 = (psF N (k + 1)).1 by show _ = (psF N k).1 + (if (o_bet (psF N k).2 k).1 = true then 1 else 0); rw [if_pos c22]]
        | rw [show (psF N k).1 = (psF N (k + 1)).1 by show _ = (psF N k).1 + (if (o_bet (psF N k).2 k).1 = true then 1 else 0); rw [if_neg c22]; rfl]
        exact ih _ (by omega) _ (k + 1) (by omega) t1 sm2 rfl
set_option maxRecDepth 4000 in
theorem m_X5_goThroughLines (G : GE) (h : Mem) (N : Ng) (i : Inv N) (r : RAn N h) : Ct idsA G yX5_goThroughLines cX5_goThroughLines 3 (some .int) (rmD 7) [.ref (ad G 0)] h (Qi fun v h' => v = nI (o_pass N).1 ∧ RAn (o_pass N).2 h' ∧ smW h h') := by
  refine Ct.of [some (.ref (ad G 0)), none, none] (by decide) (Nat.le_of_ble_eq_true rfl) (lvE_ok 2 rfl) ?_
  refine V_iconst (nI 0) dX5_goThroughLines_0 (by decide) ?_
  refine V_istore1 dX5_goThroughLines_1 (by decide) rfl ?_
  refine V_iconst (nI 0) dX5_goThroughLines_2 (by decide) ?_
  refine V_istore2 dX5_goThroughLines_3 (by decide) rfl ?_
  exact l_X5_goThroughLines G h h N i 0 (Nat.zero_le _) r smW.rf
set_option maxRecDepth 4000 in
theorem m_X5_pass (G : GE) (h : Mem) (N : Ng) (i : Inv N) (r : RAn N h) : Ct idsA G yX5_pass cX5_pass 1 (some .int) (rmD 8) [.ref (ad G 0)] h (Qi fun v h' => v = nI (o_pass N).1 ∧ RAn (o_pass N).2 h' ∧ smW h h') := by
  refine Ct.of [some (.ref (ad G 0))] (by decide) (Nat.le_of_ble_eq_true rfl) (lvE_ok 0 rfl) ?_
  refine V_aload0 dX5_pass_0 ?_
  refine kX5_172 (m_X5_goThroughLines _ _ N i r) (rOK_d (by decide) (by decide)) (Nat.le_of_ble_eq_true rfl) dX5_pass_1 (fun r1 h1 hq1 => ?_)
  obtain ⟨rfl, t1, t2⟩ := hq1
  refine V_ireti dX5_pass_4 ?_
  exact ⟨rfl, t1, t2⟩
