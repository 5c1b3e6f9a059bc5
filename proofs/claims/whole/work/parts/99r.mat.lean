/-! ===== what lines do at a place ===== -/
def atB (N : Ng) (l p d : Nat) : Bool := match nb p d with
  | none => false
  | some q => nOn N l (sA p q d)
def atM (N : Ng) (l p : Nat) : Nat := msk (atB N l p) 4
theorem atM_lt (N : Ng) (l p : Nat) : atM N l p < 16 := msk_lt _ 4
theorem atM_bit (N : Ng) (l p d : Nat) (hd : d < 4) : (atM N l p).testBit d = atB N l p d := by
  unfold atM
  rw [msk_bit]; simp [hd]
theorem at_lf {N : Ng} {l p d : Nat} (hl : l < 12) : (lfM (nMk N) p d).testBit l = atB N l p d := by
  unfold lfM atB
  cases nb p d with
  | none => simp
  | some q => exact bit_mk hl
theorem ext4 {a b : Nat} (ha : a < 16) (hb : b < 16) (h : ∀ i, i < 4 → a.testBit i = b.testBit i) : a = b := by
  apply Nat.eq_of_testBit_eq
  intro j
  by_cases e : j < 4
  · exact h j e
  · rw [Nat.testBit_lt_two_pow (Nat.lt_of_lt_of_le (show a < 2 ^ 4 from ha) (Nat.pow_le_pow_right (by decide) (show 4 ≤ j by omega))), Nat.testBit_lt_two_pow (Nat.lt_of_lt_of_le (show b < 2 ^ 4 from hb) (Nat.pow_le_pow_right (by decide) (show 4 ≤ j by omega)))]
def fkX (N : Ng) (p a b : Nat) : Prop := ¬ atM N a p &&& atM N b p = 0 ∧ ¬ atM N a p = atM N b p
theorem fkX_e {N : Ng} {p a b : Nat} : fkX N p a b ↔ (∃ d, d < 4 ∧ atB N a p d = true ∧ atB N b p d = true) ∧ ∃ e, e < 4 ∧ atB N a p e ≠ atB N b p e := by
  have ha := atM_lt N a p
  have hb := atM_lt N b p
  unfold fkX
  refine and_congr ⟨fun h => ?_, fun h z => ?_⟩ ⟨fun h => ?_, fun h z => ?_⟩
  · refine Classical.byContradiction (fun y => h (ext4 (Nat.lt_of_le_of_lt Nat.and_le_left ha) (by decide) (fun d hd => ?_)))
    rw [Nat.testBit_and, atM_bit _ _ _ _ hd, atM_bit _ _ _ _ hd, Nat.zero_testBit]
    refine Bool.eq_false_iff.mpr (fun x => y ⟨d, hd, ?_⟩)
    simpa using x
  · obtain ⟨d, hd, h1, h2⟩ := h
    have := congrArg (fun x => x.testBit d) z
    simp only [Nat.testBit_and, atM_bit _ _ _ _ hd, h1, h2] at this
    simp at this
  · refine Classical.byContradiction (fun y => h (ext4 ha hb (fun d hd => ?_)))
    rw [atM_bit _ _ _ _ hd, atM_bit _ _ _ _ hd]
    exact Classical.byContradiction (fun x => y ⟨d, hd, x⟩)
  · obtain ⟨d, hd, h1⟩ := h
    apply h1
    rw [← atM_bit _ _ _ _ hd, ← atM_bit _ _ _ _ hd, z]
theorem fkX_s {N : Ng} {p a b : Nat} (h : fkX N p a b) : fkX N p b a := by
  obtain ⟨⟨d, h1, h2, h3⟩, e, h4, h5⟩ := fkX_e.mp h
  exact fkX_e.mpr ⟨⟨d, h1, h3, h2⟩, e, h4, Ne.symm h5⟩
theorem at_off {N : Ng} (i : Inv N) {l p d : Nat} (h : atB N l p d = true) : l < nNl N := by
  unfold atB at h
  cases e : nb p d with
  | none => rw [e] at h; cases h
  | some q =>
    rw [e] at h
    have h2 := on_wm h
    rcases Nat.lt_or_ge l (nNl N) with z | z
    · exact z
    · rw [wm_off i l z] at h2; cases h2
theorem fkB_e {N : Ng} {p d e : Nat} : fkB (nMk N) p d e = true ↔ (∃ x, x < 12 ∧ atB N x p d = true ∧ atB N x p e = true) ∧ ∃ y, y < 12 ∧ atB N y p d = true ∧ atB N y p e = false := by
  have hM : ∀ s, nMk N s < 4096 := mk_lt N
  have h1 := lfM_lt hM p d
  unfold fkB
  rw [decide_eq_true_iff]
  refine and_congr ⟨fun h => ?_, fun h z => ?_⟩ ⟨fun h => ?_, fun h z => ?_⟩
  · refine Classical.byContradiction (fun y => h (ext12 (and_lt12 h1) (by decide) (fun x hx => ?_)))
    rw [Nat.testBit_and, at_lf hx, at_lf hx, Nat.zero_testBit]
    refine Bool.eq_false_iff.mpr (fun q => y ⟨x, hx, ?_⟩)
    simpa using q
  · obtain ⟨x, hx, q1, q2⟩ := h
    have := congrArg (fun z => z.testBit x) z
    simp only [Nat.testBit_and, at_lf hx, q1, q2] at this
    simp at this
  · refine Classical.byContradiction (fun y => h (ext12 (and_lt12 h1) h1 (fun x hx => ?_)))
    rw [Nat.testBit_and, at_lf hx, at_lf hx]
    cases e1 : atB N x p d with
    | false => rfl
    | true =>
      cases e2 : atB N x p e with
      | true => rfl
      | false => exact absurd ⟨x, hx, e1, e2⟩ y
  · obtain ⟨x, hx, q1, q2⟩ := h
    have := congrArg (fun z => z.testBit x) z
    simp only [Nat.testBit_and, at_lf hx, q1, q2] at this
    simp at this
theorem fork_e {N : Ng} (i : Inv N) {p : Nat} : forkB (nMk N) p = true ↔ ∃ a b, a < b ∧ b < nNl N ∧ fkX N p a b := by
  have hnl := i.nl
  constructor
  · intro h
    obtain ⟨d, hd, h1⟩ := List.any_eq_true.mp h
    obtain ⟨e, he, h2⟩ := List.any_eq_true.mp h1
    rw [List.mem_range] at hd he
    obtain ⟨⟨x, hx, q1, q2⟩, y, hy, q3, q4⟩ := fkB_e.mp h2
    have hf : fkX N p x y := fkX_e.mpr ⟨⟨d, hd, q1, q3⟩, e, he, by rw [q2, q4]; decide⟩
    have hxn := at_off i q1
    have hyn := at_off i q3
    rcases Nat.lt_trichotomy x y with z | z | z
    · exact ⟨x, y, z, hyn, hf⟩
    · subst z; rw [q2] at q4; cases q4
    · exact ⟨y, x, z, hxn, fkX_s hf⟩
  · rintro ⟨a, b, hab, hb, hf⟩
    obtain ⟨⟨d, hd, q1, q2⟩, e, he, q3⟩ := fkX_e.mp hf
    refine forkB_t hd he (fkB_e.mpr ?_)
    cases e1 : atB N a p e with
    | true =>
      cases e2 : atB N b p e with
      | true => rw [e1, e2] at q3; exact absurd rfl q3
      | false => exact ⟨⟨a, by omega, q1, e1⟩, b, by omega, q2, e2⟩
    | false =>
      cases e2 : atB N b p e with
      | false => rw [e1, e2] at q3; exact absurd rfl q3
      | true => exact ⟨⟨b, by omega, q2, e2⟩, a, by omega, q1, e1⟩
/-! at a place a way has two sides at most -/
theorem nb_inj {p d e q : Nat} (hd : d < 4) (he : e < 4) (h1 : nb p d = some q) (h2 : nb p e = some q) : d = e := by
  rcases (show d = 0 ∨ d = 1 ∨ d = 2 ∨ d = 3 by omega) with rfl | rfl | rfl | rfl <;> rcases (show e = 0 ∨ e = 1 ∨ e = 2 ∨ e = 3 by omega) with rfl | rfl | rfl | rfl <;> simp [nb] at h1 h2 <;> omega
theorem deg1 {w : List Nat} {p : Nat} (hp : p < 100) (hok : okW p w) (hn : (plW p w).Nodup) : ∃ u, ∀ d q, d < 4 → nb p d = some q → sA p q d ∈ sdW p w → q = u := by
  cases w with
  | nil => exact ⟨0, fun d q _ _ h => absurd h List.not_mem_nil⟩
  | cons d0 w =>
    obtain ⟨h1, h2, h3⟩ := hok
    refine ⟨stp p d0, fun d q hd hq h => ?_⟩
    rcases List.mem_cons.mp h with e | e
    · rcases sA_ends hp hp hd h1 hq h2 e with z | z
      · exact z.2.1
      · exact absurd h2 (by rw [← z.1]; intro y; exact (List.nodup_cons.mp hn).1 (by rw [← z.1]; exact plW_head _ _))
    · obtain ⟨a, d', g1, g2, g3, g4, g5, g6⟩ := sdW_ends (nb_lt hp h2) h3 e
      have hnp := (List.nodup_cons.mp hn).1
      rcases sA_ends hp g1 hd g2 hq g3 g4 with z | z
      · exact absurd g5 (by rw [← z.1]; exact hnp)
      · exact absurd g6 (by rw [← z.1]; exact hnp)
theorem deg2 : ∀ {w : List Nat} {p : Nat}, p < 100 → okW p w → (plW p w).Nodup → ∀ x, x < 100 → ∃ u v, ∀ d q, d < 4 → nb x d = some q → sA x q d ∈ sdW p w → q = u ∨ q = v
  | [], p, _, _, _, x, _ => ⟨0, 0, fun d q _ _ h => absurd h List.not_mem_nil⟩
  | d0 :: w, p, hp, hok, hn, x, hx => by
    have hok2 := hok
    obtain ⟨h1, h2, h3⟩ := hok
    have hn2 := (List.nodup_cons.mp hn).2
    have hnp := (List.nodup_cons.mp hn).1
    have hp1 := nb_lt hp h2
    by_cases e : x = p
    · subst e
      obtain ⟨u, hu⟩ := deg1 hp hok2 hn
      exact ⟨u, u, fun d q hd hq h => Or.inl (hu d q hd hq h)⟩
    · by_cases e1 : x = stp p d0
      · obtain ⟨u, hu⟩ := deg1 hp1 h3 hn2
        refine ⟨p, u, fun d q hd hq h => ?_⟩
        rcases List.mem_cons.mp h with e2 | e2
        · rcases sA_ends hx hp hd h1 hq h2 e2 with z | z
          · exact absurd z.1 e
          · exact Or.inl z.2.1
        · subst e1
          exact Or.inr (hu d q hd hq e2)
      · obtain ⟨u, v, huv⟩ := deg2 hp1 h3 hn2 x hx
        refine ⟨u, v, fun d q hd hq h => ?_⟩
        rcases List.mem_cons.mp h with e2 | e2
        · rcases sA_ends hx hp hd h1 hq h2 e2 with z | z
          · exact absurd z.1 e
          · exact absurd z.1 e1
        · exact huv d q hd hq e2
theorem at_two {N : Ng} (i : Inv N) {l p a b c : Nat} (hp : p < 100) (ha : a < 4) (hb : b < 4) (hc : c < 4) (hab : a ≠ b) (hac : a ≠ c) (hbc : b ≠ c) (h1 : atB N l p a = true) (h2 : atB N l p b = true) (h3 : atB N l p c = true) : False := by
  have hl := at_off i h1
  unfold atB at h1 h2 h3
  cases e1 : nb p a with
  | none => rw [e1] at h1; cases h1
  | some q1 =>
    cases e2 : nb p b with
    | none => rw [e2] at h2; cases h2
    | some q2 =>
      cases e3 : nb p c with
      | none => rw [e3] at h3; cases h3
      | some q3 =>
        rw [e1] at h1
        rw [e2] at h2
        rw [e3] at h3
        have k1 := of_decide_eq_true h1
        have k2 := of_decide_eq_true h2
        have k3 := of_decide_eq_true h3
        rcases i.wy hl with z | z
        · rw [z] at k1; exact absurd k1 List.not_mem_nil
        · obtain ⟨u, v, huv⟩ := deg2 (i.st hl) z.1 z.2.2.1 p hp
          have m1 := huv a q1 ha e1 k1
          have m2 := huv b q2 hb e2 k2
          have m3 := huv c q3 hc e3 k3
          have n1 : q1 ≠ q2 := fun e => hab (nb_inj ha hb e1 (by rw [e]; exact e2))
          have n2 : q1 ≠ q3 := fun e => hac (nb_inj ha hc e1 (by rw [e]; exact e3))
          have n3 : q2 ≠ q3 := fun e => hbc (nb_inj hb hc e2 (by rw [e]; exact e3))
          omega
theorem at_5 {N : Ng} (i : Inv N) {l p : Nat} (hp : p < 100) : atM N l p = 5 ↔ atB N l p 0 = true ∧ atB N l p 2 = true := by
  constructor
  · intro h
    rw [← atM_bit N l p 0 (by decide), ← atM_bit N l p 2 (by decide), h]
    decide
  · rintro ⟨h0, h2⟩
    apply ext4 (atM_lt _ _ _) (by decide)
    intro d hd
    rw [atM_bit _ _ _ _ hd]
    rcases (show d = 0 ∨ d = 1 ∨ d = 2 ∨ d = 3 by omega) with rfl | rfl | rfl | rfl
    · rw [h0]; decide
    · rw [Bool.eq_false_iff.mpr (fun z => at_two i hp (by decide) (by decide) (by decide) (by decide) (by decide) (by decide) h0 h2 z)]; decide
    · rw [h2]; decide
    · rw [Bool.eq_false_iff.mpr (fun z => at_two i hp (by decide) (by decide) (by decide) (by decide) (by decide) (by decide) h0 h2 z)]; decide
theorem at_10 {N : Ng} (i : Inv N) {l p : Nat} (hp : p < 100) : atM N l p = 10 ↔ atB N l p 1 = true ∧ atB N l p 3 = true := by
  constructor
  · intro h
    rw [← atM_bit N l p 1 (by decide), ← atM_bit N l p 3 (by decide), h]
    decide
  · rintro ⟨h0, h2⟩
    apply ext4 (atM_lt _ _ _) (by decide)
    intro d hd
    rw [atM_bit _ _ _ _ hd]
    rcases (show d = 0 ∨ d = 1 ∨ d = 2 ∨ d = 3 by omega) with rfl | rfl | rfl | rfl
    · rw [Bool.eq_false_iff.mpr (fun z => at_two i hp (by decide) (by decide) (by decide) (by decide) (by decide) (by decide) h0 h2 z)]; decide
    · rw [h0]; decide
    · rw [Bool.eq_false_iff.mpr (fun z => at_two i hp (by decide) (by decide) (by decide) (by decide) (by decide) (by decide) h0 h2 z)]; decide
    · rw [h2]; decide
def a5 (N : Ng) (p l : Nat) : Bool := decide (atM N l p = 5)
def a10 (N : Ng) (p l : Nat) : Bool := decide (atM N l p = 10)
theorem ct_5 {N : Ng} (i : Inv N) {p : Nat} (hp : p < 100) : fb_ct (a5 N p) (nNl N) = popc (lfM (nMk N) p 0 &&& lfM (nMk N) p 2) := by
  have hnl := i.nl
  have h1 : popc (lfM (nMk N) p 0 &&& lfM (nMk N) p 2) = fb_ct (a5 N p) 12 := fb_ct_cong (fun l hl => by
    show (lfM (nMk N) p 0 &&& lfM (nMk N) p 2).testBit l = a5 N p l
    rw [Nat.testBit_and, at_lf hl, at_lf hl, a5]
    exact Bool.eq_iff_iff.mpr (by rw [decide_eq_true_iff, at_5 i hp, Bool.and_eq_true]))
  have h2 := ct_ext (f := a5 N p) (k := nNl N) (fun l hl => decide_eq_false (fun z => by
    have := at_off i ((at_5 i hp).mp z).1
    omega)) (12 - nNl N)
  rw [show nNl N + (12 - nNl N) = 12 by omega] at h2
  rw [h1, h2]
theorem ct_10 {N : Ng} (i : Inv N) {p : Nat} (hp : p < 100) : fb_ct (a10 N p) (nNl N) = popc (lfM (nMk N) p 1 &&& lfM (nMk N) p 3) := by
  have hnl := i.nl
  have h1 : popc (lfM (nMk N) p 1 &&& lfM (nMk N) p 3) = fb_ct (a10 N p) 12 := fb_ct_cong (fun l hl => by
    show (lfM (nMk N) p 1 &&& lfM (nMk N) p 3).testBit l = a10 N p l
    rw [Nat.testBit_and, at_lf hl, at_lf hl, a10]
    exact Bool.eq_iff_iff.mpr (by rw [decide_eq_true_iff, at_10 i hp, Bool.and_eq_true]))
  have h2 := ct_ext (f := a10 N p) (k := nNl N) (fun l hl => decide_eq_false (fun z => by
    have := at_off i ((at_10 i hp).mp z).1
    omega)) (12 - nNl N)
  rw [show nNl N + (12 - nNl N) = 12 by omega] at h2
  rw [h1, h2]
def rst (p : Nat → Bool) (n k : Nat) : Nat := fb_ct p n - fb_ct p k
theorem rst_s {p : Nat → Bool} {n k : Nat} (h : k < n) : rst p n k = rst p n (k + 1) + (if p k = true then 1 else 0) := by
  have h1 := fb_ct_mono p (show k + 1 ≤ n from h)
  have h2 := fb_ct_succ p k
  unfold rst
  omega
theorem rst_n (p : Nat → Bool) (n : Nat) : rst p n n = 0 := Nat.sub_self _
theorem rst_0 (p : Nat → Bool) (n : Nat) : rst p n 0 = fb_ct p n := rfl
