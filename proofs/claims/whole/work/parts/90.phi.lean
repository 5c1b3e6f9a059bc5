/-! ===== 180 sides and 200 ===== -/
theorem sm_list (f : Nat → Nat) : ∀ n, fb_sm f n = ((List.range n).map f).sum
  | 0 => rfl
  | n + 1 => by
    rw [fb_sm_succ, sm_list f n, List.range_succ, List.map_append, List.sum_append]
    simp
def imgB (s : Nat) : Bool := (decide (s % 2 = 1) && decide (s / 2 % 10 < 9)) || (decide (s % 2 = 0) && decide (s < 180))
theorem phi_perm : ((List.range 180).map phi).Perm ((List.range 200).filter imgB) := List.isPerm_iff.mp (by decide +kernel)
theorem perm_sum {f : Nat → Nat} {a b : List Nat} (h : a.Perm b) : (a.map f).sum = (b.map f).sum := by
  induction h with
  | nil => rfl
  | cons x _ ih => simp only [List.map_cons, List.sum_cons, ih]
  | swap x y l => simp only [List.map_cons, List.sum_cons]; omega
  | trans _ _ h1 h2 => exact h1.trans h2
theorem filt_sum {f : Nat → Nat} {P : Nat → Bool} : ∀ (l : List Nat), (∀ x ∈ l, P x = false → f x = 0) → ((l.filter P).map f).sum = (l.map f).sum
  | [], _ => rfl
  | x :: l, h => by
    have ih := filt_sum l (fun y hy => h y (List.mem_cons_of_mem _ hy))
    by_cases e : P x = true
    · rw [List.filter_cons_of_pos e]
      simp only [List.map_cons, List.sum_cons, ih]
    · rw [List.filter_cons_of_neg e]
      simp only [List.map_cons, List.sum_cons, ih, h x List.mem_cons_self (Bool.eq_false_iff.mpr e)]
      omega
theorem sm_phi {f : Nat → Nat} (h : ∀ s, s < 200 → imgB s = false → f s = 0) : fb_sm (fun s => f (phi s)) 180 = fb_sm f 200 := by
  rw [sm_list, sm_list, ← filt_sum (P := imgB) _ (fun x hx => h x (List.mem_range.mp hx)), ← perm_sum phi_perm, List.map_map]
  rfl
theorem ct_sm (p : Nat → Bool) : ∀ n, fb_ct p n = fb_sm (fun s => if p s = true then 1 else 0) n
  | 0 => rfl
  | n + 1 => by rw [fb_ct_succ, fb_sm_succ, ct_sm p n]
theorem ct_phi {p : Nat → Bool} (h : ∀ s, s < 200 → imgB s = false → p s = false) : fb_ct (fun s => p (phi s)) 180 = fb_ct p 200 := by
  rw [ct_sm, ct_sm]
  exact sm_phi (f := fun s => if p s = true then 1 else 0) (fun s hs e => by rw [h s hs e]; rfl)
theorem img_all : ∀ p, p < 100 → ∀ d, d < 4 → (nb p d).all (fun q => imgB (sA p q d)) = true := by decide +kernel
theorem img_sdW : ∀ {w : List Nat} {p s : Nat}, p < 100 → okW p w → s ∈ sdW p w → imgB s = true
  | [], _, _, _, _, h => absurd h List.not_mem_nil
  | d :: w, p, s, hp, hw, h => by
    obtain ⟨h1, h2, h3⟩ := hw
    rcases List.mem_cons.mp h with e | e
    · have := img_all p hp d h1
      rw [h2] at this
      rw [e]
      exact this
    · exact img_sdW (nb_lt hp h2) h3 e
theorem on_img {N : Ng} (i : Inv N) {l s : Nat} (h : imgB s = false) : nOn N l s = false := by
  by_cases hl : l < nNl N
  · refine decide_eq_false (fun z => ?_)
    rw [img_sdW (i.st hl) (i.ok hl) z] at h
    cases h
  · unfold nOn
    rw [i.off (Nat.le_of_not_lt hl)]
    simp [sdW]
theorem mk_img {N : Ng} (i : Inv N) {s : Nat} (h : imgB s = false) : nMk N s = 0 := by
  apply Nat.eq_of_testBit_eq
  intro l
  unfold nMk
  rw [msk_bit, on_img i h]
  simp
