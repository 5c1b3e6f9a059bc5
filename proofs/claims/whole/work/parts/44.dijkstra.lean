/-! ===== going out from the goal, nearest places first ===== -/
def DJ (sh : Nat → Bool) (wt : Nat → Nat) (g : Nat) (D : Nat → Option Nat) (F : Nat → Bool) (lf q : Nat → Nat) (n p0 d0 : Nat) : Prop :=
  (∀ p, p < 100 → lf p = 536870912 ∨ (lf p ≤ 1280100 ∧ ∃ z, D p = some z ∧ z ≤ lf p)) ∧
  (∀ p, p < 100 → F p = true → D p = some (lf p)) ∧
  (∀ p, p < 100 → F p = true → ∀ d, d < 4 → (p = p0 → d < d0) → ∀ t, nb p d = some t → sh t = false → lf t ≤ lf p + wt (sA p t d)) ∧
  (∀ p, p < 100 → F p = false → lf p < 536870912 → 0 < kc q n (lf p * 128 + p)) ∧
  (∀ k, 0 < kc q n k → k % 128 < 100 ∧ lf (k % 128) ≤ k / 128 ∧ k / 128 ≤ 1280100) ∧
  (∀ k, kc q n k ≤ 1) ∧
  (∀ p, p < 100 → F p = true → kc q n (lf p * 128 + p) = 0) ∧ lf g = 0 ∧ ∀ p, lf p ≤ 536870912
section DJS
variable {sh : Nat → Bool} {wt : Nat → Nat} {g : Nat} {D : Nat → Option Nat} {F : Nat → Bool} {lf q : Nat → Nat} {n : Nat}
theorem DJ.front {p0 : Nat} (hp0 : 100 ≤ p0) (h : DJ sh wt g D F lf q n p0 0) (hB : Bell sh wt g D) (hw : wtOK wt) : ∀ y p, p < 100 → D p = some y → F p = true ∨ ∃ v, v < 100 ∧ F v = false ∧ lf v < 536870912 ∧ lf v ≤ y := by
  obtain ⟨d1, d2, d3, d4, d5, d6, d7, d8, d9⟩ := h
  intro y
  induction y using Nat.strongRecOn with
  | _ y ih =>
    intro p hp hD
    by_cases hF : F p = true
    · exact Or.inl hF
    · have hF0 : F p = false := Bool.eq_false_iff.mpr hF
      right
      by_cases e : p = g
      · subst e
        exact ⟨p, hp, hF0, by omega, by omega⟩
      · obtain ⟨ho, d, t, x, hd, hn, hx, rfl⟩ := hB.2.2 p y hp e hD
        have ht := nb_lt hp hn
        have hwt := hw (sA p t d)
        rcases ih x (by omega) t ht hx with h1 | ⟨v, v1, v2, v3, v4⟩
        · obtain ⟨s1, s2⟩ := nb_sym hp hd hn
          have h2 := d3 t ht h1 ((d + 2) % 4) (by omega) (fun z => by omega) p s1 ho
          have h3 := d2 t ht h1
          rw [hx] at h3
          have h3 := Option.some.inj h3
          rw [s2] at h2
          have h4 := hB.max hw hp hD
          exact ⟨p, hp, hF0, by omega, by omega⟩
        · exact ⟨v, v1, v2, v3, by omega⟩
theorem DJ.pos {p0 d0 : Nat} (h : DJ sh wt g D F lf q n p0 d0) {k : Nat} (hk : 0 < kc q n k) : k % 128 < 100 ∧ lf (k % 128) ≤ k / 128 ∧ k / 128 ≤ 1280100 := h.2.2.2.2.1 k hk
/-- a key is pulled -/
theorem DJ.stale {q' : Nat → Nat} {k0 p0 d0 : Nat} (h : DJ sh wt g D F lf q (n + 1) p0 d0) (hc : ∀ k, kc q' n k + (if k = k0 then 1 else 0) = kc q (n + 1) k) (hs : k0 / 128 ≠ lf (k0 % 128)) : DJ sh wt g D F lf q' n p0 d0 := by
  obtain ⟨d1, d2, d3, d4, d5, d6, d7, d8, d9⟩ := h
  refine ⟨d1, d2, d3, fun p hp h1 h2 => ?_, fun k hk => d5 k ?_, fun k => ?_, fun p hp h1 => ?_, d8, d9⟩
  · have h3 := d4 p hp h1 h2
    have h4 := hc (lf p * 128 + p)
    rw [if_neg (fun e => hs (by rw [← e, show (lf p * 128 + p) % 128 = p by omega]; omega))] at h4
    omega
  · have := hc k; omega
  · have := hc k; have := d6 k; omega
  · have := hc (lf p * 128 + p); have := d7 p hp h1; omega
theorem DJ.least {p0 : Nat} (hp0 : 100 ≤ p0) (h : DJ sh wt g D F lf q (n + 1) p0 0) (hO : hOrd q (n + 1)) (hB : Bell sh wt g D) (hw : wtOK wt) : ∀ v, v < 100 → F v = false → lf v < 536870912 → q 0 / 128 ≤ lf v := by
  intro v hv h1 h2
  have h3 := h.2.2.2.1 v hv h1 h2
  obtain ⟨i, hi, e⟩ := kc_mem.mp h3
  have h4 := hOrd_min hO i hi
  omega
theorem DJ.fresh {q' : Nat → Nat} {p0 : Nat} (hp0 : 100 ≤ p0) (h : DJ sh wt g D F lf q (n + 1) p0 0) (hO : hOrd q (n + 1)) (hB : Bell sh wt g D) (hw : wtOK wt) (hc : ∀ k, kc q' n k + (if k = q 0 then 1 else 0) = kc q (n + 1) k) (hs : q 0 / 128 = lf (q 0 % 128)) :
    F (q 0 % 128) = false ∧ D (q 0 % 128) = some (lf (q 0 % 128)) ∧ DJ sh wt g D (va_up F (q 0 % 128) true) lf q' n (q 0 % 128) 0 := by
  have hl := DJ.least hp0 h hO hB hw
  have hfr := DJ.front hp0 h hB hw
  have hk0 : 0 < kc q (n + 1) (q 0) := kc_mem.mpr ⟨0, by omega, rfl⟩
  obtain ⟨hp, -, hsm⟩ := h.pos hk0
  obtain ⟨d1, d2, d3, d4, d5, d6, d7, d8, d9⟩ := h
  have e0 : lf (q 0 % 128) * 128 + q 0 % 128 = q 0 := by omega
  have h6 := d6 (q 0)
  have hc0 := hc (q 0)
  rw [if_pos rfl] at hc0
  generalize hpe : q 0 % 128 = p at *
  have hF : F p = false := by
    cases z : F p with
    | false => rfl
    | true =>
      have := d7 p hp z
      rw [e0] at this
      omega
  have hD : D p = some (lf p) := by
    rcases d1 p hp with z | ⟨-, z, h1, h2⟩
    · omega
    · rcases hfr z p hp h1 with y | ⟨v, v1, v2, v3, v4⟩
      · rw [hF] at y; cases y
      · have := hl v v1 v2 v3
        rw [h1]
        congr 1
        omega
  refine ⟨hF, hD, d1, fun p' hp' h1 => ?_, fun p' hp' h1 d hd h2 t hn ho => ?_, fun p' hp' h1 h2 => ?_, fun k hk => d5 k ?_, fun k => ?_, fun p' hp' h1 => ?_, d8, d9⟩
  · by_cases e : p' = p
    · rw [e]; exact hD
    · rw [va_up_ne _ _ e] at h1; exact d2 p' hp' h1
  · by_cases e : p' = p
    · exact absurd (h2 e) (Nat.not_lt_zero _)
    · rw [va_up_ne _ _ e] at h1; exact d3 p' hp' h1 d hd (fun z => by omega) t hn ho
  · by_cases e : p' = p
    · rw [e, va_up_s] at h1; cases h1
    · rw [va_up_ne _ _ e] at h1
      have h3 := d4 p' hp' h1 h2
      have h4 := hc (lf p' * 128 + p')
      rw [if_neg (fun z => e (by omega))] at h4
      omega
  · have := hc k; omega
  · have := hc k; have := d6 k; omega
  · by_cases e : p' = p
    · rw [e, e0]; omega
    · rw [va_up_ne _ _ e] at h1
      have := hc (lf p' * 128 + p'); have := d7 p' hp' h1; omega
/-- one direction from p is looked at -/
theorem DJ.skip {p d : Nat} (h : DJ sh wt g D F lf q n p d) (hs : ∀ t, nb p d = some t → sh t = false → lf t ≤ lf p + wt (sA p t d)) : DJ sh wt g D F lf q n p (d + 1) := by
  obtain ⟨d1, d2, d3, d4, d5, d6, d7, d8, d9⟩ := h
  refine ⟨d1, d2, fun p' hp' h1 d' hd' h2 t hn ho => ?_, d4, d5, d6, d7, d8, d9⟩
  by_cases e : p' = p
  · subst e
    rcases (show d' < d ∨ d' = d by have := h2 rfl; omega) with z | rfl
    · exact d3 p' hp' h1 d' hd' (fun _ => z) t hn ho
    · exact hs t hn ho
  · exact d3 p' hp' h1 d' hd' (fun z => absurd z e) t hn ho
theorem DJ.relax {q' : Nat → Nat} {p d t : Nat} (h : DJ sh wt g D F lf q n p d) (hB : Bell sh wt g D) (hw : wtOK wt) (hp : p < 100) (hd : d < 4) (hF : F p = true) (hn : nb p d = some t) (ho : sh t = false) (hlt : lf p + wt (sA p t d) < lf t) (hc : ∀ k, kc q' (n + 1) k = kc q n k + (if k = (lf p + wt (sA p t d)) * 128 + t then 1 else 0)) :
    DJ sh wt g D F (va_up lf t (lf p + wt (sA p t d))) q' (n + 1) p (d + 1) := by
  obtain ⟨d1, d2, d3, d4, d5, d6, d7, d8, d9⟩ := h
  have ht := nb_lt hp hn
  obtain ⟨s1, s2⟩ := nb_sym hp hd hn
  have hDp := d2 p hp hF
  have hmx := hB.max hw hp hDp
  have hwt := hw (sA p t d)
  obtain ⟨y, hy, hyl⟩ := hB.2.1 t p ((d + 2) % 4) (lf p) ht (by omega) s1 ho hDp
  rw [s2] at hyl
  have htF : F t = false := by
    cases z : F t with
    | false => rfl
    | true =>
      have := d2 t ht z
      rw [hy] at this
      have := Option.some.inj this
      omega
  have hpt : p ≠ t := fun e => by rw [e, htF] at hF; cases hF
  have htg : g ≠ t := fun e => by rw [← e, d8] at hlt; omega
  generalize hsum : lf p + wt (sA p t d) = sum at *
  have hnew : kc q n (sum * 128 + t) = 0 := by
    rcases Nat.eq_zero_or_pos (kc q n (sum * 128 + t)) with z | z
    · exact z
    · have := (d5 _ z).2.1
      rw [show (sum * 128 + t) % 128 = t by omega] at this
      omega
  have up1 : ∀ x, x ≠ t → va_up lf t sum x = lf x := fun x hx => va_up_ne _ _ hx
  have up0 : va_up lf t sum t = sum := va_up_s _ _ _
  have upl : ∀ x, va_up lf t sum x ≤ lf x := fun x => by
    by_cases e : x = t
    · rw [e, up0]; omega
    · rw [up1 x e]; exact Nat.le_refl _
  refine ⟨fun p' hp' => ?_, fun p' hp' h1 => ?_, fun p' hp' h1 d' hd' h2 t' hn' ho' => ?_, fun p' hp' h1 h2 => ?_, fun k hk => ?_, fun k => ?_, fun p' hp' h1 => ?_, ?_, fun p' => ?_⟩
  · by_cases e : p' = t
    · subst e; rw [up0]; exact Or.inr ⟨by omega, y, hy, hyl⟩
    · rw [up1 _ e]; exact d1 p' hp'
  · have e : p' ≠ t := fun e => by rw [e, htF] at h1; cases h1
    rw [up1 _ e]; exact d2 p' hp' h1
  · have e : p' ≠ t := fun e => by rw [e, htF] at h1; cases h1
    rw [up1 _ e]
    have hold : (p' = p → d' < d) → lf t' ≤ lf p' + wt (sA p' t' d') := fun z => d3 p' hp' h1 d' hd' z t' hn' ho'
    have hu := upl t'
    by_cases e2 : p' = p
    · subst e2
      rcases (show d' < d ∨ d' = d by have := h2 rfl; omega) with z | rfl
      · have := hold (fun _ => z)
        omega
      · rw [hn] at hn'
        cases hn'
        rw [up0]; omega
    · have := hold (fun z => absurd z e2)
      omega
  · by_cases e : p' = t
    · subst e
      rw [up0, hc, if_pos rfl]; omega
    · rw [up1 _ e] at h2 ⊢
      rw [hc]
      have := d4 p' hp' h1 h2
      omega
  · rw [hc] at hk
    by_cases e : k = sum * 128 + t
    · rw [e, show (sum * 128 + t) % 128 = t by omega, up0]
      exact ⟨ht, by omega, by omega⟩
    · rw [if_neg e, Nat.add_zero] at hk
      obtain ⟨k1, k2, k3⟩ := d5 k hk
      exact ⟨k1, Nat.le_trans (upl _) k2, k3⟩
  · rw [hc]
    by_cases e : k = sum * 128 + t
    · rw [if_pos e, e, hnew]; omega
    · rw [if_neg e]; exact d6 k
  · have e : p' ≠ t := fun e => by rw [e, htF] at h1; cases h1
    rw [up1 _ e, hc, if_neg (by omega)]
    exact d7 p' hp' h1
  · rw [up1 _ htg]; exact d8
  · exact Nat.le_trans (upl p') (d9 p')
theorem DJ.full {p : Nat} (h : DJ sh wt g D F lf q n p 4) : DJ sh wt g D F lf q n 100 0 := by
  obtain ⟨d1, d2, d3, d4, d5, d6, d7, d8, d9⟩ := h
  exact ⟨d1, d2, fun p' hp' h1 d' hd' _ t hn ho => d3 p' hp' h1 d' hd' (fun _ => hd') t hn ho, d4, d5, d6, d7, d8, d9⟩
end DJS
