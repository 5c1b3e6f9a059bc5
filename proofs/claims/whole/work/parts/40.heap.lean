/-! ===== a heap of numbers in a row ===== -/
def kc (q : Nat → Nat) (n k : Nat) : Nat := fb_ct (fun i => decide (q i = k)) n
def hOrd (q : Nat → Nat) (n : Nat) : Prop := ∀ i, 0 < i → i < n → q ((i - 1) / 2) ≤ q i
def sw (q : Nat → Nat) (i j : Nat) : Nat → Nat := fun t => if t = i then q j else if t = j then q i else q t
theorem kc_succ (q : Nat → Nat) (n k : Nat) : kc q (n + 1) k = kc q n k + (if q n = k then 1 else 0) := by
  unfold kc
  rw [fb_ct_succ]
  by_cases h : q n = k <;> simp [h]
theorem kc_cong {q q' : Nat → Nat} {n k : Nat} (h : ∀ i, i < n → q i = q' i) : kc q n k = kc q' n k := fb_ct_cong (fun i hi => by rw [h i hi])
theorem kc_upd (q : Nat → Nat) {n i : Nat} (v k : Nat) (hi : i < n) : kc (fun t => if t = i then v else q t) n k + (if q i = k then 1 else 0) = kc q n k + (if v = k then 1 else 0) := by
  have h := fb_ct_upd (fun t => decide (q t = k)) (decide (v = k)) hi
  have e : (fun t => if t = i then decide (v = k) else decide (q t = k)) = (fun t => decide ((if t = i then v else q t) = k)) := by
    funext t
    split <;> rfl
  rw [e] at h
  unfold kc
  by_cases h1 : q i = k <;> by_cases h2 : v = k <;> simp [h1, h2] at h ⊢ <;> omega
theorem kc_sw {q : Nat → Nat} {n i j : Nat} (hi : i < n) (hj : j < n) (k : Nat) : kc (sw q i j) n k = kc q n k := by
  by_cases e : i = j
  · subst e
    apply kc_cong
    intro t _
    unfold sw
    split
    · rename_i h; rw [h]
    · rfl
  · have h1 := kc_upd q (q j) k hi
    have h2 := kc_upd (fun t => if t = i then q j else q t) (q i) k hj
    have e1 : kc (fun t => if t = j then q i else (fun t => if t = i then q j else q t) t) n k = kc (sw q i j) n k := by
      apply kc_cong
      intro t _
      unfold sw
      by_cases a : t = i
      · subst a; simp [e]
      · simp [a]
    rw [e1] at h2
    simp only [if_neg (Ne.symm e)] at h2
    omega
theorem kc_mem {q : Nat → Nat} {n k : Nat} : 0 < kc q n k ↔ ∃ i, i < n ∧ q i = k := by
  unfold kc
  rw [fb_ct_pos]
  simp
theorem hOrd_min {q : Nat → Nat} {n : Nat} (h : hOrd q n) : ∀ i, i < n → q 0 ≤ q i := by
  intro i
  induction i using Nat.strongRecOn with
  | _ i ih =>
    intro hi
    by_cases e : i = 0
    · rw [e]; exact Nat.le_refl _
    · exact Nat.le_trans (ih ((i - 1) / 2) (by omega) (by omega)) (h i (by omega) hi)
/-- going up: all is in order but at the hole -/
def SU (q : Nat → Nat) (n a : Nat) : Prop := (∀ i, 0 < i → i < n → i ≠ a → q ((i - 1) / 2) ≤ q i) ∧ ∀ c, 0 < c → c < n → (c - 1) / 2 = a → 0 < a → q ((a - 1) / 2) ≤ q c
theorem SU.step {q : Nat → Nat} {n a : Nat} (h : SU q n a) (ha : 0 < a) (han : a < n) (hlt : q a < q ((a - 1) / 2)) : SU (sw q a ((a - 1) / 2)) n ((a - 1) / 2) := by
  obtain ⟨h1, h2⟩ := h
  have hpa : (a - 1) / 2 ≠ a := by omega
  generalize hp : (a - 1) / 2 = p at *
  have sa : sw q a p a = q p := by simp [sw]
  have sp : sw q a p p = q a := by simp [sw, hpa]
  have so : ∀ t, t ≠ a → t ≠ p → sw q a p t = q t := fun t x y => by simp [sw, x, y]
  refine ⟨fun i i0 hi ip => ?_, fun c c0 hc hcp p0 => ?_⟩
  · by_cases e : i = a
    · subst e; rw [hp, sp, sa]; omega
    · rw [so i e ip]
      by_cases e1 : (i - 1) / 2 = a
      · rw [e1, sa]; exact h2 i i0 hi e1 ha
      · by_cases e2 : (i - 1) / 2 = p
        · rw [e2, sp]
          have := h1 i i0 hi e
          rw [e2] at this
          omega
        · rw [so _ e1 e2]; exact h1 i i0 hi e
  · have hpp : (p - 1) / 2 ≠ p := by omega
    have hpq : (p - 1) / 2 ≠ a := by omega
    have g := h1 p p0 (by omega) hpa
    rw [so _ hpq hpp]
    by_cases e : c = a
    · subst e; rw [sa]; exact g
    · have := h1 c c0 hc e
      rw [hcp] at this
      by_cases e2 : c = p
      · omega
      · rw [so c e e2]; omega
theorem SU.done {q : Nat → Nat} {n a : Nat} (h : SU q n a) (hd : a = 0 ∨ q ((a - 1) / 2) ≤ q a) : hOrd q n := fun i i0 hi => by
  by_cases e : i = a
  · subst e
    rcases hd with z | z
    · omega
    · exact z
  · exact h.1 i i0 hi e
/-- going down -/
def SD (q : Nat → Nat) (n a : Nat) : Prop := (∀ i, 0 < i → i < n → (i - 1) / 2 ≠ a → q ((i - 1) / 2) ≤ q i) ∧ ∀ c, 0 < c → c < n → (c - 1) / 2 = a → 0 < a → q ((a - 1) / 2) ≤ q c
theorem SD.step {q : Nat → Nat} {n a m : Nat} (h : SD q n a) (hm : m < n) (hma : m = 2 * a + 1 ∨ m = 2 * a + 2) (hmin : ∀ c, 0 < c → c < n → (c - 1) / 2 = a → q m ≤ q c) (hlt : q m < q a) : SD (sw q a m) n m := by
  obtain ⟨h1, h2⟩ := h
  have hpm : (m - 1) / 2 = a := by omega
  have hne : m ≠ a := by omega
  have sa : sw q a m a = q m := by simp [sw]
  have sm : sw q a m m = q a := by simp [sw, hne]
  have so : ∀ t, t ≠ a → t ≠ m → sw q a m t = q t := fun t x y => by simp [sw, x, y]
  refine ⟨fun i i0 hi ip => ?_, fun c c0 hc hcp m0 => ?_⟩
  · by_cases e : i = m
    · subst e; rw [hpm, sa, sm]; omega
    · by_cases e1 : (i - 1) / 2 = a
      · rw [e1, sa, so i (by omega) e]; exact hmin i i0 hi e1
      · rw [so _ e1 ip]
        by_cases e2 : i = a
        · subst e2; rw [sa]; exact h2 m (by omega) hm hpm i0
        · rw [so i e2 e]; exact h1 i i0 hi e1
  · rw [hpm, sa, so c (by omega) (by omega)]
    have := h1 c c0 hc (by omega)
    rw [hcp] at this
    exact this
theorem SD.done {q : Nat → Nat} {n a : Nat} (h : SD q n a) (hd : ∀ c, 0 < c → c < n → (c - 1) / 2 = a → q a ≤ q c) : hOrd q n := fun i i0 hi => by
  by_cases e : (i - 1) / 2 = a
  · rw [e]; exact hd i i0 hi e
  · exact h.1 i i0 hi e
/-- the finder's heap holds q, n keys -/
def hasH (q : Nat → Nat) (n : Nat) (h : Mem) : Prop := h 5 3 = nI n ∧ (∀ i, i < n → h 14 i = nI (q i)) ∧ ∀ i, i < n → q i < 2 ^ 31
theorem kc_lt {q q' : Nat → Nat} {n n' key B : Nat} (hq : ∀ i, i < n → q i < B) (hk : key < B) (hc : ∀ k, kc q' n' k = kc q n k + (if k = key then 1 else 0)) : ∀ i, i < n' → q' i < B := by
  intro i hi
  have h1 : 0 < kc q' n' (q' i) := kc_mem.mpr ⟨i, hi, rfl⟩
  rw [hc] at h1
  by_cases e : q' i = key
  · rw [e]; exact hk
  · rw [if_neg e, Nat.add_zero] at h1
    obtain ⟨j, hj, e2⟩ := kc_mem.mp h1
    rw [← e2]; exact hq j hj
