theorem tryT_ex {α : Type} {f : Nat → Option α} {x : α} : ∀ {c t : Nat}, tryT f c t = some x → ∃ j, t ≤ j ∧ j < t + c ∧ f j = some x
  | 0, _, h => by cases h
  | c + 1, t, h => by
    cases e : f t with
    | some y =>
      rw [tryT_s e] at h
      cases h
      exact ⟨t, Nat.le_refl _, by omega, e⟩
    | none =>
      rw [tryT_n e] at h
      obtain ⟨j, h1, h2, h3⟩ := tryT_ex h
      exact ⟨j, by omega, by omega, h3⟩
theorem tryT_ne {α : Type} {f : Nat → Option α} {j : Nat} : ∀ {c t : Nat}, t ≤ j → j < t + c → f j ≠ none → tryT f c t ≠ none
  | 0, t, h1, h2, _ => absurd h2 (by omega)
  | c + 1, t, h1, h2, h3 => by
    cases e : f t with
    | some y => rw [tryT_s e]; intro z; cases z
    | none =>
      rw [tryT_n e]
      exact tryT_ne (by rcases (show t = j ∨ t < j by omega) with z | z; rw [z] at e; exact absurd e h3; exact z) (by omega) h3
theorem dfs_n {W : Nat → Bool} {C : Nat → Nat} {m n k : Nat} {col : Nat → Nat} {used : Nat} (h : W k = false) : dfs W C m (n + 1) k col used = dfs W C m n (k + 1) col used := by rw [dfs, if_neg (by rw [h]; decide)]
theorem memT_zero {W : Nat → Bool} {k t : Nat} {col : Nat → Nat} {c : Nat} (h : memT W k col t &&& c = 0) {a : Nat} (ha : a < k) (ha2 : a < 12) (hW : W a = true) (hc : c.testBit a = true) : col a ≠ t := by
  intro e
  have h1 := congrArg (fun x => x.testBit a) h
  simp only [Nat.testBit_and, memT_bit ha2, hc] at h1
  simp [ha, hW, e] at h1
/-- the row that is found is a good one -/
theorem dfs_sound {W : Nat → Bool} {C : Nat → Nat} {m : Nat} : ∀ {n k : Nat} {col : Nat → Nat} {used : Nat} {col' : Nat → Nat}, n + k = 12 → dfs W C m n k col used = some col' → (∀ l, l < k → col' l = col l) ∧ ∀ b, k ≤ b → b < 12 → W b = true → col' b < m ∧ ∀ a, a < b → W a = true → (C b).testBit a = true → col' a ≠ col' b
  | 0, k, col, used, col', hk, h => by
    rw [dfs] at h
    cases h
    exact ⟨fun _ _ => rfl, fun b h1 h2 => by omega⟩
  | n + 1, k, col, used, col', hk, h => by
    cases hW : W k with
    | false =>
      rw [dfs_n hW] at h
      obtain ⟨a1, a2⟩ := dfs_sound (by omega) h
      refine ⟨fun l hl => a1 l (by omega), fun b h1 h2 h3 => ?_⟩
      rcases (show b = k ∨ k + 1 ≤ b by omega) with z | z
      · rw [z, hW] at h3; cases h3
      · exact a2 b z h2 h3
    | true =>
      rw [dfs_s hW] at h
      obtain ⟨t, h1, h2, h3⟩ := tryT_ex h
      by_cases hm : memT W k col t &&& C k = 0
      · rw [stepF_t hm] at h3
        obtain ⟨a1, a2⟩ := dfs_sound (by omega) h3
        have hlow : ∀ l, l < k → col' l = col l := fun l hl => by rw [a1 l (by omega), va_up_ne _ _ (by omega)]
        have hk' : col' k = t := by rw [a1 k (by omega), va_up_s]
        refine ⟨hlow, fun b h4 h5 h6 => ?_⟩
        rcases (show b = k ∨ k + 1 ≤ b by omega) with z | z
        · subst z
          rw [hk']
          refine ⟨by omega, fun a ha hWa hca => ?_⟩
          rw [hlow a ha]
          exact memT_zero hm ha (by omega) hWa hca
        · exact a2 b z h5 h6
      · rw [stepF_f hm] at h3; cases h3
/-- with twelve there is always one -/
theorem dfs_12 {W : Nat → Bool} {C : Nat → Nat} : ∀ {n k : Nat} {col : Nat → Nat} {used : Nat}, n + k = 12 → used ≤ k → (∀ l, l < k → W l = true → col l < used) → dfs W C 12 n k col used ≠ none
  | 0, k, col, used, _, _, _ => by rw [dfs]; intro z; cases z
  | n + 1, k, col, used, hk, hu, hc => by
    cases hW : W k with
    | false =>
      rw [dfs_n hW]
      exact dfs_12 (by omega) (by omega) (fun l hl hw => hc l (by rcases (show l < k ∨ l = k by omega) with z | z; exact z; rw [z, hW] at hw; cases hw) hw)
    | true =>
      rw [dfs_s hW]
      refine tryT_ne (j := used) (Nat.zero_le _) (by omega) ?_
      have hz : memT W k col used = 0 := by
        apply ext12 (memT_lt _ _ _ _) (by decide)
        intro l hl
        rw [memT_bit hl]
        by_cases y : l < k
        · cases hwl : W l with
          | false => simp
          | true =>
            have := hc l y hwl
            simp [y, show ¬ col l = used by omega]
        · simp [y]
      rw [stepF_t (by rw [hz]; simp)]
      refine dfs_12 (by omega) (by omega) (fun l hl hw => ?_)
      by_cases e : l = k
      · rw [e, va_up_s]; omega
      · rw [va_up_ne _ _ e]
        have := hc l (by omega) hw
        omega
theorem ct_inj {p : Nat → Bool} {f : Nat → Nat} {n m : Nat} (h1 : ∀ l, l < n → p l = true → f l < m) (h2 : ∀ a b, a < b → b < n → p a = true → p b = true → f a ≠ f b) : fb_ct p n ≤ m := by
  have hk : ∀ k, ∃ i, k < fb_ct p n → (i < n ∧ p i = true ∧ fb_ct p i = k) := fun k => by
    by_cases h : k < fb_ct p n
    · obtain ⟨i, h3⟩ := fb_ct_kth h
      exact ⟨i, fun _ => h3⟩
    · exact ⟨0, fun z => absurd z h⟩
  refine fb_holes m (fb_ct p n) (fun k => f (Classical.choose (hk k))) (fun k hlt => ?_) (fun i j hij hj => ?_)
  · have := Classical.choose_spec (hk k) hlt
    exact h1 _ this.1 this.2.1
  · have a1 := Classical.choose_spec (hk i) (by omega)
    have a2 := Classical.choose_spec (hk j) hj
    show f (Classical.choose (hk i)) ≠ f (Classical.choose (hk j))
    rcases Nat.lt_trichotomy (Classical.choose (hk i)) (Classical.choose (hk j)) with z | z | z
    · exact h2 _ _ z a2.1 a1.2.1 a2.2.1
    · have := a1.2.2.symm.trans ((congrArg (fb_ct p) z).trans a2.2.2)
      omega
    · exact fun e => h2 _ _ z a1.1 a2.2.1 a1.2.1 e.symm
theorem clM_bit {M : Nat → Nat} {i j : Nat} : ∀ {n : Nat}, (clM M i n).testBit j = true ↔ ∃ s, s < n ∧ (M s).testBit i = true ∧ (M s).testBit j = true
  | 0 => by simp [clM]
  | n + 1 => by
    rw [clM]
    by_cases h : (M n).testBit i = true
    · rw [if_pos h, Nat.testBit_or, Bool.or_eq_true, clM_bit]
      constructor
      · rintro (⟨s, h1, h2⟩ | h1)
        · exact ⟨s, by omega, h2⟩
        · exact ⟨n, by omega, h, h1⟩
      · rintro ⟨s, h1, h2, h3⟩
        rcases (show s < n ∨ s = n by omega) with z | z
        · exact Or.inl ⟨s, z, h2, h3⟩
        · rw [z] at h3; exact Or.inr h3
    · rw [if_neg h, clM_bit]
      constructor
      · rintro ⟨s, h1, h2⟩
        exact ⟨s, by omega, h2⟩
      · rintro ⟨s, h1, h2, h3⟩
        rcases (show s < n ∨ s = n by omega) with z | z
        · exact ⟨s, z, h2, h3⟩
        · rw [z] at h2; exact absurd h2 h
def nCl (N : Ng) (j : Nat) : Nat := clM (nMk N) j 200
def nDf (N : Ng) (m : Nat) : Option (Nat → Nat) := dfs (wmF N) (nCl N) m 12 0 (fun _ => 0) 0
theorem on_wm {N : Ng} {l s : Nat} (h : nOn N l s = true) : wmF N l = true := by
  apply decide_eq_true
  intro e
  have := of_decide_eq_true h
  rw [e] at this
  simp [sdW] at this
theorem df_width {N : Ng} {m : Nat} {col : Nat → Nat} (h : nDf N m = some col) {s : Nat} (hs : s < 200) : popc (nMk N s) ≤ m := by
  obtain ⟨-, h2⟩ := dfs_sound (by decide) h
  rw [nMk, popc_msk]
  refine ct_inj (f := col) (fun l hl hp => (h2 l (Nat.zero_le _) hl (on_wm hp)).1) (fun a b hab hb ha hb2 => ?_)
  refine (h2 b (Nat.zero_le _) hb (on_wm hb2)).2 a hab (on_wm ha) ?_
  exact clM_bit.mpr ⟨s, hs, by rw [bit_mk hb]; exact hb2, by rw [bit_mk (by omega)]; exact ha⟩
theorem mxW_max {M : Nat → Nat} {m : Nat} : ∀ {n : Nat}, (∀ s, s < n → popc (M s) ≤ m) → mxW M n ≤ m
  | 0, _ => Nat.zero_le _
  | n + 1, h => Nat.max_le.mpr ⟨mxW_max (fun s hs => h s (by omega)), h n (by omega)⟩
theorem tn_ex (N : Ng) : ∃ m, (∃ col, nDf N m = some col) ∧ (∀ m', m' < m → nDf N m' = none) ∧ m ≤ 12 := by
  have h12 : ∃ m, ∃ col, nDf N m = some col := by
    have h := dfs_12 (W := wmF N) (C := nCl N) (n := 12) (k := 0) (col := fun _ => 0) (used := 0) (by decide) (Nat.le_refl _) (fun l hl => absurd hl (Nat.not_lt_zero _))
    cases e : nDf N 12 with
    | none => exact absurd e h
    | some col => exact ⟨12, col, e⟩
  obtain ⟨m, h1, h2⟩ := pk_least (fun m => ∃ col, nDf N m = some col) h12
  refine ⟨m, h1, fun m' hm' => ?_, ?_⟩
  · cases e : nDf N m' with
    | none => rfl
    | some col => exact absurd ⟨col, e⟩ (h2 m' hm')
  · rcases Nat.lt_or_ge 12 m with z | z
    · exfalso
      have h := dfs_12 (W := wmF N) (C := nCl N) (n := 12) (k := 0) (col := fun _ => 0) (used := 0) (by decide) (Nat.le_refl _) (fun l hl => absurd hl (Nat.not_lt_zero _))
      cases e : nDf N 12 with
      | none => exact h e
      | some col => exact h2 12 z ⟨col, e⟩
    · exact z
noncomputable def tnN (N : Ng) : Nat := Classical.choose (tn_ex N)
theorem tnN_ok (N : Ng) : (∃ col, nDf N (tnN N) = some col) ∧ (∀ m', m' < tnN N → nDf N m' = none) ∧ tnN N ≤ 12 := Classical.choose_spec (tn_ex N)
noncomputable def tcN (N : Ng) : Nat → Nat := Classical.choose (tnN_ok N).1
theorem tcN_ok (N : Ng) : nDf N (tnN N) = some (tcN N) := Classical.choose_spec (tnN_ok N).1
theorem tn_ge (N : Ng) : mxW (nMk N) 200 ≤ tnN N := mxW_max (fun s hs => df_width (tcN_ok N) hs)
noncomputable def vTint (N : Ng) (x : Int32) : Int32 := ite' (x = -1000000) (nI (tnN N)) (ite' (inR x (nNl N)) (ite' (nWy N (cl x) = []) (-1000000) (nI (tcN N (cl x)))) (-1000001))
noncomputable def O_tint (S : St) (x : Int32) : Int32 × St := (vTint S.2.1 x, S)
