def mxP (N : Ng) : Nat → Nat
  | 0 => 0
  | n + 1 => max (mxP N n) (popc (nMk N (phi n)))
theorem mxP_le (N : Ng) : ∀ n, mxP N n ≤ 12
  | 0 => Nat.zero_le _
  | n + 1 => Nat.max_le.mpr ⟨mxP_le N n, popc_le _⟩
theorem mxP_ge {N : Ng} : ∀ {n t : Nat}, t < n → popc (nMk N (phi t)) ≤ mxP N n
  | n + 1, t, h => by
    rw [mxP]
    rcases (show t < n ∨ t = n by omega) with e | e
    · exact Nat.le_trans (mxP_ge e) (Nat.le_max_left _ _)
    · rw [e]; exact Nat.le_max_right _ _
theorem mxW_ge {M : Nat → Nat} : ∀ {n t : Nat}, t < n → popc (M t) ≤ mxW M n
  | n + 1, t, h => by
    rw [mxW]
    rcases (show t < n ∨ t = n by omega) with e | e
    · exact Nat.le_trans (mxW_ge e) (Nat.le_max_left _ _)
    · rw [e]; exact Nat.le_max_right _ _
theorem mxP_up {N : Ng} {m : Nat} : ∀ {n : Nat}, (∀ t, t < n → popc (nMk N (phi t)) ≤ m) → mxP N n ≤ m
  | 0, _ => Nat.zero_le _
  | n + 1, h => Nat.max_le.mpr ⟨mxP_up (fun s hs => h s (by omega)), h n (by omega)⟩
theorem phi_sur {s : Nat} (hs : s < 200) (h : imgB s = true) : ∃ t, t < 180 ∧ phi t = s := by
  have h1 : s ∈ (List.range 180).map phi := phi_perm.mem_iff.mpr (List.mem_filter.mpr ⟨List.mem_range.mpr hs, h⟩)
  obtain ⟨t, ht, e⟩ := List.mem_map.mp h1
  exact ⟨t, List.mem_range.mp ht, e⟩
theorem phi_lt {t : Nat} (h : t < 180) : phi t < 200 := by
  unfold phi
  split <;> omega
theorem popc_z0 : popc 0 = 0 := (popc_zero (by decide)).mpr rfl
theorem mxP_eq {N : Ng} (i : Inv N) : mxP N 180 = mxW (nMk N) 200 := by
  apply Nat.le_antisymm
  · exact mxP_up (fun t ht => mxW_ge (phi_lt ht))
  · refine mxW_max (fun s hs => ?_)
    by_cases e : imgB s = true
    · obtain ⟨t, ht, rfl⟩ := phi_sur hs e
      exact mxP_ge ht
    · rw [mk_img i (Bool.eq_false_iff.mpr e), popc_z0]; exact Nat.zero_le _
theorem all_0 {N : Ng} (i : Inv N) : fb_sm (fun s => fb_sm (nPr N) (popc (nMk N (phi s)))) 180 = nCost N := sm_phi (f := fun s => fb_sm (nPr N) (popc (nMk N s))) (fun s _ e => by
  show fb_sm (nPr N) (popc (nMk N s)) = 0
  rw [mk_img i e, popc_z0]; rfl)
theorem all_1 {N : Ng} (i : Inv N) : fb_ct (fun s => decide (¬ nMk N (phi s) = 0)) 180 = fb_ct (fun s => decide (¬ nMk N s = 0)) 200 := ct_phi (p := fun s => decide (¬ nMk N s = 0)) (fun s _ e => by
  show decide (¬ nMk N s = 0) = false
  rw [mk_img i e]; rfl)
theorem sm_swap (f : Nat → Nat → Nat) (m : Nat) : ∀ n, fb_sm (fun s => fb_sm (fun l => f l s) n) m = fb_sm (fun l => fb_sm (fun s => f l s) m) n
  | 0 => by
    show fb_sm (fun _ => 0) m = 0
    rw [fb_sm_const]; rfl
  | n + 1 => by
    rw [fb_sm_succ, ← sm_swap f m n, ← fb_sm_add]
    rfl
theorem sdW_len : ∀ (w : List Nat) (p : Nat), (sdW p w).length = w.length
  | [], _ => rfl
  | d :: w, p => congrArg (· + 1) (sdW_len w (stp p d))
theorem sum_ones : ∀ (ss : List Nat), (ss.map (fun _ => 1)).sum = ss.length
  | [] => rfl
  | _ :: ss => by rw [List.map_cons, List.sum_cons, sum_ones ss, List.length_cons]; omega
theorem on_len {N : Ng} (i : Inv N) {l : Nat} (hl : l < nNl N) : fb_sm (fun s => if nOn N l s = true then 1 else 0) 200 = (nWy N l).length := by
  have h1 := fb_sm_list (fun _ => 1) (n := 200) (i.sd hl) (fun s hs => sdW_lt (i.st hl) (i.ok hl) hs)
  rw [sum_ones, sdW_len] at h1
  rw [← h1]
  refine fb_sm_cong (fun s _ => ?_)
  show (if nOn N l s = true then 1 else 0) = if s ∈ sdW (nSt N l) (nWy N l) then 1 else 0
  unfold nOn
  by_cases e : s ∈ sdW (nSt N l) (nWy N l)
  · rw [if_pos e, if_pos (decide_eq_true e)]
  · rw [if_neg e, if_neg (by rw [decide_eq_true_iff]; exact e)]
theorem all_5 {N : Ng} (i : Inv N) : fb_sm (fun s => popc (nMk N (phi s))) 180 = fb_sm (fun l => (nWy N l).length) (nNl N) := by
  rw [sm_phi (f := fun s => popc (nMk N s)) (fun s _ e => by show popc (nMk N s) = 0; rw [mk_img i e, popc_z0])]
  rw [show fb_sm (fun s => popc (nMk N s)) 200 = fb_sm (fun s => fb_sm (fun l => if nOn N l s = true then 1 else 0) (nNl N)) 200 from fb_sm_cong (fun s _ => by
    show popc (nMk N s) = _
    rw [← wid_eq i, ct_sm])]
  rw [sm_swap (fun l s => if nOn N l s = true then 1 else 0)]
  exact fb_sm_cong (fun l hl => on_len i hl)
def e5 (N : Ng) (p l : Nat) : Nat := if a5 N p l = true then 1 else 0
def e10 (N : Ng) (p l : Nat) : Nat := if a10 N p l = true then 1 else 0
theorem e5_c {N : Ng} {p l : Nat} : (e5 N p l = 1 ∧ atM N l p = 5) ∨ (e5 N p l = 0 ∧ ¬ atM N l p = 5) := by
  unfold e5 a5
  by_cases h : atM N l p = 5
  · exact Or.inl ⟨if_pos (decide_eq_true h), h⟩
  · exact Or.inr ⟨if_neg (by rw [decide_eq_true_iff]; exact h), h⟩
theorem e10_c {N : Ng} {p l : Nat} : (e10 N p l = 1 ∧ atM N l p = 10) ∨ (e10 N p l = 0 ∧ ¬ atM N l p = 10) := by
  unfold e10 a10
  by_cases h : atM N l p = 10
  · exact Or.inl ⟨if_pos (decide_eq_true h), h⟩
  · exact Or.inr ⟨if_neg (by rw [decide_eq_true_iff]; exact h), h⟩
theorem xstep {N : Ng} {p a j n c T : Nat} (hj : j < n) (b : Nat) (hb : (b = 1 ∧ ((atM N a p = 5 ∧ atM N j p = 10) ∨ (atM N a p = 10 ∧ atM N j p = 5))) ∨ (b = 0 ∧ ¬ ((atM N a p = 5 ∧ atM N j p = 10) ∨ (atM N a p = 10 ∧ atM N j p = 5)))) (hT : c + (e5 N p a * rst (a10 N p) n j + e10 N p a * rst (a5 N p) n j) = T) : c + b + (e5 N p a * rst (a10 N p) n (j + 1) + e10 N p a * rst (a5 N p) n (j + 1)) = T := by
  have h1 : rst (a10 N p) n j = rst (a10 N p) n (j + 1) + e10 N p j := rst_s hj
  have h2 : rst (a5 N p) n j = rst (a5 N p) n (j + 1) + e5 N p j := rst_s hj
  rw [h1, h2] at hT
  rcases e5_c (N := N) (p := p) (l := a) with ⟨q1, q2⟩ | ⟨q1, q2⟩ <;> rcases e10_c (N := N) (p := p) (l := a) with ⟨q3, q4⟩ | ⟨q3, q4⟩ <;> rcases e5_c (N := N) (p := p) (l := j) with ⟨q5, q6⟩ | ⟨q5, q6⟩ <;> rcases e10_c (N := N) (p := p) (l := j) with ⟨q7, q8⟩ | ⟨q7, q8⟩ <;> rw [q1, q3] at hT ⊢ <;> omega
theorem xouter {N : Ng} {p a n c T : Nat} (ha : a < n) (hS : c + rst (a5 N p) n a * rst (a10 N p) n a = T) : ∃ T', c + (e5 N p a * rst (a10 N p) n (a + 1) + e10 N p a * rst (a5 N p) n (a + 1)) = T' ∧ T' + rst (a5 N p) n (a + 1) * rst (a10 N p) n (a + 1) = T := by
  have h1 : rst (a10 N p) n a = rst (a10 N p) n (a + 1) + e10 N p a := rst_s ha
  have h2 : rst (a5 N p) n a = rst (a5 N p) n (a + 1) + e5 N p a := rst_s ha
  refine ⟨_, rfl, ?_⟩
  rw [h1, h2] at hS
  rcases e5_c (N := N) (p := p) (l := a) with ⟨q1, q2⟩ | ⟨q1, q2⟩ <;> rcases e10_c (N := N) (p := p) (l := a) with ⟨q3, q4⟩ | ⟨q3, q4⟩ <;> rw [q1, q3] at hS ⊢
  · omega
  · simp only [Nat.add_zero, Nat.add_mul, Nat.mul_add, Nat.one_mul, Nat.mul_one, Nat.zero_mul, Nat.mul_zero] at hS ⊢; omega
  · simp only [Nat.add_zero, Nat.add_mul, Nat.mul_add, Nat.one_mul, Nat.mul_one, Nat.zero_mul, Nat.mul_zero] at hS ⊢; omega
  · simp only [Nat.add_zero, Nat.add_mul, Nat.mul_add, Nat.one_mul, Nat.mul_one, Nat.zero_mul, Nat.mul_zero] at hS ⊢; omega
noncomputable def FE (N : Ng) (p a j : Nat) : Bool := @decide (∃ x y, x < y ∧ y < nNl N ∧ (x < a ∨ (x = a ∧ y < j)) ∧ fkX N p x y) (Classical.propDecidable _)
theorem FE_t {N : Ng} {p a j : Nat} : FE N p a j = true ↔ ∃ x y, x < y ∧ y < nNl N ∧ (x < a ∨ (x = a ∧ y < j)) ∧ fkX N p x y := by
  unfold FE
  exact @decide_eq_true_iff _ (Classical.propDecidable _)
theorem FE_s {N : Ng} {p a j : Nat} (h1 : a < j) (h2 : j < nNl N) : FE N p a (j + 1) = true ↔ FE N p a j = true ∨ fkX N p a j := by
  rw [FE_t, FE_t]
  constructor
  · rintro ⟨x, y, q1, q2, q3, q4⟩
    by_cases e : x = a ∧ y = j
    · rw [e.1, e.2] at q4; exact Or.inr q4
    · exact Or.inl ⟨x, y, q1, q2, by omega, q4⟩
  · rintro (⟨x, y, q1, q2, q3, q4⟩ | q)
    · exact ⟨x, y, q1, q2, by omega, q4⟩
    · exact ⟨a, j, h1, h2, by omega, q⟩
theorem FE_n {N : Ng} {p a : Nat} : FE N p a (nNl N) = FE N p (a + 1) 0 := by
  apply Bool.eq_iff_iff.mpr
  rw [FE_t, FE_t]
  exact ⟨fun ⟨x, y, q1, q2, q3, q4⟩ => ⟨x, y, q1, q2, by omega, q4⟩, fun ⟨x, y, q1, q2, q3, q4⟩ => ⟨x, y, q1, q2, by omega, q4⟩⟩
theorem FE_0 {N : Ng} {p a : Nat} : FE N p a (a + 1) = FE N p a 0 := by
  apply Bool.eq_iff_iff.mpr
  rw [FE_t, FE_t]
  exact ⟨fun ⟨x, y, q1, q2, q3, q4⟩ => ⟨x, y, q1, q2, by omega, q4⟩, fun ⟨x, y, q1, q2, q3, q4⟩ => ⟨x, y, q1, q2, by omega, q4⟩⟩
theorem FE_st {N : Ng} {p : Nat} : ¬ FE N p 0 0 = true := fun z => by
  obtain ⟨x, y, q1, q2, q3, q4⟩ := FE_t.mp z
  omega
theorem FE_f {N : Ng} (i : Inv N) {p : Nat} : FE N p (nNl N) 0 = true ↔ forkB (nMk N) p = true := by
  rw [FE_t, fork_e i]
  exact ⟨fun ⟨x, y, q1, q2, q3, q4⟩ => ⟨x, y, q1, q2, q4⟩, fun ⟨x, y, q1, q2, q4⟩ => ⟨x, y, q1, q2, by omega, q4⟩⟩
