/-! ===== each call keeps the state well formed ===== -/
theorem ite_o {p : Prop} {a b : Int32 × St} (ha : p → Ok a.2) (hb : ¬ p → Ok b.2) : Ok (ite' p a b).2 := by
  rcases pEM p with h | h
  · rw [ite_t h]; exact ha h
  · rw [ite_f h]; exact hb h
theorem Ok.fnd {S : St} (i : Ok S) {f : Nat} (h : f ≤ 5) : Ok (fnd S f).2 := ⟨i.1, h⟩
theorem Ok.net {S : St} (i : Ok S) {N : Ng} (j : Inv N) {A : Sg} {T : Nat × (Nat → Nat)} : Ok (A, N, T, S.2.2.2) := ⟨j, i.2⟩
theorem Ok.z {N : Ng} (j : Inv N) {A : Sg} {T : Nat × (Nat → Nat)} : Ok (A, N, T, 0) := ⟨j, Nat.zero_le _⟩
theorem cl_in {x : Int32} {n : Nat} (hn : n < 2 ^ 31) (h : inR x n) : cl x < n := by
  obtain ⟨j, hj, rfl⟩ := (inR_iff hn).mp h
  rw [cl_nI (by omega)]; exact hj
theorem cl_eq {x : Int32} {n : Nat} (hn : n < 2 ^ 31) (h : inR x n) : x = nI (cl x) := by
  obtain ⟨j, hj, rfl⟩ := (inR_iff hn).mp h
  rw [cl_nI (by omega)]
theorem le_ex {v : Int32} {n : Nat} (hn : n + 1 < 2 ^ 31) (h0 : 0 ≤ v) (h1 : v ≤ nI n) : ∃ j, j ≤ n ∧ v = nI j := by
  have e : v < nI (n + 1) := Int32.lt_of_le_of_lt h1 (nI_lt (by omega) (by omega))
  obtain ⟨j, hj, rfl⟩ := (inR_iff (n := n + 1) (by omega)).mp ⟨h0, e⟩
  exact ⟨j, by omega, rfl⟩
theorem lead_inv {N : Ng} (i : Inv N) {l : Nat} (hl : l < nNl N) : Inv (o_lead N l).2 := by
  unfold o_lead
  cases e : ldO N l with
  | none => exact i.set hl (Or.inl rfl)
  | some z =>
    obtain ⟨c, w⟩ := z
    obtain ⟨y, h1, -, h2⟩ := ldO_inv i hl e
    exact i.set hl (Or.inr (isP_way i hl h1 h2))
theorem K_sheet {S : St} (i : Ok S) (s l n : Int32) : Ok (O_sheet S s l n).2 := ite_o (fun _ => ite_o (fun _ => i.fnd (by decide)) (fun _ => Ok.z i.1)) (fun _ => i)
theorem K_set {S : St} (i : Ok S) (s j v : Int32) : Ok (O_set S s j v).2 := ite_o (fun _ => ite_o (fun _ => i.fnd (by decide)) (fun _ => ite_o (fun _ => Ok.z i.1) (fun _ => i.fnd (by decide)))) (fun _ => i)
theorem K_copy {S : St} (i : Ok S) (a x b y n : Int32) : Ok (O_copy S a x b y n).2 := ite_o (fun _ => ite_o (fun _ => i.fnd (by decide)) (fun _ => ite_o (fun _ => ite_o (fun _ => Ok.z i.1) (fun _ => i.fnd (by decide))) (fun _ => i.fnd (by decide)))) (fun _ => i)
theorem K_drop {S : St} (i : Ok S) (s : Int32) : Ok (O_drop S s).2 := ite_o (fun _ => ite_o (fun _ => i.fnd (by decide)) (fun _ => Ok.z i.1)) (fun _ => i)
theorem K_lead {S : St} (i : Ok S) (x : Int32) : Ok (O_lead S x).2 := ite_o (fun h => i.net (lead_inv i.1 (cl_in (by have := i.1.nl; omega) h))) (fun _ => i)
theorem K_take {S : St} (i : Ok S) (x : Int32) : Ok (O_take S x).2 := ite_o (fun h => i.net (i.1.set (cl_in (by have := i.1.nl; omega) h) (Or.inl rfl))) (fun _ => i)
theorem K_pass {S : St} (i : Ok S) : Ok (O_pass S).2 := i.net (psF_ok i.1 _ (Nat.le_refl _)).1
theorem K_rest {S : St} (i : Ok S) : Ok (O_rest S).2 := i.net (psI_ok i.1 _).1
theorem K_as {S : St} (i : Ok S) (x k : Int32) : Ok (O_as S x k).2 := ite_o (fun _ => ite_o (fun _ => i) (fun _ => ite_o (fun _ => Ok.z i.1) (fun _ => i.fnd (by decide)))) (fun _ => i)
theorem K_ask {S : St} (i : Ok S) (x w : Int32) : Ok (O_ask S x w).2 := ite_o (fun _ => ite_o (fun _ => i) (fun _ => ite_o (fun _ => i.net i.1) (fun _ => i.net i.1))) (fun _ => i)
theorem K_lay {S : St} (i : Ok S) (x s j n : Int32) : Ok (O_lay S x s j n).2 := ite_o (fun h => ite_o (fun _ => i.fnd (by decide)) (fun _ => ite_o (fun _ => ite_o (fun e => Ok.z (i.1.set (cl_in (by have := i.1.nl; omega) h.1) (Or.inr (wk_ok i.1 (cl_in (by have := i.1.nl; omega) h.1) e).1))) (fun _ => i)) (fun _ => i.fnd (by decide)))) (fun _ => i)
theorem K_open {S : St} (i : Ok S) (x y : Int32) : Ok (O_open S x y).2 := ite_o (fun _ => i.net (i.1.setSh false (fun e => absurd e (by decide)))) (fun _ => i)
theorem K_shut {S : St} (i : Ok S) (x y : Int32) : Ok (O_shut S x y).2 := ite_o (fun h => ite_o (fun _ => i) (fun _ => ite_o (fun _ => i) (fun e => i.net (i.1.setSh true (fun _ => by
  have hx := cl_in (by decide) h.1
  have hy := cl_in (by decide) h.2
  refine ⟨Classical.byContradiction (fun z => e (Or.inl z)), (gone_iff i.1 (by omega)).mp (Classical.byContradiction (fun z => e (Or.inr z)))⟩))))) (fun _ => i)
theorem K_point {S : St} (i : Ok S) (x y : Int32) : Ok (O_point S x y).2 := ite_o (fun h => ite_o (fun _ => i) (fun e => ite_o (fun _ => i) (fun g => i.net (by
  have hx := cl_in (by decide) h.1
  have hy := cl_in (by decide) h.2
  refine i.1.addP (by omega) ?_ (Classical.byContradiction (fun z => e (Or.inr z))) (by omega)
  cases q : nSh S.2.1 (cl y * 10 + cl x) with
  | false => rfl
  | true => exact absurd (Or.inl q) e)))) (fun _ => i)
theorem K_line {S : St} (i : Ok S) (x y : Int32) : Ok (O_line S x y).2 := ite_o (fun h => ite_o (fun _ => i) (fun g => i.net (by
  have b : nNp S.2.1 < 2 ^ 31 := by have := i.1.np; omega
  exact i.1.addL (cl_in b h.1) (cl_in b h.2.1) (fun e => h.2.2 ((cl_eq b h.1).trans ((congrArg nI e).trans (cl_eq b h.2.1).symm))) (by omega)))) (fun _ => i)
theorem K_rule {S : St} (i : Ok S) (x v : Int32) : Ok (O_rule S x v).2 := ite_o (fun h => i.net (by
  obtain ⟨j, hj, rfl⟩ := le_ex (by decide) (Int32.le_trans (nI_pos' (by decide)) h.2.1) h.2.2
  rw [cl_nI (by omega)]
  have h1 : 1 ≤ j := by
    refine Nat.le_of_not_lt (fun z => ?_)
    obtain rfl : j = 0 := by omega
    exact absurd h.2.1 (by decide)
  exact i.1.setR h1 hj i.1.2.2.2.2.2.2.2.2.2)) (fun _ => ite_o (fun h => i.net (by
  obtain ⟨j, hj, rfl⟩ := le_ex (by decide) h.2.1 h.2.2
  rw [cl_nI (by omega)]
  exact i.1.setR i.1.2.2.2.2.2.2.2.1 i.1.2.2.2.2.2.2.2.2.1 hj)) (fun _ => i))
