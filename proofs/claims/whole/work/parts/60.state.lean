/-! ===== sheets, trace, status: the whole state ===== -/
abbrev Sg : Type := (Nat → Int32) × (Nat → Nat) × (Nat → Nat → Int32)
abbrev St : Type := Sg × Ng × (Nat × (Nat → Nat)) × Nat
def shOK (ln : Int32) (sz : Nat) (it : Nat → Int32) (i : Nat) (h : Mem) : Prop := (ln = -1 ∧ h (20 + i) 2 = -1) ∨ (inR ln 3 ∧ sz ≤ 60 ∧ h (20 + i) 1 = ln ∧ h (20 + i) 2 = nI sz ∧ ∀ j, j < sz → h (30 + i) j = it j)
def RAs (A : Sg) (h : Mem) : Prop := ∀ i, i < 8 → shOK (A.1 i) (A.2.1 i) (A.2.2 i) i h
def RAt (T : Nat × (Nat → Nat)) (h : Mem) : Prop := T.1 ≤ 16 ∧ h 0 9 = nI T.1 ∧ ∀ k, k < T.1 → h 7 k = nI (T.2 k)
def RA (S : St) (h : Mem) : Prop := RAs S.1 h ∧ RAn S.2.1 h ∧ RAt S.2.2.1 h ∧ h 0 10 = nI S.2.2.2
def upS (A : Sg) (s : Nat) (ln : Int32) (sz : Nat) (it : Nat → Int32) : Sg := (va_up A.1 s ln, va_up A.2.1 s sz, va_up A.2.2 s it)
theorem shOK.same {ln : Int32} {sz : Nat} {it : Nat → Int32} {i : Nat} {h h' : Mem} {cs : List Nat} (a : shOK ln sz it i h) (b : same cs h h') (h1 : 20 + i ∉ cs) (h2 : 30 + i ∉ cs) : shOK ln sz it i h' := by
  unfold shOK
  rw [b _ h1, b _ h2]
  exact a
theorem RAs.same {A : Sg} {h h' : Mem} {cs : List Nat} (a : RAs A h) (b : same cs h h') (hc : ∀ c ∈ cs, c < 20 ∨ 40 ≤ c) : RAs A h' := fun i hi => (a i hi).same b (fun z => by have := hc _ z; omega) (fun z => by have := hc _ z; omega)
theorem RAs_up {A : Sg} {h h' : Mem} {s : Nat} {ln : Int32} {sz : Nat} {it : Nat → Int32} (a : RAs A h) (hs : s < 8) (b : same [20 + s, 30 + s] h h') (x : shOK ln sz it s h') : RAs (upS A s ln sz it) h' := by
  intro i hi
  by_cases e : i = s
  · subst e
    show shOK (va_up A.1 i ln i) (va_up A.2.1 i sz i) (va_up A.2.2 i it i) i h'
    rw [va_up_s, va_up_s, va_up_s]; exact x
  · show shOK (va_up A.1 s ln i) (va_up A.2.1 s sz i) (va_up A.2.2 s it i) i h'
    rw [va_up_ne _ _ e, va_up_ne _ _ e, va_up_ne _ _ e]
    exact (a i hi).same b (by simp only [List.mem_cons, List.not_mem_nil, or_false]; omega) (by simp only [List.mem_cons, List.not_mem_nil, or_false]; omega)
theorem RAt.same {T : Nat × (Nat → Nat)} {h h' : Mem} {cs : List Nat} (a : RAt T h) (b : same cs h h') (h0 : 0 ∉ cs) (h7 : 7 ∉ cs) : RAt T h' := by
  unfold RAt
  rw [b 0 h0, b 7 h7]
  exact a
theorem RAt_wr10 {T : Nat × (Nat → Nat)} {h : Mem} (a : RAt T h) (v : Int32) : RAt T (wr h 0 10 v) := by
  unfold RAt
  rw [wr_j _ _ (by decide), wr_c _ _ _ (by decide)]
  exact a
theorem RA_fin {A : Sg} {N : Ng} {T : Nat × (Nat → Nat)} {h : Mem} (f : Nat) (a : RAs A h) (b : RAn N h) (c : RAt T h) : RA (A, N, T, f) (wr h 0 10 (nI f)) :=
  ⟨a.same (same.rf.wr (cs := [0]) _ _ (by decide)) (by simp), RAn_wr0 b _ (by decide) (by decide), RAt_wr10 c _, wr_s _ _ _ _⟩
def fnd (S : St) (f : Nat) : Int32 × St := (-1000010 - nI f, (S.1, S.2.1, S.2.2.1, f))
theorem RA_fnd {S : St} {h : Mem} (a : RA S h) (f : Nat) : RA (fnd S f).2 (wr h 0 10 (nI f)) := RA_fin f a.1 a.2.1 a.2.2.1
theorem RA_cells {S : St} {A : Sg} {h h' : Mem} {s : Nat} (a : RA S h) (hs : s < 8) (b : same [20 + s, 30 + s] h h') (x : RAs A h') : RA (A, S.2.1, S.2.2.1, 0) (wr h' 0 10 (nI 0)) :=
  RA_fin 0 x (a.2.1.same b (by intro c hc; simp only [List.mem_cons, List.not_mem_nil, or_false] at hc; omega)) (a.2.2.1.same b (by simp only [List.mem_cons, List.not_mem_nil, or_false]; omega) (by simp only [List.mem_cons, List.not_mem_nil, or_false]; omega))
def hld (sz : Nat) (x n : Int32) : Prop := 0 ≤ x ∧ 0 ≤ n ∧ x ≤ nI sz - n
theorem hld_iff {sz : Nat} (hs : sz ≤ 60) {x n : Int32} : hld sz x n ↔ ∃ j k : Nat, x = nI j ∧ n = nI k ∧ j + k ≤ sz := by
  constructor
  · rintro ⟨h1, h2, h3⟩
    obtain ⟨j, hj, rfl⟩ := nI_of (i_le_n h1)
    obtain ⟨k, hk, rfl⟩ := nI_of (i_le_n h2)
    refine ⟨j, k, rfl, rfl, ?_⟩
    rw [fa_le] at h3
    have e1 := nI_toInt (show sz < 2 ^ 31 by omega)
    have e2 := nI_toInt hk
    rw [fb_subI (by omega) (by omega), nI_toInt hj] at h3
    omega
  · rintro ⟨j, k, rfl, rfl, h⟩
    exact ⟨nI_pos' (by omega), nI_pos' (by omega), by rw [pk_sub (by omega)]; exact nI_le (by omega) (by omega)⟩
noncomputable def cl (x : Int32) : Nat := x.toNatClampNeg
theorem cl_nI {n : Nat} (h : n < 2 ^ 31) : cl (nI n) = n := nI_clamp h
theorem pEM (p : Prop) : p ∨ ¬ p := Classical.em p
noncomputable def ite' {α : Type} (p : Prop) (a b : α) : α := @ite _ p (Classical.propDecidable p) a b
theorem ite_t {α : Type} {p : Prop} {a b : α} (h : p) : ite' p a b = a := by unfold ite'; exact if_pos h
theorem ite_f {α : Type} {p : Prop} {a b : α} (h : ¬ p) : ite' p a b = b := by unfold ite'; exact if_neg h
noncomputable def O_sheet (S : St) (s l n : Int32) : Int32 × St := ite' (inR s 8 ∧ inR l 3 ∧ n ≤ nI 60) (ite' (n < 0) (fnd S 4) (n, (upS S.1 (cl s) l (cl n) (fun _ => 0), S.2.1, S.2.2.1, 0))) (-1000001, S)
noncomputable def O_set (S : St) (s i v : Int32) : Int32 × St := ite' (inR s 8) (ite' (S.1.1 (cl s) = -1) (fnd S 1) (ite' (hld (S.1.2.1 (cl s)) i (nI 1)) (nrw (S.1.1 (cl s)) v, (upS S.1 (cl s) (S.1.1 (cl s)) (S.1.2.1 (cl s)) (upd (S.1.2.2 (cl s)) (cl i) (nrw (S.1.1 (cl s)) v)), S.2.1, S.2.2.1, 0)) (fnd S 2))) (-1000001, S)
noncomputable def O_copy (S : St) (a i b j n : Int32) : Int32 × St := ite' (inR a 8 ∧ inR b 8) (ite' (S.1.1 (cl a) = -1 ∨ S.1.1 (cl b) = -1) (fnd S 1) (ite' (S.1.1 (cl a) = S.1.1 (cl b)) (ite' (hld (S.1.2.1 (cl a)) i n ∧ hld (S.1.2.1 (cl b)) j n) (n, (upS S.1 (cl b) (S.1.1 (cl b)) (S.1.2.1 (cl b)) (va_cpy (S.1.2.2 (cl a)) (S.1.2.2 (cl b)) (cl i) (cl j) (cl n)), S.2.1, S.2.2.1, 0)) (fnd S 2)) (fnd S 5))) (-1000001, S)
noncomputable def O_drop (S : St) (s : Int32) : Int32 × St := ite' (inR s 8) (ite' (S.1.1 (cl s) = -1) (fnd S 1) (nI (S.1.2.1 (cl s)), (upS S.1 (cl s) (-1) (S.1.2.1 (cl s)) (S.1.2.2 (cl s)), S.2.1, S.2.2.1, 0))) (-1000001, S)
