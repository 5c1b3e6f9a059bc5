def lvE : List Value → List OV
  | [] => []
  | v :: vs => if v.category = 2 then some v :: none :: lvE vs else some v :: lvE vs
theorem lvE_at : ∀ (av : List Value) (k i0 i : Nat) (v : Value), (lvE av ++ List.replicate k none)[i]? = some (some v) → (i0 + i, v) ∈ lv_args i0 av
  | [], k, i0, i, v, h => by
    simp only [lvE, List.nil_append, List.getElem?_replicate] at h
    split at h <;> cases h
  | a :: as, k, i0, i, v, h => by
    by_cases hc : a.category = 2
    · simp only [lvE, hc, if_true, List.cons_append] at h
      match i, h with
      | 0, h => cases h; exact List.mem_cons_self
      | 1, h => cases h
      | i + 2, h =>
        have := lvE_at as k (i0 + 2) i v h
        simp only [lv_args, hc, if_true]
        exact List.mem_cons_of_mem _ (by rwa [show i0 + (i + 2) = i0 + 2 + i by omega])
    · simp only [lvE, hc, if_false, List.cons_append] at h
      match i, h with
      | 0, h => cases h; exact List.mem_cons_self
      | i + 1, h =>
        have := lvE_at as k (i0 + 1) i v h
        simp only [lv_args, hc, if_false]
        exact List.mem_cons_of_mem _ (by rwa [show i0 + (i + 1) = i0 + 1 + i by omega])
theorem lvE_ok {lv : List OV} {av : List Value} (k : Nat) (e : lv = lvE av ++ List.replicate k none) (i : Nat) (v : Value) (h : lv[i]? = some (some v)) : (i, v) ∈ lv_args 0 av := by
  have := lvE_at av k 0 i v (e ▸ h)
  rwa [Nat.zero_add] at this
section VI
variable {ids : List Nat} {G : GE} {own : String} {cc : ByteArray} {nL : Nat} {ret : Option FieldType} {R : Room} {pc : Nat} {st : List Value} {h : Mem} {Q : Option Value → Mem → Prop}
theorem V_iinc0_n {lr : List OV} {a : Nat} {n : Int} (d : Nat) (hd : decode cc pc = .ok (.iinc 0 n, 3)) (he : Int32.ofInt n = nI d) (hn : 0 < nL) (k : V ids G own cc nL ret R (pc + 3) (some (.int (nI (a + d))) :: lr) st h Q) : V ids G own cc nL ret R pc (some (.int (nI a)) :: lr) st h Q := V_iinc0 (nI d) hd he hn (by rw [nI_add]; exact k)
theorem V_iinc1_n {a0 : OV} {lr : List OV} {a : Nat} {n : Int} (d : Nat) (hd : decode cc pc = .ok (.iinc 1 n, 3)) (he : Int32.ofInt n = nI d) (hn : 1 < nL) (hp : okc a0 = true) (k : V ids G own cc nL ret R (pc + 3) (a0 :: some (.int (nI (a + d))) :: lr) st h Q) : V ids G own cc nL ret R pc (a0 :: some (.int (nI a)) :: lr) st h Q := V_iinc1 (nI d) hd he hn hp (by rw [nI_add]; exact k)
theorem V_iinc2_n {a0 a1 : OV} {lr : List OV} {a : Nat} {n : Int} (d : Nat) (hd : decode cc pc = .ok (.iinc 2 n, 3)) (he : Int32.ofInt n = nI d) (hn : 2 < nL) (hp : okc a1 = true) (k : V ids G own cc nL ret R (pc + 3) (a0 :: a1 :: some (.int (nI (a + d))) :: lr) st h Q) : V ids G own cc nL ret R pc (a0 :: a1 :: some (.int (nI a)) :: lr) st h Q := V_iinc2 (nI d) hd he hn hp (by rw [nI_add]; exact k)
theorem V_iinc3_n {a0 a1 a2 : OV} {lr : List OV} {a : Nat} {n : Int} (d : Nat) (hd : decode cc pc = .ok (.iinc 3 n, 3)) (he : Int32.ofInt n = nI d) (hn : 3 < nL) (hp : okc a2 = true) (k : V ids G own cc nL ret R (pc + 3) (a0 :: a1 :: a2 :: some (.int (nI (a + d))) :: lr) st h Q) : V ids G own cc nL ret R pc (a0 :: a1 :: a2 :: some (.int (nI a)) :: lr) st h Q := V_iinc3 (nI d) hd he hn hp (by rw [nI_add]; exact k)
theorem V_iinc4_n {a0 a1 a2 a3 : OV} {lr : List OV} {a : Nat} {n : Int} (d : Nat) (hd : decode cc pc = .ok (.iinc 4 n, 3)) (he : Int32.ofInt n = nI d) (hn : 4 < nL) (hp : okc a3 = true) (k : V ids G own cc nL ret R (pc + 3) (a0 :: a1 :: a2 :: a3 :: some (.int (nI (a + d))) :: lr) st h Q) : V ids G own cc nL ret R pc (a0 :: a1 :: a2 :: a3 :: some (.int (nI a)) :: lr) st h Q := V_iinc4 (nI d) hd he hn hp (by rw [nI_add]; exact k)
theorem V_iinc5_n {a0 a1 a2 a3 a4 : OV} {lr : List OV} {a : Nat} {n : Int} (d : Nat) (hd : decode cc pc = .ok (.iinc 5 n, 3)) (he : Int32.ofInt n = nI d) (hn : 5 < nL) (hp : okc a4 = true) (k : V ids G own cc nL ret R (pc + 3) (a0 :: a1 :: a2 :: a3 :: a4 :: some (.int (nI (a + d))) :: lr) st h Q) : V ids G own cc nL ret R pc (a0 :: a1 :: a2 :: a3 :: a4 :: some (.int (nI a)) :: lr) st h Q := V_iinc5 (nI d) hd he hn hp (by rw [nI_add]; exact k)
theorem V_iinc6_n {a0 a1 a2 a3 a4 a5 : OV} {lr : List OV} {a : Nat} {n : Int} (d : Nat) (hd : decode cc pc = .ok (.iinc 6 n, 3)) (he : Int32.ofInt n = nI d) (hn : 6 < nL) (hp : okc a5 = true) (k : V ids G own cc nL ret R (pc + 3) (a0 :: a1 :: a2 :: a3 :: a4 :: a5 :: some (.int (nI (a + d))) :: lr) st h Q) : V ids G own cc nL ret R pc (a0 :: a1 :: a2 :: a3 :: a4 :: a5 :: some (.int (nI a)) :: lr) st h Q := V_iinc6 (nI d) hd he hn hp (by rw [nI_add]; exact k)
theorem V_iinc7_n {a0 a1 a2 a3 a4 a5 a6 : OV} {lr : List OV} {a : Nat} {n : Int} (d : Nat) (hd : decode cc pc = .ok (.iinc 7 n, 3)) (he : Int32.ofInt n = nI d) (hn : 7 < nL) (hp : okc a6 = true) (k : V ids G own cc nL ret R (pc + 3) (a0 :: a1 :: a2 :: a3 :: a4 :: a5 :: a6 :: some (.int (nI (a + d))) :: lr) st h Q) : V ids G own cc nL ret R pc (a0 :: a1 :: a2 :: a3 :: a4 :: a5 :: a6 :: some (.int (nI a)) :: lr) st h Q := V_iinc7 (nI d) hd he hn hp (by rw [nI_add]; exact k)
theorem V_iinc8_n {a0 a1 a2 a3 a4 a5 a6 a7 : OV} {lr : List OV} {a : Nat} {n : Int} (d : Nat) (hd : decode cc pc = .ok (.iinc 8 n, 3)) (he : Int32.ofInt n = nI d) (hn : 8 < nL) (hp : okc a7 = true) (k : V ids G own cc nL ret R (pc + 3) (a0 :: a1 :: a2 :: a3 :: a4 :: a5 :: a6 :: a7 :: some (.int (nI (a + d))) :: lr) st h Q) : V ids G own cc nL ret R pc (a0 :: a1 :: a2 :: a3 :: a4 :: a5 :: a6 :: a7 :: some (.int (nI a)) :: lr) st h Q := V_iinc8 (nI d) hd he hn hp (by rw [nI_add]; exact k)
theorem V_iinc9_n {a0 a1 a2 a3 a4 a5 a6 a7 a8 : OV} {lr : List OV} {a : Nat} {n : Int} (d : Nat) (hd : decode cc pc = .ok (.iinc 9 n, 3)) (he : Int32.ofInt n = nI d) (hn : 9 < nL) (hp : okc a8 = true) (k : V ids G own cc nL ret R (pc + 3) (a0 :: a1 :: a2 :: a3 :: a4 :: a5 :: a6 :: a7 :: a8 :: some (.int (nI (a + d))) :: lr) st h Q) : V ids G own cc nL ret R pc (a0 :: a1 :: a2 :: a3 :: a4 :: a5 :: a6 :: a7 :: a8 :: some (.int (nI a)) :: lr) st h Q := V_iinc9 (nI d) hd he hn hp (by rw [nI_add]; exact k)
theorem V_iinc10_n {a0 a1 a2 a3 a4 a5 a6 a7 a8 a9 : OV} {lr : List OV} {a : Nat} {n : Int} (d : Nat) (hd : decode cc pc = .ok (.iinc 10 n, 3)) (he : Int32.ofInt n = nI d) (hn : 10 < nL) (hp : okc a9 = true) (k : V ids G own cc nL ret R (pc + 3) (a0 :: a1 :: a2 :: a3 :: a4 :: a5 :: a6 :: a7 :: a8 :: a9 :: some (.int (nI (a + d))) :: lr) st h Q) : V ids G own cc nL ret R pc (a0 :: a1 :: a2 :: a3 :: a4 :: a5 :: a6 :: a7 :: a8 :: a9 :: some (.int (nI a)) :: lr) st h Q := V_iinc10 (nI d) hd he hn hp (by rw [nI_add]; exact k)
theorem V_iinc11_n {a0 a1 a2 a3 a4 a5 a6 a7 a8 a9 a10 : OV} {lr : List OV} {a : Nat} {n : Int} (d : Nat) (hd : decode cc pc = .ok (.iinc 11 n, 3)) (he : Int32.ofInt n = nI d) (hn : 11 < nL) (hp : okc a10 = true) (k : V ids G own cc nL ret R (pc + 3) (a0 :: a1 :: a2 :: a3 :: a4 :: a5 :: a6 :: a7 :: a8 :: a9 :: a10 :: some (.int (nI (a + d))) :: lr) st h Q) : V ids G own cc nL ret R pc (a0 :: a1 :: a2 :: a3 :: a4 :: a5 :: a6 :: a7 :: a8 :: a9 :: a10 :: some (.int (nI a)) :: lr) st h Q := V_iinc11 (nI d) hd he hn hp (by rw [nI_add]; exact k)
theorem V_iinc12_n {a0 a1 a2 a3 a4 a5 a6 a7 a8 a9 a10 a11 : OV} {lr : List OV} {a : Nat} {n : Int} (d : Nat) (hd : decode cc pc = .ok (.iinc 12 n, 3)) (he : Int32.ofInt n = nI d) (hn : 12 < nL) (hp : okc a11 = true) (k : V ids G own cc nL ret R (pc + 3) (a0 :: a1 :: a2 :: a3 :: a4 :: a5 :: a6 :: a7 :: a8 :: a9 :: a10 :: a11 :: some (.int (nI (a + d))) :: lr) st h Q) : V ids G own cc nL ret R pc (a0 :: a1 :: a2 :: a3 :: a4 :: a5 :: a6 :: a7 :: a8 :: a9 :: a10 :: a11 :: some (.int (nI a)) :: lr) st h Q := V_iinc12 (nI d) hd he hn hp (by rw [nI_add]; exact k)
end VI
abbrev inR (x : Int32) (n : Nat) : Prop := 0 ≤ x ∧ x < nI n
theorem inR_iff {x : Int32} {n : Nat} (hn : n < 2 ^ 31) : inR x n ↔ ∃ j, j < n ∧ x = nI j := by
  constructor
  · rintro ⟨h0, h1⟩
    rcases pk_ix x hn with h | h | h
    · exact absurd h (Int32.not_lt.mpr h0)
    · exact absurd h1 (Int32.not_lt.mpr h)
    · exact h
  · rintro ⟨j, hj, rfl⟩
    exact ⟨nI_pos' (by omega), nI_lt hj hn⟩
theorem inR_nI {j n : Nat} (hj : j < n) (hn : n < 2 ^ 31) : inR (nI j) n := (inR_iff hn).mpr ⟨j, hj, rfl⟩
theorem i_nlt {x y : Int32} (h : ¬ x < y) : y ≤ x := Int32.not_lt.mp h
theorem i_nle {x y : Int32} (h : ¬ x ≤ y) : y < x := Int32.not_le.mp h
theorem i_lt_n {x y : Int32} (h : x < y) : ¬ y ≤ x := Int32.not_le.mpr h
theorem i_le_n {x y : Int32} (h : x ≤ y) : ¬ y < x := Int32.not_lt.mpr h
theorem bz_r0 {P : Prop} [Decidable P] (h : ¬ P) : nI 0 = bz P := by rw [bz_f h]; exact nI_0
theorem bz_r1 {P : Prop} [Decidable P] (h : P) : nI 1 = bz P := by rw [bz_t h]; decide
/-- the place one side away -/
def nb (p d : Nat) : Option Nat :=
  if d = 0 then (if 10 ≤ p then some (p - 10) else none) else if d = 1 then (if p % 10 < 9 then some (p + 1) else none) else if d = 2 then (if p < 90 then some (p + 10) else none) else (if 0 < p % 10 then some (p - 1) else none)
def oI (o : Option Nat) (v : Int32) : Int32 := match o with
  | some k => nI k
  | none => v
def sA (p q d : Nat) : Nat := min p q * 2 + d % 2
