def N0 : Ng := (fun _ => false, 0, fun _ => 0, 0, fun _ => 0, fun _ => 0, fun _ => [], 10, 3)
def S0 : St := ((fun _ => -1, fun _ => 0, fun _ _ => 0), N0, (0, fun _ => 0), 0)
theorem inv0 : Inv N0 := ⟨by decide, by decide, fun k hk => absurd hk (Nat.not_lt_zero _), fun a b ha => absurd ha (Nat.not_lt_zero _), fun l hl => absurd hl (Nat.not_lt_zero _), fun _ _ => rfl, fun l hl => absurd hl (Nat.not_lt_zero _), by decide, by decide, by decide⟩
theorem ok0 : Ok S0 := ⟨inv0, by decide⟩
theorem on0 (l s : Nat) : nOn N0 l s = false := decide_eq_false (by show s ∉ sdW _ []; exact List.not_mem_nil)
theorem mk0 (s : Nat) : nMk N0 s = 0 := ext12 (mk_lt _ _) (by decide) (fun i hi => by rw [bit_mk hi, on0, Nat.zero_testBit])
def hI (f9 : Nat → Int32) : Mem := fun c => if c = 4 then (fun j => if j = 4 then nI 10 else if j = 5 then nI 3 else 0) else if c = 9 then f9 else if 20 ≤ c ∧ c < 28 then (fun j => if j = 2 then -1 else 0) else if 40 ≤ c ∧ c < 52 then (fun j => if j = 0 then nI (2 ^ (c - 40)) else 0) else fun _ => 0
theorem RA0 {f9 : Nat → Int32} (h9 : ∀ j, j < 100 → f9 j = -1000000) : RA S0 (hI f9) := by
  refine ⟨fun i hi => Or.inl ⟨rfl, ?_⟩, ⟨rfl, rfl, fun k hk => absurd hk (Nat.not_lt_zero _), fun p hp => rfl, fun p hp => h9 p hp, fun l hl => absurd hl (Nat.not_lt_zero _), fun l hl _ => ?_, ⟨fun s hs => ?_, mk_lt N0⟩, ⟨10, 3, by decide, by decide, rfl, rfl, fun _ _ => rfl⟩, rfl, rfl⟩, ⟨by decide, rfl, fun k hk => absurd hk (Nat.not_lt_zero _)⟩, rfl⟩
  · rcases (show i = 0 ∨ i = 1 ∨ i = 2 ∨ i = 3 ∨ i = 4 ∨ i = 5 ∨ i = 6 ∨ i = 7 by omega) with rfl | rfl | rfl | rfl | rfl | rfl | rfl | rfl <;> rfl
  · rcases (show l = 0 ∨ l = 1 ∨ l = 2 ∨ l = 3 ∨ l = 4 ∨ l = 5 ∨ l = 6 ∨ l = 7 ∨ l = 8 ∨ l = 9 ∨ l = 10 ∨ l = 11 by omega) with rfl | rfl | rfl | rfl | rfl | rfl | rfl | rfl | rfl | rfl | rfl | rfl <;> exact ⟨rfl, rfl⟩
  · show _ = nI (nMk N0 s)
    rw [mk0]; rfl
