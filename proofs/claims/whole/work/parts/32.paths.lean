/-! ===== ways on the board, and memories that agree ===== -/
def stp (p d : Nat) : Nat := (nb p d).getD 0
def okW : Nat → List Nat → Prop
  | _, [] => True
  | p, d :: w => d < 4 ∧ nb p d = some (stp p d) ∧ okW (stp p d) w
def endW : Nat → List Nat → Nat
  | p, [] => p
  | p, d :: w => endW (stp p d) w
def plW : Nat → List Nat → List Nat
  | p, [] => [p]
  | p, d :: w => p :: plW (stp p d) w
def sdW : Nat → List Nat → List Nat
  | _, [] => []
  | p, d :: w => sA p (stp p d) d :: sdW (stp p d) w
def flipL (l : Nat) : List Nat → (Nat → Nat) → Nat → Nat
  | [], M => M
  | s :: ss, M => flipL l ss (fun t => if t = s then M t ^^^ 2 ^ l else M t)
def same (cs : List Nat) (h h' : Mem) : Prop := ∀ c, c ∉ cs → h' c = h c
theorem same.rf {cs : List Nat} {h : Mem} : same cs h h := fun _ _ => rfl
theorem same.tr {cs : List Nat} {h h1 h2 : Mem} (a : same cs h h1) (b : same cs h1 h2) : same cs h h2 := fun c hc => (b c hc).trans (a c hc)
theorem same.mono {cs cs' : List Nat} {h h' : Mem} (a : same cs h h') (hs : ∀ c ∈ cs, c ∈ cs') : same cs' h h' := fun c hc => a c (fun z => hc (hs c z))
theorem same.wr {cs : List Nat} {h h' : Mem} (a : same cs h h') {c : Nat} (j : Nat) (v : Int32) (hc : c ∈ cs) : same cs h (wr h' c j v) := fun c' h1 => (wr_c h' j v (fun e => h1 (by rw [e]; exact hc))).trans (a c' h1)
theorem same.up {cs : List Nat} {h h' : Mem} (a : same cs h h') {c : Nat} (f : Nat → Int32) (hc : c ∈ cs) : same cs h (va_up h' c f) := fun c' h1 => (va_up_ne _ _ (fun e => h1 (by rw [e]; exact hc))).trans (a c' h1)
theorem same.at {cs : List Nat} {h h' : Mem} (a : same cs h h') (c j : Nat) (hc : c ∉ cs) : h' c j = h c j := by rw [a c hc]
theorem hasM.same {M : Nat → Nat} {h h' : Mem} {cs : List Nat} (a : hasM M h) (b : same cs h h') (hc : 10 ∉ cs) : hasM M h' := ⟨fun s hs => by rw [b 10 hc]; exact a.1 s hs, a.2⟩
theorem hasP.same {pr : Nat → Nat} {h h' : Mem} {cs : List Nat} (a : hasP pr h) (b : same cs h h') (hc : 4 ∉ cs) : hasP pr h' := by
  obtain ⟨x, s, h1, h2, h3, h4, h5⟩ := a
  exact ⟨x, s, h1, h2, by rw [b 4 hc]; exact h3, by rw [b 4 hc]; exact h4, h5⟩
/-- a line, with its way w -/
def hasL (l a b : Nat) (w : List Nat) (h : Mem) : Prop := h (40 + l) 0 = nI (2 ^ l) ∧ h (40 + l) 2 = nI a ∧ h (40 + l) 3 = nI b ∧ h (40 + l) 4 = nI w.length ∧ ∀ k, k < w.length → h (60 + l) k = nI (w.getD k 0)
theorem hasL.same {l a b : Nat} {w : List Nat} {h h' : Mem} {cs : List Nat} (x : hasL l a b w h) (y : same cs h h') (h1 : 40 + l ∉ cs) (h2 : 60 + l ∉ cs) : hasL l a b w h' := by
  unfold hasL
  rw [y _ h1, y _ h2]
  exact x
def dst (a b : Nat) : Nat := (a - b) + (b - a)
theorem dst_abs : ∀ a, a < 10 → ∀ b, b < 10 → (if 0 ≤ nI a - nI b then nI a - nI b else 0 - (nI a - nI b)) = nI (dst a b) := by decide
theorem dst_le {a b : Nat} (ha : a < 10) (hb : b < 10) : dst a b ≤ 9 := by unfold dst; omega
def apart (a b : Nat) : Nat := dst (a % 10) (b % 10) + dst (a / 10) (b / 10)
/-- going by told directions: where one comes to, if to no place that is shut or was visited -/
def wk (sh : Nat → Bool) : List Nat → Nat → List Int32 → Option Nat
  | _, p, [] => some p
  | vis, p, x :: xs => if inR x 4 then (match nb p x.toNatClampNeg with
    | none => none
    | some q => if sh q = true ∨ q ∈ vis then none else wk sh (q :: vis) q xs) else none
