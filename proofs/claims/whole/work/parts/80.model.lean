/-! ===== the model: numbers of sides, relation ===== -/
def phi (s : Nat) : Nat := if s < 90 then 2 * (10 * (s / 9) + s % 9) + 1 else 2 * (s - 90)
def sB (p d : Nat) : Nat := if d = 1 then 9 * (p / 10) + p % 10 else if d = 3 then 9 * (p / 10) + p % 10 - 1 else if d = 2 then 90 + 10 * (p / 10) + p % 10 else 90 + 10 * (p / 10 - 1) + p % 10
theorem phi_all : ∀ p, p < 100 → ∀ d, d < 4 → (nb p d).all (fun q => decide (sB p d < 180) && decide (phi (sB p d) = sA p q d)) = true := by decide +kernel
theorem phi_sB {p d q : Nat} (hp : p < 100) (hd : d < 4) (h : nb p d = some q) : sB p d < 180 ∧ phi (sB p d) = sA p q d := by
  have := phi_all p hp d hd
  rw [h] at this
  simpa using this
theorem in_e (x : Int32) {z : Int64} {n : Nat} (hz : z.toInt + 1 = (nI n).toInt) : ((0 : Int64) ≤ x.toInt64 ∧ x.toInt64 ≤ z) ↔ inR x n := by
  unfold inR
  rw [fa_le64, fa_le64, fa_le, fa_lt, Int32.toInt_toInt64]
  have e1 : (0 : Int64).toInt = 0 := by decide
  have e2 : (0 : Int32).toInt = 0 := by decide
  omega
theorem nI12 {n : Nat} (h : n ≤ 12) : (nI n - nI 1).toInt64.toInt + 1 = (nI n).toInt := by
  have : ∀ n : Fin 13, (nI n.val - nI 1).toInt64.toInt + 1 = (nI n.val).toInt := by decide
  exact this ⟨n, by omega⟩
def RBs (A : Sg) (h : Mem) : Prop := ∀ i, i < 8 → (A.1 i = -1 ∧ h 102 i = -1) ∨ (inR (A.1 i) 3 ∧ A.2.1 i ≤ 60 ∧ h 102 i = A.1 i ∧ h 103 i = nI (A.2.1 i) ∧ ∀ j, j < A.2.1 i → h 104 (60 * i + j) = A.2.2 i j)
def RBn (N : Ng) (h : Mem) : Prop := h 100 6 = nI (nNp N) ∧ h 100 8 = nI (nNl N) ∧ (∀ k, k < nNp N → h 107 k = nI (nPp N k)) ∧ (∀ p, p < 100 → h 105 p = bz (nSh N p = true)) ∧ (∀ l, l < nNl N → h 109 l = nI (nLa N l) ∧ h 110 l = nI (nLb N l)) ∧
  (∀ l, l < 12 → h 111 l = nI (nWy N l).length ∧ ∀ k, k < (nWy N l).length → h 112 (100 * l + k) = nI ((nWy N l).getD k 0)) ∧ (∀ l, l < 12 → ∀ s, s < 180 → h 113 (180 * l + s) = bz (nOn N l (phi s) = true)) ∧ h 114 0 = nI (nBs N) ∧ h 114 1 = nI (nSv N)
def RBt (T : Nat × (Nat → Nat)) (h : Mem) : Prop := T.1 ≤ 16 ∧ h 100 21 = nI T.1 ∧ ∀ k, k < T.1 → h 120 k = nI (T.2 k)
def RB (S : St) (h : Mem) : Prop := RBs S.1 h ∧ RBn S.2.1 h ∧ RBt S.2.2.1 h ∧ h 100 1 = nI S.2.2.2
def offB (cs : List Nat) : Prop := ∀ c ∈ cs, 115 ≤ c ∧ c ≤ 119
theorem offB_n {cs : List Nat} (o : offB cs) {c : Nat} (hc : c < 115 ∨ 119 < c) : c ∉ cs := fun h => by have := o c h; omega
theorem RBn.same {N : Ng} {h h' : Mem} {cs : List Nat} (r : RBn N h) (s : same cs h h') (o : offB cs) : RBn N h' := by
  have e : ∀ c, c < 115 ∨ 119 < c → h' c = h c := fun c hc => s c (offB_n o hc)
  unfold RBn
  rw [e 100 (by omega), e 107 (by omega), e 105 (by omega), e 109 (by omega), e 110 (by omega), e 111 (by omega), e 112 (by omega), e 113 (by omega), e 114 (by omega)]
  exact r
theorem RB.same {S : St} {h h' : Mem} {cs : List Nat} (r : RB S h) (s : same cs h h') (o : offB cs) : RB S h' := by
  have e : ∀ c, c < 115 ∨ 119 < c → h' c = h c := fun c hc => s c (offB_n o hc)
  refine ⟨?_, r.2.1.same s o, ?_, ?_⟩
  · unfold RBs
    rw [e 102 (by omega), e 103 (by omega), e 104 (by omega)]
    exact r.1
  · unfold RBt
    rw [e 100 (by omega), e 120 (by omega)]
    exact r.2.2.1
  · rw [e 100 (by omega)]
    exact r.2.2.2
/-- the mark of a call's begin -/
theorem RBn.th {N : Ng} {h : Mem} (r : RBn N h) (v : Int32) : RBn N (wr h 100 0 v) := by
  unfold RBn
  rw [wr_j _ _ (by decide), wr_j _ _ (by decide), wr_c _ _ _ (by decide), wr_c _ _ _ (by decide), wr_c _ _ _ (by decide), wr_c _ _ _ (by decide), wr_c _ _ _ (by decide), wr_c _ _ _ (by decide), wr_c _ _ _ (by decide), wr_c _ _ _ (by decide)]
  exact r
theorem RB.th {S : St} {h : Mem} (r : RB S h) (v : Int32) : RB S (wr h 100 0 v) := by
  refine ⟨?_, r.2.1.th v, ?_, ?_⟩
  · unfold RBs
    rw [wr_c _ _ _ (by decide), wr_c _ _ _ (by decide), wr_c _ _ _ (by decide)]
    exact r.1
  · unfold RBt
    rw [wr_j _ _ (by decide), wr_c _ _ _ (by decide)]
    exact r.2.2.1
  · rw [wr_j _ _ (by decide)]
    exact r.2.2.2
theorem RB.st {S : St} {h : Mem} (r : RB S h) (f : Nat) : RB (S.1, S.2.1, S.2.2.1, f) (wr h 100 1 (nI f)) := by
  refine ⟨?_, ?_, ?_, wr_s _ _ _ _⟩
  · unfold RBs
    rw [wr_c _ _ _ (by decide), wr_c _ _ _ (by decide), wr_c _ _ _ (by decide)]
    exact r.1
  · unfold RBn
    rw [wr_j _ _ (by decide), wr_j _ _ (by decide), wr_c _ _ _ (by decide), wr_c _ _ _ (by decide), wr_c _ _ _ (by decide), wr_c _ _ _ (by decide), wr_c _ _ _ (by decide), wr_c _ _ _ (by decide), wr_c _ _ _ (by decide), wr_c _ _ _ (by decide)]
    exact r.2.1
  · unfold RBt
    rw [wr_j _ _ (by decide), wr_c _ _ _ (by decide)]
    exact r.2.2.1
theorem wid_eq {N : Ng} (i : Inv N) (s : Nat) : fb_ct (fun l => nOn N l s) (nNl N) = popc (nMk N s) := by
  have h1 : fb_ct (fun l => nOn N l s) (nNl N + (12 - nNl N)) = fb_ct (fun l => nOn N l s) (nNl N) := ct_ext (fun l hl => by unfold nOn; rw [i.off hl]; simp [sdW]) _
  rw [show nNl N + (12 - nNl N) = 12 by have := i.nl; omega] at h1
  rw [← h1]
  unfold popc
  apply fb_ct_cong
  intro l hl
  unfold nMk
  rw [msk_bit, decide_eq_true hl, Bool.true_and]
