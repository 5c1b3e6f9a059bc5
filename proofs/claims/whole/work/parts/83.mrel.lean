theorem nI_m {q : Nat} (h : q < 2 ^ 31) : nI q ≠ -1000000 := fun e => by
  have h1 := nI_toInt h
  rw [e] at h1
  have h2 : (-1000000 : Int32).toInt = -1000000 := by decide
  omega
theorem RB_net {S : St} {h h' : Mem} {N : Ng} (a : RB S h) (r : RBn N h') (e1 : h' 102 = h 102) (e2 : h' 103 = h 103) (e3 : h' 104 = h 104) (e4 : h' 120 = h 120) (e5 : h' 100 21 = h 100 21) (e6 : h' 100 1 = h 100 1) : RB (S.1, N, S.2.2.1, S.2.2.2) h' := by
  refine ⟨?_, r, ?_, ?_⟩
  · unfold RBs; rw [e1, e2, e3]; exact a.1
  · unfold RBt; rw [e4, e5]; exact a.2.2.1
  · rw [e6]; exact a.2.2.2
theorem on_cong {N N' : Ng} {l : Nat} (h1 : nWy N' l = nWy N l) (h2 : nWy N l ≠ [] → nSt N' l = nSt N l) (s : Nat) : nOn N' l s = nOn N l s := by
  unfold nOn
  rw [h1]
  by_cases e : nWy N l = []
  · rw [e]; rfl
  · rw [h2 e]
theorem RBn_addP {N : Ng} {h : Mem} (i : Inv N) (r : RBn N h) (p : Nat) : RBn (addP N p) (wr (wr h 107 (nNp N) (nI p)) 100 6 (nI (nNp N + 1))) := by
  obtain ⟨r1, r2, r3, r4, r5, r6, r7, r8, r9⟩ := r
  refine ⟨wr_s _ _ _ _, ?_, fun k hk => ?_, ?_, ?_, ?_, fun l hl s hs => ?_, ?_, ?_⟩
  · rw [wr_j _ _ (by decide), wr_c _ _ _ (by decide)]; exact r2
  · have hk2 : k < nNp N + 1 := hk
    show _ = nI (va_up (nPp N) (nNp N) p k)
    rw [wr_c _ _ _ (by decide)]
    by_cases e : k = nNp N
    · rw [e, wr_s, va_up_s]
    · rw [wr_j _ _ e, va_up_ne _ _ e]; exact r3 k (by omega)
  · rw [wr_c _ _ _ (by decide), wr_c _ _ _ (by decide)]; exact r4
  · rw [wr_c _ _ _ (by decide), wr_c _ _ _ (by decide), wr_c _ _ _ (by decide), wr_c _ _ _ (by decide)]; exact r5
  · rw [wr_c _ _ _ (by decide), wr_c _ _ _ (by decide), wr_c _ _ _ (by decide), wr_c _ _ _ (by decide)]; exact r6
  · rw [wr_c _ _ _ (by decide), wr_c _ _ _ (by decide), r7 l hl s hs]
    exact bz_c (by rw [on_cong (N' := addP N p) (N := N) rfl (fun z => (i.st_addP p (i.wyl z)).1)])
  · rw [wr_c _ _ _ (by decide), wr_c _ _ _ (by decide)]; exact r8
  · rw [wr_c _ _ _ (by decide), wr_c _ _ _ (by decide)]; exact r9
theorem RBn_addL {N : Ng} {h : Mem} (i : Inv N) (r : RBn N h) (a b : Nat) : RBn (addL N a b) (wr (wr (wr h 109 (nNl N) (nI a)) 110 (nNl N) (nI b)) 100 8 (nI (nNl N + 1))) := by
  obtain ⟨r1, r2, r3, r4, r5, r6, r7, r8, r9⟩ := r
  refine ⟨?_, wr_s _ _ _ _, ?_, ?_, fun l hl => ?_, ?_, fun l hl s hs => ?_, ?_, ?_⟩
  · rw [wr_j _ _ (by decide), wr_c _ _ _ (by decide), wr_c _ _ _ (by decide)]; exact r1
  · rw [wr_c _ _ _ (by decide), wr_c _ _ _ (by decide), wr_c _ _ _ (by decide)]; exact r3
  · rw [wr_c _ _ _ (by decide), wr_c _ _ _ (by decide), wr_c _ _ _ (by decide)]; exact r4
  · have hl2 : l < nNl N + 1 := hl
    show _ = nI (va_up (nLa N) (nNl N) a l) ∧ _ = nI (va_up (nLb N) (nNl N) b l)
    by_cases e : l = nNl N
    · subst e
      exact ⟨by rw [wr_c _ _ _ (by decide), wr_c _ _ _ (by decide), wr_s, va_up_s], by rw [wr_c _ _ _ (by decide), wr_s, va_up_s]⟩
    · exact ⟨by rw [wr_c _ _ _ (by decide), wr_c _ _ _ (by decide), wr_j _ _ e, va_up_ne _ _ e]; exact (r5 l (by omega)).1, by rw [wr_c _ _ _ (by decide), wr_j _ _ e, wr_c _ _ _ (by decide), va_up_ne _ _ e]; exact (r5 l (by omega)).2⟩
  · rw [wr_c _ _ _ (by decide), wr_c _ _ _ (by decide), wr_c _ _ _ (by decide), wr_c _ _ _ (by decide), wr_c _ _ _ (by decide), wr_c _ _ _ (by decide)]; exact r6
  · rw [wr_c _ _ _ (by decide), wr_c _ _ _ (by decide), wr_c _ _ _ (by decide), r7 l hl s hs]
    have hon : nOn (addL N a b) l (phi s) = nOn N l (phi s) := on_cong (N' := addL N a b) (N := N) (l := l) rfl (fun z => by
      have := i.wyl z
      show nPp N (va_up (nLa N) (nNl N) a l) = _
      rw [va_up_ne _ _ (by omega)]; rfl) _
    exact bz_c (by rw [hon])
  · rw [wr_c _ _ _ (by decide), wr_c _ _ _ (by decide), wr_c _ _ _ (by decide)]; exact r8
  · rw [wr_c _ _ _ (by decide), wr_c _ _ _ (by decide), wr_c _ _ _ (by decide)]; exact r9
theorem RBn_sh {N : Ng} {h : Mem} (r : RBn N h) {p : Nat} (x : Bool) : RBn (setSh N p x) (wr h 105 p (bz (x = true))) := by
  obtain ⟨r1, r2, r3, r4, r5, r6, r7, r8, r9⟩ := r
  refine ⟨?_, ?_, ?_, fun q hq => ?_, ?_, ?_, ?_, ?_, ?_⟩
  · rw [wr_c _ _ _ (by decide)]; exact r1
  · rw [wr_c _ _ _ (by decide)]; exact r2
  · rw [wr_c _ _ _ (by decide)]; exact r3
  · show wr h 105 p (bz (x = true)) 105 q = bz (va_up (nSh N) p x q = true)
    by_cases e : q = p
    · subst e; rw [wr_s]; exact bz_c (by rw [va_up_s])
    · rw [wr_j _ _ e, r4 q hq]; exact bz_c (by rw [va_up_ne _ _ e])
  · rw [wr_c _ _ _ (by decide), wr_c _ _ _ (by decide)]; exact r5
  · rw [wr_c _ _ _ (by decide), wr_c _ _ _ (by decide)]; exact r6
  · rw [wr_c _ _ _ (by decide)]; exact r7
  · rw [wr_c _ _ _ (by decide)]; exact r8
  · rw [wr_c _ _ _ (by decide)]; exact r9
theorem RBn_r0 {N : Ng} {h : Mem} (r : RBn N h) (b : Nat) : RBn (setR N b (nSv N)) (wr h 114 0 (nI b)) := by
  obtain ⟨r1, r2, r3, r4, r5, r6, r7, r8, r9⟩ := r
  refine ⟨?_, ?_, ?_, ?_, ?_, ?_, ?_, wr_s _ _ _ _, ?_⟩
  · rw [wr_c _ _ _ (by decide)]; exact r1
  · rw [wr_c _ _ _ (by decide)]; exact r2
  · rw [wr_c _ _ _ (by decide)]; exact r3
  · rw [wr_c _ _ _ (by decide)]; exact r4
  · rw [wr_c _ _ _ (by decide), wr_c _ _ _ (by decide)]; exact r5
  · rw [wr_c _ _ _ (by decide), wr_c _ _ _ (by decide)]; exact r6
  · rw [wr_c _ _ _ (by decide)]; exact r7
  · rw [wr_j _ _ (by decide)]; exact r9
theorem RBn_r1 {N : Ng} {h : Mem} (r : RBn N h) (s : Nat) : RBn (setR N (nBs N) s) (wr h 114 1 (nI s)) := by
  obtain ⟨r1, r2, r3, r4, r5, r6, r7, r8, r9⟩ := r
  refine ⟨?_, ?_, ?_, ?_, ?_, ?_, ?_, ?_, wr_s _ _ _ _⟩
  · rw [wr_c _ _ _ (by decide)]; exact r1
  · rw [wr_c _ _ _ (by decide)]; exact r2
  · rw [wr_c _ _ _ (by decide)]; exact r3
  · rw [wr_c _ _ _ (by decide)]; exact r4
  · rw [wr_c _ _ _ (by decide), wr_c _ _ _ (by decide)]; exact r5
  · rw [wr_c _ _ _ (by decide), wr_c _ _ _ (by decide)]; exact r6
  · rw [wr_c _ _ _ (by decide)]; exact r7
  · rw [wr_j _ _ (by decide)]; exact r8
