section INV
variable {N : Ng} {h h' : Mem} {l : Nat}
theorem Inv.nl (i : Inv N) : nNl N ≤ 12 := i.2.1
theorem Inv.np (i : Inv N) : nNp N ≤ 12 := i.1
theorem Inv.pt (i : Inv N) {k : Nat} (hk : k < nNp N) : nPp N k < 100 ∧ nSh N (nPp N k) = false := i.2.2.1 k hk
theorem Inv.ab (i : Inv N) (hl : l < nNl N) : nLa N l < nNp N ∧ nLb N l < nNp N ∧ nLa N l ≠ nLb N l := i.2.2.2.2.1 l hl
theorem Inv.st (i : Inv N) (hl : l < nNl N) : nSt N l < 100 := (i.pt (i.ab hl).1).1
theorem Inv.gl (i : Inv N) (hl : l < nNl N) : nGl N l < 100 := (i.pt (i.ab hl).2.1).1
theorem Inv.ne (i : Inv N) (hl : l < nNl N) : nSt N l ≠ nGl N l := fun e => (i.ab hl).2.2 (i.2.2.2.1 _ _ (i.ab hl).1 (i.ab hl).2.1 e)
theorem Inv.off (i : Inv N) (hl : nNl N ≤ l) : nWy N l = [] := i.2.2.2.2.2.1 l hl
theorem Inv.wy (i : Inv N) (hl : l < nNl N) : nWy N l = [] ∨ okWay (nSh N) (nSt N l) (nGl N l) (nWy N l) := i.2.2.2.2.2.2.1 l hl
theorem Inv.ok (i : Inv N) (hl : l < nNl N) : okW (nSt N l) (nWy N l) := by
  rcases i.wy hl with e | e
  · rw [e]; trivial
  · exact e.1
theorem Inv.len (i : Inv N) : (nWy N l).length ≤ 99 := by
  rcases Nat.lt_or_ge l (nNl N) with hl | hl
  · rcases i.wy hl with e | e
    · rw [e]; decide
    · exact e.len
  · rw [i.off hl]; decide
theorem Inv.sd (i : Inv N) (hl : l < nNl N) : (sdW (nSt N l) (nWy N l)).Nodup := by
  rcases i.wy hl with e | e
  · rw [e]; simp [sdW]
  · exact e.sd (i.st hl)
theorem Inv.set (i : Inv N) (hl : l < nNl N) {w : List Nat} (hw : w = [] ∨ okWay (nSh N) (nSt N l) (nGl N l) w) : Inv (setW N l w) := by
  obtain ⟨i1, i2, i3, i4, i5, i6, i7, i8⟩ := i
  refine ⟨i1, i2, i3, i4, i5, fun l' hl' => ?_, fun l' hl' => ?_, i8⟩
  · show va_up (nWy N) l w l' = []
    have hl2 : nNl N ≤ l' := hl'
    rw [va_up_ne _ _ (by omega)]
    exact i6 l' hl'
  · show va_up (nWy N) l w l' = [] ∨ okWay (nSh N) (nSt N l') (nGl N l') (va_up (nWy N) l w l')
    by_cases e : l' = l
    · subst e; rw [va_up_s]; exact hw
    · rw [va_up_ne _ _ e]; exact i7 l' hl'
theorem RAn.bit (r : RAn N h) (hl : l < 12) : h (40 + l) 0 = nI (2 ^ l) := by
  rcases Nat.lt_or_ge l (nNl N) with z | z
  · exact (r.2.2.2.2.2.1 l z).1
  · exact (r.2.2.2.2.2.2.1 l hl z).1
theorem RAn.len (i : Inv N) (r : RAn N h) (hl : l < 12) : h (40 + l) 4 = nI (nWy N l).length := by
  rcases Nat.lt_or_ge l (nNl N) with z | z
  · exact (r.2.2.2.2.2.1 l z).2.2.2.1
  · rw [i.off z]; exact (r.2.2.2.2.2.2.1 l hl z).2
theorem RAn.L (r : RAn N h) (hl : l < nNl N) : hasL l (nSt N l) (nGl N l) (nWy N l) h := r.2.2.2.2.2.1 l hl
theorem RAn.M (r : RAn N h) : hasM (nMk N) h := r.2.2.2.2.2.2.2.1
theorem RAn.P (r : RAn N h) : hasP (nPr N) h := r.2.2.2.2.2.2.2.2.1
theorem RAn.X (r : RAn N h) (hl : l < nNl N) : FX (nMk N) (nPr N) (nSh N) l (nSt N l) (nGl N l) h := ⟨r.M, r.P, r.2.2.2.1, (r.L hl).1, (r.L hl).2.1, (r.L hl).2.2.1⟩
theorem mk_lt (N : Ng) (s : Nat) : nMk N s < 4096 := msk12 _
theorem RAn_set (i : Inv N) (r : RAn N h) (hl : l < nNl N) {v : List Nat} (s : same [10, 40 + l, 60 + l] h h') (m : hasM (nMk (setW N l v)) h') (x : hasL l (nSt N l) (nGl N l) v h') : RAn (setW N l v) h' := by
  have hnl := i.nl
  obtain ⟨r1, r2, r3, r4, r5, r6, r7, r8, r9, r10, r11⟩ := r
  have no : ∀ c, c < 10 ∨ c = 12 ∨ (40 ≤ c ∧ c ≠ 40 + l ∧ c ≠ 60 + l) → c ∉ [10, 40 + l, 60 + l] := fun c hc => by simp only [List.mem_cons, List.not_mem_nil, or_false]; omega
  refine ⟨by rw [s 0 (no _ (by omega))]; exact r1, by rw [s 0 (no _ (by omega))]; exact r2, fun k hk => by rw [s 2 (no _ (by omega))]; exact r3 k hk, fun p hp => by rw [s 8 (no _ (by omega))]; exact r4 p hp, fun p hp => by rw [s 9 (no _ (by omega))]; exact r5 p hp, fun l' hl' => ?_, fun l' hl' hn => ?_, m, r9.same s (no _ (by omega)), by rw [s 4 (no _ (by omega))]; exact r10, by rw [s 4 (no _ (by omega))]; exact r11⟩
  · show hasL l' (nSt N l') (nGl N l') (va_up (nWy N) l v l') h'
    by_cases e : l' = l
    · subst e; rw [va_up_s]; exact x
    · rw [va_up_ne _ _ e]
      have hl2 : l' < nNl N := hl'
      exact (r6 l' hl').same s (no _ (by omega)) (no _ (by omega))
  · have hl2 : nNl N ≤ l' := hn
    rw [s (40 + l') (no _ (by omega))]
    exact r7 l' hl' hn
theorem RAn_lift (i : Inv N) (r : RAn N h) (hl : l < nNl N) (s : same [10, 40 + l] h h') (m : hasM (flipL l (sdW (nSt N l) (nWy N l)) (nMk N)) h') (e : h' (40 + l) = upd (h (40 + l)) 4 (nI 0)) : RAn (setW N l []) h' := by
  have hnl := i.nl
  refine RAn_set i r hl (s.mono (by simp)) (by rw [← nMk_lift (by omega) (i.sd hl)]; exact m) ?_
  have x := r.L hl
  unfold hasL at x ⊢
  rw [e]
  exact ⟨x.1, x.2.1, x.2.2.1, rfl, fun k hk => absurd hk (Nat.not_lt_zero _)⟩
theorem RAn_give (i : Inv N) (r : RAn N h) (hl : l < nNl N) {v : List Nat} (hv : (sdW (nSt N l) v).Nodup) (s : same [10, 40 + l, 60 + l] h h') (m : hasM (flipL l (sdW (nSt N l) v) (flipL l (sdW (nSt N l) (nWy N l)) (nMk N))) h') (x : hasL l (nSt N l) (nGl N l) v h') : RAn (setW N l v) h' := by
  have hnl := i.nl
  refine RAn_set i r hl s ?_ x
  rw [← nMk_put (by omega) hv, ← nMk_lift (by omega) (i.sd hl)]
  exact m
end INV
/-! ===== leading a line ===== -/
theorem prc_b {b s : Nat} (h1 : 1 ≤ b) (h2 : b ≤ 100) (j : Nat) : 1 ≤ prc b s j ∧ prc b s j ≤ 100 := by
  unfold prc
  have := Nat.sub_le b (j * s)
  constructor
  · exact Nat.le_max_left _ _
  · exact Nat.max_le.mpr ⟨by omega, by omega⟩
theorem Inv.wt {N : Ng} (i : Inv N) (M : Nat → Nat) (l : Nat) : wtOK (wgt M (nPr N) l) := fun s => by
  have := prc_b (s := nSv N) i.2.2.2.2.2.2.2.1 i.2.2.2.2.2.2.2.2.1 (popc (clr l (M s)))
  unfold wgt
  show 129 ≤ prc (nBs N) (nSv N) _ * 128 + 1 ∧ _ ≤ 12801
  constructor
  · omega
  · show prc (nBs N) (nSv N) _ * 128 + 1 ≤ 12801
    omega
noncomputable def nD (N : Ng) (l : Nat) : Nat → Option Nat := Classical.choose (Bell_ex (nSh N) (wgt (nMk N) (nPr N) l) (nGl N l))
theorem nD_ok (N : Ng) (l : Nat) : Bell (nSh N) (wgt (nMk N) (nPr N) l) (nGl N l) (nD N l) := Classical.choose_spec (Bell_ex (nSh N) (wgt (nMk N) (nPr N) l) (nGl N l))
theorem ld_ex (N : Ng) (l : Nat) : ∃ o : Option (Nat × List Nat), (∀ y w, nD N l (nSt N l) = some y → isP (wgt (nMk N) (nPr N) l) (nD N l) (nGl N l) (nSt N l) w → o = some (y / 128, w)) ∧ (nD N l (nSt N l) = none → o = none) := by
  cases e : nD N l (nSt N l) with
  | none => exact ⟨none, fun y w z => (by cases z), fun _ => rfl⟩
  | some y =>
    by_cases h : ∃ w, isP (wgt (nMk N) (nPr N) l) (nD N l) (nGl N l) (nSt N l) w
    · obtain ⟨w, hw⟩ := h
      exact ⟨some (y / 128, w), fun y' w' z hw' => by cases z; rw [isP_uniq hw hw'], fun z => by cases z⟩
    · exact ⟨none, fun y' w' z hw' => absurd ⟨w', hw'⟩ h, fun z => by cases z⟩
/-- what leading finds: cost and way, or none -/
noncomputable def ldO (N : Ng) (l : Nat) : Option (Nat × List Nat) := Classical.choose (ld_ex N l)
theorem ldO_some {N : Ng} {l y : Nat} {w : List Nat} (h1 : nD N l (nSt N l) = some y) (h2 : isP (wgt (nMk N) (nPr N) l) (nD N l) (nGl N l) (nSt N l) w) : ldO N l = some (y / 128, w) := (Classical.choose_spec (ld_ex N l)).1 y w h1 h2
theorem ldO_none {N : Ng} {l : Nat} (h1 : nD N l (nSt N l) = none) : ldO N l = none := (Classical.choose_spec (ld_ex N l)).2 h1
theorem isP_way {N : Ng} (i : Inv N) {l y : Nat} {w : List Nat} (hl : l < nNl N) (h1 : nD N l (nSt N l) = some y) (h2 : isP (wgt (nMk N) (nPr N) l) (nD N l) (nGl N l) (nSt N l) w) : okWay (nSh N) (nSt N l) (nGl N l) w := by
  have hB := nD_ok N l
  obtain ⟨a1, a2, a3, a4⟩ := isP_ok hB (i.st hl) h1 h2
  obtain ⟨b1, b2⟩ := isP_pl hB (i.wt _ _) (i.st hl) h1 h2
  refine ⟨a1, a2, b2, fun p hp => ?_⟩
  obtain ⟨c1, z, c2, c3⟩ := b1 p hp
  refine ⟨c1, ?_⟩
  by_cases e : p = nGl N l
  · rw [e]; exact (i.pt (i.ab hl).2.1).2
  · exact (hB.2.2 p z c1 e c2).1
noncomputable def o_lead (N : Ng) (l : Nat) : Int32 × Ng := match ldO N l with
  | none => (-1000000, setW N l [])
  | some (c, w) => (nI c, setW N l w)
def ownC (N : Ng) (l : Nat) : Nat := fb_sm (fun s => if nMk N s &&& 2 ^ l = 0 then 0 else nPr N (popc (nMk N s) - 1)) 200
noncomputable def o_bet (N : Ng) (l : Nat) : Bool × Ng := match ldO N l with
  | none => (false, N)
  | some (c, w) => if nWy N l ≠ [] ∧ ownC N l ≤ c then (false, N) else (true, setW N l w)
