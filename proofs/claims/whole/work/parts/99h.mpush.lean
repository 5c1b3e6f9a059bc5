theorem sdW_app : ∀ (u v : List Nat) (p : Nat), sdW p (u ++ v) = sdW p u ++ sdW (endW p u) v
  | [], _, _ => rfl
  | d :: u, v, p => by
    show sA p (stp p d) d :: sdW (stp p d) (u ++ v) = sA p (stp p d) d :: (sdW (stp p d) u ++ sdW (endW (stp p d) u) v)
    rw [sdW_app u v]
theorem endW_app : ∀ (u v : List Nat) (p : Nat), endW p (u ++ v) = endW (endW p u) v
  | [], _, _ => rfl
  | _ :: u, v, p => endW_app u v _
theorem phi_inj {s t : Nat} (hs : s < 180) (ht : t < 180) (h : phi s = phi t) : s = t := by
  unfold phi at h
  split at h <;> split at h <;> omega
theorem wr_id (h : Mem) (c j : Nat) : wr h c j (h c j) = h := by
  funext c' j'
  by_cases e : c' = c
  · subst e
    by_cases e2 : j' = j
    · rw [e2, wr_s]
    · rw [wr_j _ _ e2]
  · rw [wr_c _ _ _ e]
theorem RBn_push {N : Ng} {h : Mem} (i : Inv N) {l : Nat} (hl : l < 12) {u : List Nat} {p d q : Nat} (r : RBn (setW N l u) (wr h 111 l (nI u.length))) (hp : p < 100) (hd : d < 4) (he : endW (nSt N l) u = p) (hn : nb p d = some q) (hu : u.length < 100) : RBn (setW N l (u ++ [d])) (wr (wr (wr h 112 (100 * l + u.length) (nI d)) 113 (180 * l + sB p d) (nI 1)) 111 l (nI (u.length + 1))) := by
  obtain ⟨r1, r2, r3, r4, r5, r6, r7, r8, r9⟩ := r
  rw [wr_c _ _ _ (by decide)] at r1 r2 r3 r4 r8 r9
  rw [wr_c _ _ _ (by decide), wr_c _ _ _ (by decide)] at r5
  obtain ⟨hsB, hph⟩ := phi_sB hp hd hn
  refine ⟨?_, ?_, ?_, ?_, ?_, fun t ht => ?_, fun t ht s hs => ?_, ?_, ?_⟩
  · rw [wr_c _ _ _ (by decide), wr_c _ _ _ (by decide), wr_c _ _ _ (by decide)]; exact r1
  · rw [wr_c _ _ _ (by decide), wr_c _ _ _ (by decide), wr_c _ _ _ (by decide)]; exact r2
  · rw [wr_c _ _ _ (by decide), wr_c _ _ _ (by decide), wr_c _ _ _ (by decide)]; exact r3
  · rw [wr_c _ _ _ (by decide), wr_c _ _ _ (by decide), wr_c _ _ _ (by decide)]; exact r4
  · rw [wr_c _ _ _ (by decide), wr_c _ _ _ (by decide), wr_c _ _ _ (by decide), wr_c _ _ _ (by decide), wr_c _ _ _ (by decide), wr_c _ _ _ (by decide)]; exact r5
  · have h6 := r6 t ht
    rw [wr_c (c' := 112) _ _ _ (by decide)] at h6
    replace h6 : _ = nI (va_up (nWy N) l u t).length ∧ ∀ k, k < (va_up (nWy N) l u t).length → h 112 (100 * t + k) = nI ((va_up (nWy N) l u t).getD k 0) := h6
    show _ = nI (va_up (nWy N) l (u ++ [d]) t).length ∧ ∀ k, k < (va_up (nWy N) l (u ++ [d]) t).length → _ = nI ((va_up (nWy N) l (u ++ [d]) t).getD k 0)
    by_cases e : t = l
    · subst e
      rw [va_up_s] at h6 ⊢
      rw [List.length_append]
      refine ⟨wr_s _ _ _ _, fun k hk => ?_⟩
      replace hk : k < u.length + 1 := hk
      rw [wr_c _ _ _ (by decide), wr_c _ _ _ (by decide)]
      by_cases e2 : k = u.length
      · rw [e2, wr_s, getD_mid]
      · rw [wr_j _ _ (by omega), getD_app (show k < u.length by omega)]
        exact h6.2 k (by omega)
    · rw [va_up_ne _ _ e] at h6 ⊢
      have hlt := i.len (l := t)
      refine ⟨?_, fun k hk => ?_⟩
      · have h61 := h6.1
        rw [wr_j _ _ e] at h61
        rw [wr_j _ _ e, wr_c _ _ _ (by decide), wr_c _ _ _ (by decide)]
        exact h61
      · rw [wr_c _ _ _ (by decide), wr_c _ _ _ (by decide), wr_j _ _ (by omega)]
        exact h6.2 k hk
  · have h7 := r7 t ht s hs
    rw [wr_c _ _ _ (by decide)] at h7 ⊢
    rw [nOn_set] at h7 ⊢
    by_cases e : t = l
    · subst e
      rw [if_pos rfl] at h7 ⊢
      rw [sdW_app, he]
      have e3 : sdW p [d] = [sA p q d] := by show [sA p (stp p d) d] = _; rw [stp_eq hn]
      rw [e3]
      by_cases e2 : s = sB p d
      · rw [e2, wr_s]
        refine (bz_r1 (decide_eq_true ?_))
        rw [hph]
        exact List.mem_append_right _ (List.mem_singleton.mpr rfl)
      · rw [wr_j _ _ (by omega), wr_c _ _ _ (by decide), h7]
        refine bz_c ?_
        rw [decide_eq_true_iff, decide_eq_true_iff, List.mem_append, List.mem_singleton]
        exact ⟨Or.inl, fun z => z.elim id (fun y => absurd (phi_inj hs hsB (y.trans hph.symm)) e2)⟩
    · rw [if_neg e] at h7 ⊢
      rw [wr_j _ _ (by omega), wr_c _ _ _ (by decide)]
      exact h7
  · rw [wr_c _ _ _ (by decide), wr_c _ _ _ (by decide), wr_c _ _ _ (by decide)]; exact r8
  · rw [wr_c _ _ _ (by decide), wr_c _ _ _ (by decide), wr_c _ _ _ (by decide)]; exact r9
def dn : Nat → Int32
  | 0 => -1
  | k + 1 => nI k
theorem dn_dec {k : Nat} (h : k < 4) : dn (k + 1) + (-1) = dn k := by
  rcases (show k = 0 ∨ k = 1 ∨ k = 2 ∨ k = 3 by omega) with rfl | rfl | rfl | rfl <;> decide
theorem nD_set (N : Ng) (l : Nat) : nD (setW N l []) l = nD N l := by
  have e : wgt (nMk (setW N l [])) (nPr (setW N l [])) l = wgt (nMk N) (nPr N) l := by
    funext s
    show nPr N (popc (clr l (nMk (setW N l []) s))) * 128 + 1 = nPr N (popc (clr l (nMk N s))) * 128 + 1
    rw [clr_mk, clr_mk, setW_nil (show nWy (setW N l []) l = [] from va_up_s _ _ _)]
  exact congrArg (fun wt => Classical.choose (Bell_ex (nSh N) wt (nGl N l))) e
