/-! the model's search: what holds while it goes on -/
def pw (N : Ng) (s : Nat) : Nat := nPr N (popc (nMk N s))
def bw (N : Ng) (s : Nat) : Nat := pw N s * 128 + 1
def hasC (D : Nat → Option Nat) (h : Mem) : Prop := ∀ p, p < 100 → (D p = none → h 115 p = -1000000) ∧ ∀ y, D p = some y → h 115 p = nI (y / 128) ∧ h 116 p = nI (y % 128) ∧ y % 128 ≤ 99 ∧ y / 128 ≤ 9900
def hasW (N : Ng) (h : Mem) : Prop := ∀ s, s < 180 → h 117 s = nI (pw N (phi s))
theorem setW_nil {N : Ng} {l : Nat} (h : nWy N l = []) : setW N l [] = N := by
  have e := setW_self N l
  rw [h] at e
  exact e
theorem bw_eq {N : Ng} {l : Nat} (h : nWy N l = []) : wgt (nMk N) (nPr N) l = bw N := by
  funext s
  show nPr N (popc (clr l (nMk N s))) * 128 + 1 = nPr N (popc (nMk N s)) * 128 + 1
  rw [clr_mk, setW_nil h]
theorem pw_b {N : Ng} (i : Inv N) (s : Nat) : 1 ≤ pw N s ∧ pw N s ≤ 100 := by
  have h := i.wt (nMk N) 12 s
  have h2 : wgt (nMk N) (nPr N) 12 s = nPr N (popc (clr 12 (nMk N s))) * 128 + 1 := rfl
  have e : clr 12 (nMk N s) = nMk N s := ext12 (clr_lt (mk_lt N s)) (mk_lt N s) (fun k hk => by
    rw [clr_bit hk]
    simp [show ¬ k = 12 by omega])
  rw [h2, e] at h
  unfold pw
  omega
def BF (sh : Nat → Bool) (wt : Nat → Nat) (g : Nat) (D : Nat → Option Nat) : Prop :=
  D g = some 0 ∧ (∀ p y, p < 100 → D p = some y → y % 128 ≤ rnk D y ∧ y / 128 ≤ 100 * rnk D y) ∧
  ∀ p y, p < 100 → p ≠ g → D p = some y → sh p = false ∧ ∃ d q x, d < 4 ∧ nb p d = some q ∧ D q = some x ∧ x + wt (sA p q d) ≤ y
theorem BF.lim {sh : Nat → Bool} {wt : Nat → Nat} {g p y : Nat} {D : Nat → Option Nat} (b : BF sh wt g D) (hp : p < 100) (h : D p = some y) : y % 128 ≤ 99 ∧ y / 128 ≤ 9900 := by
  have h1 := b.2.1 p y hp h
  have h2 := rnk_le hp h
  omega
theorem rnk_up {D : Nat → Option Nat} {p y : Nat} (h : ∀ z, D p = some z → y < z) (x : Nat) : rnk D x ≤ rnk (va_up D p (some y)) x := by
  unfold rnk
  apply fb_ct_sub
  intro k _ hk
  by_cases e : k = p
  · subst e
    rw [va_up_s]
    cases e2 : D k with
    | none => rw [e2] at hk; cases hk
    | some z =>
      rw [e2] at hk
      have h1 := h z e2
      have h2 : z < x := of_decide_eq_true hk
      exact decide_eq_true (by omega)
  · rw [va_up_ne _ _ e]; exact hk
theorem BF.relax {sh : Nat → Bool} {wt : Nat → Nat} {g p d q x k : Nat} {D : Nat → Option Nat} (b : BF sh wt g D) (hp : p < 100) (ho : sh p = false) (hd : d < 4) (hn : nb p d = some q) (hx : D q = some x) (hk : wt (sA p q d) = k * 128 + 1) (hk2 : k ≤ 100) (hlt : ∀ z, D p = some z → x + wt (sA p q d) < z) : BF sh wt g (va_up D p (some (x + wt (sA p q d)))) := by
  have hpg : p ≠ g := fun e => by
    have := hlt 0 (by rw [e]; exact b.1)
    omega
  have hqp : q ≠ p := fun e => by
    have := hlt x (by rw [← e]; exact hx)
    omega
  have hq := nb_lt hp hn
  have hr := rnk_up hlt
  have hl := b.lim hq hx
  have h1 := b.2.1 q x hq hx
  have h2 := rnk_lt hq hx (show x < x + wt (sA p q d) by omega)
  refine ⟨by rw [va_up_ne _ _ (Ne.symm hpg)]; exact b.1, fun t y ht hy => ?_, fun t y ht hg hy => ?_⟩
  · by_cases e : t = p
    · rw [e, va_up_s] at hy
      cases hy
      have h3 := hr (x + wt (sA p q d))
      omega
    · rw [va_up_ne _ _ e] at hy
      have h3 := b.2.1 t y ht hy
      have h4 := hr y
      omega
  · by_cases e : t = p
    · rw [e, va_up_s] at hy
      cases hy
      rw [e]
      exact ⟨ho, d, q, x, hd, hn, by rw [va_up_ne _ _ hqp]; exact hx, Nat.le_refl _⟩
    · rw [va_up_ne _ _ e] at hy
      obtain ⟨h3, d0, q0, x0, h4, h5, h6, h7⟩ := b.2.2 t y ht hg hy
      refine ⟨h3, ?_⟩
      by_cases e2 : q0 = p
      · rw [e2] at h6
        have h8 := hlt x0 h6
        exact ⟨d0, q0, _, h4, h5, by rw [e2, va_up_s], by omega⟩
      · exact ⟨d0, q0, x0, h4, h5, by rw [va_up_ne _ _ e2]; exact h6, h7⟩
def mu (D : Nat → Option Nat) : Nat := fb_sm (fun p => (D p).getD 1500000) 100
theorem mu_lt {D : Nat → Option Nat} {p y : Nat} (hp : p < 100) (h : ∀ z, D p = some z → y < z) (hy : y < 1500000) : mu (va_up D p (some y)) < mu D := by
  have h1 := fb_sm_upd (fun p => (D p).getD 1500000) y hp
  have h2 : mu (va_up D p (some y)) = fb_sm (fun k => if k = p then y else (D k).getD 1500000) 100 := fb_sm_cong (fun k _ => by
    by_cases e : k = p
    · rw [e, va_up_s, if_pos rfl]; rfl
    · rw [va_up_ne _ _ e, if_neg e])
  have h3 : y < (D p).getD 1500000 := by
    cases e : D p with
    | none => exact hy
    | some z => exact h z e
  have h4 : mu D = fb_sm (fun p => (D p).getD 1500000) 100 := rfl
  have h5 : (fun p => (D p).getD 1500000) p = (D p).getD 1500000 := rfl
  rw [h2, h4]
  omega
def okE (sh : Nat → Bool) (wt : Nat → Nat) (D : Nat → Option Nat) (p d : Nat) : Prop := ∀ q x, nb p d = some q → sh p = false → D q = some x → ∃ y, D p = some y ∧ y ≤ x + wt (sA p q d)
theorem BF.bell {sh : Nat → Bool} {wt : Nat → Nat} {g : Nat} {D : Nat → Option Nat} (b : BF sh wt g D) (h : ∀ p d, p < 100 → d < 4 → okE sh wt D p d) : Bell sh wt g D := by
  refine ⟨b.1, fun p q d x hp hd hn ho hx => h p d hp hd q x hn ho hx, fun p y hp hg hy => ?_⟩
  obtain ⟨h1, d, q, x, h2, h3, h4, h5⟩ := b.2.2 p y hp hg hy
  obtain ⟨y', h6, h7⟩ := h p d hp h2 q x h3 h1 h4
  rw [hy] at h6
  cases h6
  exact ⟨h1, d, q, x, h2, h3, h4, by omega⟩
theorem Bell_le {sh : Nat → Bool} {wt : Nat → Nat} {g : Nat} {D1 D2 : Nat → Option Nat} (h1 : Bell sh wt g D1) (h2 : Bell sh wt g D2) (hw : wtOK wt) : ∀ y p, p < 100 → D2 p = some y → ∃ x, D1 p = some x ∧ x ≤ y := by
  intro y
  induction y using Nat.strongRecOn with
  | _ y ih =>
    intro p hp h
    by_cases e : p = g
    · rw [e]; exact ⟨0, h1.1, Nat.zero_le _⟩
    · obtain ⟨ho, d, q, x, hd, hn, hx, rfl⟩ := h2.2.2 p y hp e h
      have := hw (sA p q d)
      obtain ⟨x', hx', hle⟩ := ih x (by omega) q (nb_lt hp hn) hx
      obtain ⟨y', hy', hle2⟩ := h1.2.1 p q d x' hp hd hn ho hx'
      exact ⟨y', hy', by omega⟩
theorem Bell_eq {sh : Nat → Bool} {wt : Nat → Nat} {g : Nat} {D1 D2 : Nat → Option Nat} (h1 : Bell sh wt g D1) (h2 : Bell sh wt g D2) (hw : wtOK wt) {p : Nat} (hp : p < 100) : D1 p = D2 p := by
  cases e : D2 p with
  | none =>
    cases e1 : D1 p with
    | none => rfl
    | some y =>
      obtain ⟨x, hx, -⟩ := Bell_le h2 h1 hw y p hp e1
      rw [e] at hx; cases hx
  | some y =>
    obtain ⟨x, hx, hle⟩ := Bell_le h1 h2 hw y p hp e
    obtain ⟨z, hz, hle2⟩ := Bell_le h2 h1 hw x p hp hx
    rw [e] at hz
    cases hz
    rw [hx, show x = y by omega]
theorem BF.end {N : Ng} (i : Inv N) {l : Nat} (hw0 : nWy N l = []) {D : Nat → Option Nat} (b : BF (nSh N) (bw N) (nGl N l) D) (h : ∀ p d, p < 100 → d < 4 → okE (nSh N) (bw N) D p d) : ∀ p, p < 100 → D p = nD N l p := fun p hp => by
  have h1 := b.bell h
  have h2 := nD_ok N l
  have h3 := i.wt (nMk N) l
  rw [bw_eq hw0] at h2 h3
  exact Bell_eq h1 h2 h3 hp
theorem BF.nil (sh : Nat → Bool) (wt : Nat → Nat) (g : Nat) : BF sh wt g (fun p => if p = g then some 0 else none) := by
  refine ⟨if_pos rfl, fun p y _ h => ?_, fun p y _ hg h => ?_⟩
  · have h : (if p = g then some 0 else none) = some y := h
    split at h
    · cases h; exact ⟨Nat.zero_le _, Nat.zero_le _⟩
    · cases h
  · have h : (if p = g then some 0 else none) = some y := h
    rw [if_neg hg] at h; cases h
theorem hasC_cong {D D' : Nat → Option Nat} {h : Mem} (a : hasC D h) (e : ∀ p, p < 100 → D p = D' p) : hasC D' h := fun p hp => by
  rw [← e p hp]; exact a p hp
theorem hasC_up {D : Nat → Option Nat} {h : Mem} (a : hasC D h) {p y : Nat} (h1 : y % 128 ≤ 99) (h2 : y / 128 ≤ 9900) : hasC (va_up D p (some y)) (wr (wr h 115 p (nI (y / 128))) 116 p (nI (y % 128))) := fun t ht => by
  by_cases e : t = p
  · subst e
    rw [va_up_s]
    refine ⟨fun z => (by cases z), fun z hz => ?_⟩
    cases hz
    refine ⟨?_, ?_, h1, h2⟩
    · rw [wr_c _ _ _ (by decide), wr_s]
    · rw [wr_s]
  · rw [va_up_ne _ _ e, wr_c _ _ _ (by decide), wr_j _ _ e, wr_j _ _ e, wr_c _ _ _ (by decide)]
    exact a t ht
theorem hasW.same {N : Ng} {h h' : Mem} {cs : List Nat} (a : hasW N h) (s : same cs h h') (hc : 117 ∉ cs) : hasW N h' := fun t ht => by rw [s 117 hc]; exact a t ht
theorem hasC.same {D : Nat → Option Nat} {h h' : Mem} {cs : List Nat} (a : hasC D h) (s : same cs h h') (h1 : 115 ∉ cs) (h2 : 116 ∉ cs) : hasC D h' := fun t ht => by rw [s 115 h1, s 116 h2]; exact a t ht
