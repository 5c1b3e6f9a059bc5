theorem RA_setN {S : St} {N' : Ng} {h h' : Mem} (a : RA S h) (n : RAn N' h') (f1 : ∀ c, 20 ≤ c → c < 40 → h' c = h c) (f7 : h' 7 = h 7) (f9 : h' 0 9 = h 0 9) (f10 : h' 0 10 = h 0 10) : RA (S.1, N', S.2.2.1, S.2.2.2) h' := by
  refine ⟨fun i hi => ?_, n, ?_, f10.trans a.2.2.2⟩
  · have := a.1 i hi
    unfold shOK at this ⊢
    rw [f1 _ (by omega) (by omega), f1 _ (by omega) (by omega)]
    exact this
  · have := a.2.2.1
    unfold RAt at this ⊢
    rw [f7, f9]
    exact this
theorem RA_setW {S : St} {N' : Ng} {h h' : Mem} (a : RA S h) (n : RAn N' h') (f : smW h h') : RA (S.1, N', S.2.2.1, S.2.2.2) h' := RA_setN a n (fun c h1 h2 => f c h2 (by simp only [List.mem_cons, List.not_mem_nil, or_false]; omega)) (f 7 (by decide) (by decide)) (by rw [f 0 (by decide) (by decide)]) (by rw [f 0 (by decide) (by decide)])
noncomputable def O_lead (S : St) (x : Int32) : Int32 × St := ite' (inR x (nNl S.2.1)) ((o_lead S.2.1 (cl x)).1, (S.1, (o_lead S.2.1 (cl x)).2, S.2.2.1, S.2.2.2)) (-1000001, S)
noncomputable def O_take (S : St) (x : Int32) : Int32 × St := ite' (inR x (nNl S.2.1)) (bz (0 < (nWy S.2.1 (cl x)).length), (S.1, setW S.2.1 (cl x) [], S.2.2.1, S.2.2.2)) (-1000001, S)
noncomputable def O_pass (S : St) : Int32 × St := (nI (o_pass S.2.1).1, (S.1, (o_pass S.2.1).2, S.2.2.1, S.2.2.2))
noncomputable def O_rest (S : St) : Int32 × St := (nI (rsK S.2.1), (S.1, psI S.2.1 (rsK S.2.1 + 1), S.2.2.1, S.2.2.2))
def Ok (S : St) : Prop := Inv S.2.1 ∧ S.2.2.2 ≤ 5
theorem P_lead (G : GE) (h : Mem) (S : St) (i : Ok S) (a : RA S h) (x : Int32) : Ct idsA G yX5_lead cX5_lead 3 (some .int) (rmD 6) [.ref (ad G 0), .int x] h (Qi fun rv h' => rv = (O_lead S x).1 ∧ RA (O_lead S x).2 h') := by
  intro A
  refine Ct_post (m_X5_lead G h S.2.1 i.1 a.2.1 x A) ?_
  rintro v h' ⟨y, rfl, hh⟩
  refine ⟨y, rfl, ?_⟩
  rcases hh with ⟨h1, rfl, rfl⟩ | ⟨l, hl, rfl, rfl, h2, h3⟩
  · rw [O_lead, ite_f h1]; exact ⟨rfl, a⟩
  · have hnl := i.1.nl
    rw [O_lead, ite_t (inR_nI hl (by omega)), cl_nI (by omega)]
    exact ⟨rfl, RA_setW a h2 (smW.of (l := 0) h3 (by intro c hc; simp only [List.mem_cons, List.not_mem_nil, or_false] at hc ⊢; omega))⟩
theorem P_take (G : GE) (h : Mem) (S : St) (i : Ok S) (a : RA S h) (x : Int32) : Ct idsA G yX5_take cX5_take 3 (some .int) (rmD 4) [.ref (ad G 0), .int x] h (Qi fun rv h' => rv = (O_take S x).1 ∧ RA (O_take S x).2 h') := by
  intro A
  refine Ct_post (m_X5_take G h S.2.1 i.1 a.2.1 x A) ?_
  rintro v h' ⟨y, rfl, hh⟩
  refine ⟨y, rfl, ?_⟩
  rcases hh with ⟨h1, rfl, rfl⟩ | ⟨l, hl, rfl, rfl, h2, h3⟩
  · rw [O_take, ite_f h1]; exact ⟨rfl, a⟩
  · have hnl := i.1.nl
    rw [O_take, ite_t (inR_nI hl (by omega)), cl_nI (by omega)]
    exact ⟨rfl, RA_setW a h2 (smW.of (l := 0) h3 (by intro c hc; simp only [List.mem_cons, List.not_mem_nil, or_false] at hc ⊢; omega))⟩
theorem P_pass (G : GE) (h : Mem) (S : St) (i : Ok S) (a : RA S h) : Ct idsA G yX5_pass cX5_pass 1 (some .int) (rmD 8) [.ref (ad G 0)] h (Qi fun rv h' => rv = (O_pass S).1 ∧ RA (O_pass S).2 h') := by
  intro A
  refine Ct_post (m_X5_pass G h S.2.1 i.1 a.2.1 A) ?_
  rintro v h' ⟨y, rfl, h1, h2, h3⟩
  exact ⟨y, rfl, h1, RA_setW a h2 h3⟩
theorem P_rest (G : GE) (h : Mem) (S : St) (i : Ok S) (a : RA S h) : Ct idsA G yX5_rest cX5_rest 2 (some .int) (rmD 8) [.ref (ad G 0)] h (Qi fun rv h' => rv = (O_rest S).1 ∧ RA (O_rest S).2 h') := by
  intro A
  refine Ct_post (m_X5_rest G h S.2.1 i.1 a.2.1 A) ?_
  rintro v h' ⟨y, rfl, h1, h2, h3⟩
  exact ⟨y, rfl, h1, RA_setW a h2 h3⟩
/-! points, lines, rules, shut places -/
def addP (N : Ng) (p : Nat) : Ng := (nSh N, nNp N + 1, va_up (nPp N) (nNp N) p, nNl N, nLa N, nLb N, nWy N, nBs N, nSv N)
def addL (N : Ng) (a b : Nat) : Ng := (nSh N, nNp N, nPp N, nNl N + 1, va_up (nLa N) (nNl N) a, va_up (nLb N) (nNl N) b, nWy N, nBs N, nSv N)
def setR (N : Ng) (b s : Nat) : Ng := (nSh N, nNp N, nPp N, nNl N, nLa N, nLb N, nWy N, b, s)
def setSh (N : Ng) (p : Nat) (x : Bool) : Ng := (va_up (nSh N) p x, nNp N, nPp N, nNl N, nLa N, nLb N, nWy N, nBs N, nSv N)
theorem ptF_none {pp : Nat → Nat} : ∀ {n p : Nat}, ptF pp n p = none → ∀ k, k < n → pp k ≠ p
  | 0, _, _, k, hk => absurd hk (Nat.not_lt_zero _)
  | n + 1, p, h, k, hk => by
    rw [ptF] at h
    by_cases e : pp n = p
    · rw [if_pos e] at h; cases h
    · rw [if_neg e] at h
      rcases (show k < n ∨ k = n by omega) with z | z
      · exact ptF_none h k z
      · rw [z]; exact e
theorem ptF_some {pp : Nat → Nat} : ∀ {n p k : Nat}, ptF pp n p = some k → k < n ∧ pp k = p
  | 0, _, _, h => by cases h
  | n + 1, p, k, h => by
    rw [ptF] at h
    by_cases e : pp n = p
    · rw [if_pos e] at h; cases h; exact ⟨by omega, e⟩
    · rw [if_neg e] at h
      obtain ⟨h1, h2⟩ := ptF_some h
      exact ⟨by omega, h2⟩
theorem ptF_cong {pp pp' : Nat → Nat} : ∀ {n p : Nat}, (∀ k, k < n → pp k = pp' k) → ptF pp n p = ptF pp' n p
  | 0, _, _ => rfl
  | n + 1, p, h => by rw [ptF, ptF, h n (by omega), ptF_cong (fun k hk => h k (by omega))]
theorem ptF_add (N : Ng) (p t : Nat) : ptF (va_up (nPp N) (nNp N) p) (nNp N + 1) t = if t = p then some (nNp N) else ptF (nPp N) (nNp N) t := by
  rw [ptF, va_up_s, ptF_cong (pp' := nPp N) (fun k hk => va_up_ne _ _ (by omega))]
  by_cases e : t = p
  · rw [if_pos e.symm, if_pos e]
  · rw [if_neg (Ne.symm e), if_neg e]
theorem Mk_cong {N N' : Ng} (hw : nWy N' = nWy N) (hs : ∀ l, nWy N l ≠ [] → nSt N' l = nSt N l) : nMk N' = nMk N := by
  funext s
  apply msk_cong
  intro l _
  unfold nOn
  rw [hw]
  by_cases e : nWy N l = []
  · rw [e]; simp [sdW]
  · rw [hs l e]
theorem Inv.st_addP {N : Ng} (i : Inv N) (p : Nat) {l : Nat} (hl : l < nNl N) : nSt (addP N p) l = nSt N l ∧ nGl (addP N p) l = nGl N l := by
  have h1 := i.ab hl
  exact ⟨va_up_ne _ _ (show nLa N l ≠ nNp N by omega), va_up_ne _ _ (show nLb N l ≠ nNp N by omega)⟩
theorem Inv.wyl {N : Ng} (i : Inv N) {l : Nat} (h : nWy N l ≠ []) : l < nNl N := by
  rcases Nat.lt_or_ge l (nNl N) with z | z
  · exact z
  · exact absurd (i.off z) h
theorem Mk_addP {N : Ng} (i : Inv N) (p : Nat) : nMk (addP N p) = nMk N := Mk_cong rfl (fun l hl => (i.st_addP p (i.wyl hl)).1)
theorem Mk_addL {N : Ng} (i : Inv N) (a b : Nat) : nMk (addL N a b) = nMk N := Mk_cong rfl (fun l hl => by
  have := i.wyl hl
  show nPp N (va_up (nLa N) (nNl N) a l) = nPp N (nLa N l)
  rw [va_up_ne _ _ (by omega)])
theorem Inv.addP {N : Ng} (i : Inv N) {p : Nat} (hp : p < 100) (hs : nSh N p = false) (hn : ptF (nPp N) (nNp N) p = none) (h12 : nNp N < 12) : Inv (addP N p) := by
  obtain ⟨i1, i2, i3, i4, i5, i6, i7, i8⟩ := id i
  refine ⟨h12, i2, fun k hk => ?_, fun x y hx hy e => ?_, fun l hl => ?_, i6, fun l hl => ?_, i8⟩
  · show va_up (nPp N) (nNp N) p k < 100 ∧ nSh N (va_up (nPp N) (nNp N) p k) = false
    have hk2 : k < nNp N + 1 := hk
    by_cases e : k = nNp N
    · rw [e, va_up_s]; exact ⟨hp, hs⟩
    · rw [va_up_ne _ _ e]; exact i3 k (by omega)
  · have hx2 : x < nNp N + 1 := hx
    have hy2 : y < nNp N + 1 := hy
    have e2 : va_up (nPp N) (nNp N) p x = va_up (nPp N) (nNp N) p y := e
    by_cases ex : x = nNp N <;> by_cases ey : y = nNp N
    · omega
    · rw [ex, va_up_s, va_up_ne _ _ ey] at e2
      exact absurd e2.symm (ptF_none hn y (by omega))
    · rw [ey, va_up_s, va_up_ne _ _ ex] at e2
      exact absurd e2 (ptF_none hn x (by omega))
    · rw [va_up_ne _ _ ex, va_up_ne _ _ ey] at e2
      exact i4 x y (by omega) (by omega) e2
  · have := i5 l hl
    exact ⟨Nat.lt_succ_of_lt this.1, Nat.lt_succ_of_lt this.2.1, this.2.2⟩
  · rw [(i.st_addP p hl).1, (i.st_addP p hl).2]
    exact i7 l hl
theorem Inv.addL {N : Ng} (i : Inv N) {a b : Nat} (ha : a < nNp N) (hb : b < nNp N) (hab : a ≠ b) (h12 : nNl N < 12) : Inv (addL N a b) := by
  obtain ⟨i1, i2, i3, i4, i5, i6, i7, i8⟩ := id i
  refine ⟨i1, h12, i3, i4, fun l hl => ?_, fun l hl => i6 l (Nat.le_trans (Nat.le_succ _) hl), fun l hl => ?_, i8⟩
  · show va_up (nLa N) (nNl N) a l < nNp N ∧ va_up (nLb N) (nNl N) b l < nNp N ∧ va_up (nLa N) (nNl N) a l ≠ va_up (nLb N) (nNl N) b l
    have hl2 : l < nNl N + 1 := hl
    by_cases e : l = nNl N
    · rw [e, va_up_s, va_up_s]; exact ⟨ha, hb, hab⟩
    · rw [va_up_ne _ _ e, va_up_ne _ _ e]; exact i5 l (by omega)
  · have hl2 : l < nNl N + 1 := hl
    by_cases e : l = nNl N
    · left; rw [e]; exact i6 _ (Nat.le_refl _)
    · show nWy N l = [] ∨ okWay (nSh N) (nPp N (va_up (nLa N) (nNl N) a l)) (nPp N (va_up (nLb N) (nNl N) b l)) (nWy N l)
      rw [va_up_ne _ _ e, va_up_ne _ _ e]; exact i7 l (by omega)
theorem Inv.setR {N : Ng} (i : Inv N) {b s : Nat} (h1 : 1 ≤ b) (h2 : b ≤ 100) (h3 : s ≤ 50) : Inv (setR N b s) := ⟨i.1, i.2.1, i.2.2.1, i.2.2.2.1, i.2.2.2.2.1, i.2.2.2.2.2.1, i.2.2.2.2.2.2.1, h1, h2, h3⟩
/-- a place of a way has a side of it -/
theorem plW_side : ∀ {w : List Nat} {a p : Nat}, a < 100 → okW a w → w ≠ [] → p ∈ plW a w → ∃ d q, d < 4 ∧ nb p d = some q ∧ sA p q d ∈ sdW a w
  | [], _, _, _, _, h, _ => absurd rfl h
  | d :: w, a, p, ha, hok, _, hp => by
    obtain ⟨hd, hn, hok⟩ := hok
    have hq := nb_lt ha hn
    rcases List.mem_cons.mp hp with e | hp
    · subst e
      exact ⟨d, _, hd, hn, List.mem_cons_self⟩
    · by_cases e : w = []
      · subst e
        simp [plW] at hp
        subst hp
        obtain ⟨s1, s2⟩ := nb_sym ha hd hn
        exact ⟨(d + 2) % 4, a, by omega, s1, by rw [s2]; exact List.mem_cons_self⟩
      · obtain ⟨d', q, h1, h2, h3⟩ := plW_side hq hok e hp
        exact ⟨d', q, h1, h2, List.mem_cons_of_mem _ h3⟩
theorem orL_zero {M : Nat → Nat} {p : Nat} : ∀ {n : Nat}, orL M p n = 0 ↔ ∀ d, d < n → lfM M p d = 0
  | 0 => ⟨fun _ d hd => absurd hd (Nat.not_lt_zero _), fun _ => rfl⟩
  | n + 1 => by
    rw [orL, Nat.or_eq_zero_iff, orL_zero (n := n)]
    constructor
    · rintro ⟨h1, h2⟩ d hd
      rcases (show d < n ∨ d = n by omega) with z | z
      · exact h1 d z
      · rw [z]; exact h2
    · intro h
      exact ⟨fun d hd => h d (by omega), h n (by omega)⟩
theorem mk_zero {N : Ng} {s : Nat} : nMk N s = 0 ↔ ∀ l, l < 12 → nOn N l s = false := by
  constructor
  · intro h l hl
    rw [← bit_mk hl, h]; simp
  · intro h
    apply ext12 (mk_lt N s) (by decide)
    intro l hl
    rw [bit_mk hl, h l hl]; simp
/-- some line goes through the place -/
theorem gone_iff {N : Ng} (i : Inv N) {p : Nat} (hp : p < 100) : orL (nMk N) p 4 = 0 ↔ ∀ l, l < nNl N → nWy N l ≠ [] → p ∉ plW (nSt N l) (nWy N l) := by
  have hnl := i.nl
  rw [orL_zero]
  constructor
  · intro h l hl hne hpl
    obtain ⟨d, q, h1, h2, h3⟩ := plW_side (i.st hl) (i.ok hl) hne hpl
    have h4 := h d h1
    unfold lfM at h4
    rw [h2] at h4
    have h5 := mk_zero.mp h4 l (by omega)
    simp [nOn, h3] at h5
  · intro h d hd
    unfold lfM
    cases e : nb p d with
    | none => rfl
    | some q =>
      show nMk N (sA p q d) = 0
      rw [mk_zero]
      intro l hl
      cases z : nOn N l (sA p q d) with
      | false => rfl
      | true =>
        exfalso
        have hz : sA p q d ∈ sdW (nSt N l) (nWy N l) := of_decide_eq_true z
        have hne : nWy N l ≠ [] := fun e => by rw [e] at hz; simp [sdW] at hz
        have hl2 := i.wyl hne
        obtain ⟨a, d', h1, h2, h3, h4, h5, h6⟩ := sdW_ends (i.st hl2) (i.ok hl2) hz
        rcases sA_ends hp h1 hd h2 e h3 h4 with ⟨e1, -⟩ | ⟨e1, -⟩
        · exact h l hl2 hne (by rw [e1]; exact h5)
        · exact h l hl2 hne (by rw [e1]; exact h6)
theorem Inv.setSh {N : Ng} (i : Inv N) {p : Nat} (x : Bool) (h : x = true → ptF (nPp N) (nNp N) p = none ∧ ∀ l, l < nNl N → nWy N l ≠ [] → p ∉ plW (nSt N l) (nWy N l)) : Inv (setSh N p x) := by
  obtain ⟨i1, i2, i3, i4, i5, i6, i7, i8⟩ := id i
  have key : ∀ t, (x = true → t ≠ p) → nSh N t = false → va_up (nSh N) p x t = false := fun t h1 h2 => by
    by_cases e : t = p
    · rw [e, va_up_s]
      cases x with
      | false => rfl
      | true => exact absurd e (h1 rfl)
    · rw [va_up_ne _ _ e]; exact h2
  refine ⟨i1, i2, fun k hk => ⟨(i3 k hk).1, key _ (fun hx => ?_) (i3 k hk).2⟩, i4, i5, i6, fun l hl => ?_, i8⟩
  · exact ptF_none (h hx).1 k hk
  · rcases i7 l hl with z | z
    · exact Or.inl z
    · by_cases e : nWy N l = []
      · exact Or.inl e
      · exact Or.inr ⟨z.1, z.2.1, z.2.2.1, fun t ht => ⟨(z.2.2.2 t ht).1, key t (fun hx e2 => (h hx).2 l hl e (by rw [← e2]; exact ht)) (z.2.2.2 t ht).2⟩⟩
