/-! ===== what all costs; resting ===== -/
def nCost (N : Ng) : Nat := fb_sm (fun s => fb_sm (nPr N) (popc (nMk N s))) 200
theorem fb_sm_list (f : Nat → Nat) {n : Nat} : ∀ {ss : List Nat}, ss.Nodup → (∀ s ∈ ss, s < n) → fb_sm (fun s => if s ∈ ss then f s else 0) n = (ss.map f).sum
  | [], _, _ => by
    have := fb_sm_const 0 n
    simp
    exact this.trans (Nat.mul_zero _)
  | s :: t, hn, hb => by
    have hn := List.nodup_cons.mp hn
    have ih := fb_sm_list f hn.2 (fun x hx => hb x (List.mem_cons_of_mem _ hx))
    have h1 := fb_sm_upd (fun k => if k ∈ t then f k else 0) (f s) (hb s List.mem_cons_self)
    simp only [if_neg hn.1] at h1
    rw [ih] at h1
    have e : fb_sm (fun k => if k ∈ s :: t then f k else 0) n = fb_sm (fun k => if k = s then f s else if k ∈ t then f k else 0) n := by
      apply fb_sm_cong
      intro k _
      by_cases z : k = s
      · subst z; simp
      · simp [z]
    rw [e, List.map_cons, List.sum_cons]
    omega
theorem clr_msk {f : Nat → Bool} {l : Nat} : clr l (msk f 12) = msk (fun i => if i = l then false else f i) 12 := by
  apply ext12 (clr_lt (msk12 f)) (msk12 _)
  intro i hi
  rw [clr_bit hi, msk_bit, msk_bit]
  by_cases e : i = l <;> simp [hi, e]
theorem clr_mk (N : Ng) (l s : Nat) : clr l (nMk N s) = nMk (setW N l []) s := by
  rw [nMk, clr_msk]
  apply msk_cong
  intro i _
  rw [nOn_set]
  simp [sdW]
theorem bit_mk {N : Ng} {l s : Nat} (hl : l < 12) : (nMk N s).testBit l = nOn N l s := by rw [nMk, msk_bit]; simp [hl]
theorem and_mk {N : Ng} {l s : Nat} (hl : l < 12) : nMk N s &&& 2 ^ l = 0 ↔ nOn N l s = false := by rw [and_pow_bit, bit_mk hl]
theorem popc_set {N : Ng} {l s : Nat} (hl : l < 12) (w : List Nat) : popc (nMk (setW N l w) s) = popc (nMk (setW N l []) s) + (if s ∈ sdW (nSt N l) w then 1 else 0) := by
  rw [nMk, nMk, popc_msk, popc_msk]
  have h1 := fb_ct_upd (fun i => nOn (setW N l []) i s) (decide (s ∈ sdW (nSt N l) w)) hl
  have hz : nOn (setW N l []) l s = false := by rw [nOn_set, if_pos rfl]; simp [sdW]
  have e : fb_ct (fun k => if k = l then decide (s ∈ sdW (nSt N l) w) else nOn (setW N l []) k s) 12 = fb_ct (fun i => nOn (setW N l w) i s) 12 := by
    apply fb_ct_cong
    intro k _
    rw [nOn_set N l w, nOn_set]
    split <;> rfl
  rw [e] at h1
  simp only [hz] at h1
  by_cases z : s ∈ sdW (nSt N l) w <;> simp [z] at h1 ⊢ <;> omega
def pSum (N : Ng) (l : Nat) (w : List Nat) : Nat := fb_sm (fun s => if s ∈ sdW (nSt N l) w then nPr N (popc (nMk (setW N l []) s)) else 0) 200
theorem cost_set {N : Ng} {l : Nat} (hl : l < 12) (w : List Nat) : nCost (setW N l w) = nCost (setW N l []) + pSum N l w := by
  unfold nCost pSum
  rw [← fb_sm_add]
  apply fb_sm_cong
  intro s _
  show fb_sm (nPr N) _ = fb_sm (nPr N) _ + _
  rw [popc_set hl w]
  split
  · rw [fb_sm_succ]
  · rfl
theorem setW_self (N : Ng) (l : Nat) : setW N l (nWy N l) = N := by
  have e : va_up (nWy N) l (nWy N l) = nWy N := by
    funext t
    by_cases z : t = l
    · rw [z, va_up_s]
    · rw [va_up_ne _ _ z]
  show (nSh N, nNp N, nPp N, nNl N, nLa N, nLb N, va_up (nWy N) l (nWy N l), nBs N, nSv N) = N
  rw [e]
  rfl
theorem ownC_eq {N : Ng} {l : Nat} (hl : l < 12) : ownC N l = pSum N l (nWy N l) := by
  unfold ownC pSum
  apply fb_sm_cong
  intro s _
  have h1 := popc_set (N := N) (s := s) hl (nWy N l)
  rw [setW_self] at h1
  by_cases z : s ∈ sdW (nSt N l) (nWy N l)
  · rw [if_neg (fun e => by rw [and_mk hl] at e; simp [nOn, z] at e), if_pos z]
    rw [if_pos z] at h1
    rw [h1, Nat.add_sub_cancel]
  · rw [if_pos (by rw [and_mk hl]; simp [nOn, z]), if_neg z]
theorem cost_own {N : Ng} {l : Nat} (hl : l < 12) : nCost N = nCost (setW N l []) + ownC N l := by
  have h := cost_set (N := N) hl (nWy N l)
  rw [setW_self] at h
  rw [h, ownC_eq hl]
theorem cW_sum {N : Ng} {l : Nat} : ∀ (w : List Nat) (p : Nat), cW (wgt (nMk N) (nPr N) l) p w = ((sdW p w).map (fun s => nPr N (popc (nMk (setW N l []) s)))).sum * 128 + w.length
  | [], _ => rfl
  | d :: w, p => by
    rw [cW, cW_sum w, sdW, List.map_cons, List.sum_cons, List.length_cons, wgt, clr_mk, Nat.add_mul]
    omega
theorem sdW_lt : ∀ {w : List Nat} {p s : Nat}, p < 100 → okW p w → s ∈ sdW p w → s < 200 := fun hp hok hs => by
  obtain ⟨a, d, h1, -, -, rfl, -⟩ := sdW_ends hp hok hs
  exact sA_lt h1
theorem pSum_list {N : Ng} {l : Nat} {w : List Nat} (ha : nSt N l < 100) (hok : okW (nSt N l) w) (hn : (sdW (nSt N l) w).Nodup) : pSum N l w = ((sdW (nSt N l) w).map (fun s => nPr N (popc (nMk (setW N l []) s)))).sum := fb_sm_list _ hn (fun _ hs => sdW_lt ha hok hs)
theorem ld_cost {N : Ng} (i : Inv N) {l c : Nat} {w : List Nat} (hl : l < nNl N) (h : ldO N l = some (c, w)) : c = pSum N l w := by
  obtain ⟨y, h1, rfl, h3⟩ := ldO_inv i hl h
  have hw := isP_way i hl h1 h3
  have h4 := (isP_ok (nD_ok N l) (i.st hl) h1 h3).2.2.2
  rw [cW_sum] at h4
  have h5 := hw.len
  rw [pSum_list (i.st hl) hw.1 (hw.sd (i.st hl))]
  omega
theorem bet_cost {N : Ng} (i : Inv N) {l : Nat} (hl : l < nNl N) (hf : nWy N l ≠ [] ∨ ldO N l = none) : nCost (o_bet N l).2 + (if (o_bet N l).1 = true then 1 else 0) ≤ nCost N := by
  have hnl := i.nl
  rcases bet_cases i hl with e | ⟨c, w, h1, hw, -, h2, e⟩
  · rw [e]
    show nCost N + (if false = true then 1 else 0) ≤ nCost N
    rw [if_neg (by decide)]
    omega
  · rw [e]
    show nCost (setW N l w) + 1 ≤ nCost N
    have h3 := ld_cost i hl h1
    rw [cost_set (by omega) w, cost_own (N := N) (l := l) (by omega), ← h3]
    rcases hf with z | z
    · rcases h2 with y | y
      · exact absurd y z
      · omega
    · rw [z] at h1; cases h1
theorem Bell_none {sh : Nat → Bool} {wt1 wt2 : Nat → Nat} {g : Nat} {D1 D2 : Nat → Option Nat} (h1 : Bell sh wt1 g D1) (h2 : Bell sh wt2 g D2) (hw : wtOK wt2) : ∀ y p, p < 100 → D2 p = some y → ∃ x, D1 p = some x := by
  intro y
  induction y using Nat.strongRecOn with
  | _ y ih =>
    intro p hp h
    by_cases e : p = g
    · rw [e]; exact ⟨0, h1.1⟩
    · obtain ⟨ho, d, q, x, hd, hn, hx, rfl⟩ := h2.2.2 p y hp e h
      have := hw (sA p q d)
      obtain ⟨x', hx'⟩ := ih x (by omega) q (nb_lt hp hn) hx
      obtain ⟨y', hy', -⟩ := h1.2.1 p q d x' hp hd hn ho hx'
      exact ⟨y', hy'⟩
theorem ld_none_set {N : Ng} (i : Inv N) {l l' : Nat} {w : List Nat} (hl : l < nNl N) (hl' : l' < nNl N) (hw : w = [] ∨ okWay (nSh N) (nSt N l') (nGl N l') w) (h : ldO N l = none) : ldO (setW N l' w) l = none := by
  apply ldO_none
  show nD (setW N l' w) l (nSt N l) = none
  cases e : nD (setW N l' w) l (nSt N l) with
  | none => rfl
  | some y =>
    exfalso
    have hB2 : Bell (nSh N) _ (nGl N l) (nD (setW N l' w) l) := nD_ok (setW N l' w) l
    obtain ⟨x, hx⟩ := Bell_none (nD_ok N l) hB2 ((i.set hl' hw).wt _ _) y _ (i.st hl) e
    obtain ⟨v, hv, -⟩ := isP_ex (nD_ok N l) (i.wt _ _) x _ (i.st hl) hx
    rw [ldO_some hx hv] at h
    cases h
def fullN (N : Ng) (k : Nat) : Prop := ∀ l, l < k → nWy N l ≠ [] ∨ ldO N l = none
theorem full_bet {N : Ng} (i : Inv N) {k l : Nat} (hl : l < nNl N) (hk : k ≤ nNl N) (hf : fullN N k) : fullN (o_bet N l).2 k := by
  rcases bet_cases i hl with e | ⟨c, w, h1, hw, hne, h2, e⟩
  · rw [e]; exact hf
  · rw [e]
    intro l' hl'
    show va_up (nWy N) l w l' ≠ [] ∨ _
    by_cases z : l' = l
    · subst z; rw [va_up_s]; exact Or.inl hne
    · rw [va_up_ne _ _ z]
      rcases hf l' hl' with y | y
      · exact Or.inl y
      · exact Or.inr (ld_none_set i (by omega) hl (Or.inr hw) y)
theorem bet_self {N : Ng} (i : Inv N) {l : Nat} (hl : l < nNl N) : nWy (o_bet N l).2 l ≠ [] ∨ ldO (o_bet N l).2 l = none := by
  rcases bet_cases i hl with e | ⟨c, w, h1, hw, hne, h2, e⟩
  · rw [e]
    cases e2 : ldO N l with
    | none => exact Or.inr rfl
    | some cw =>
      obtain ⟨c, w⟩ := cw
      left
      intro z
      have : o_bet N l = (true, setW N l w) := by simp only [o_bet, e2]; rw [if_neg (fun y => y.1 z)]
      rw [this] at e
      cases e
  · rw [e]
    show va_up (nWy N) l w l ≠ [] ∨ _
    rw [va_up_s]
    exact Or.inl hne
theorem ps_full {N : Ng} (i : Inv N) : ∀ k, k ≤ nNl N → fullN (psF N k).2 k
  | 0, _ => fun l hl => absurd hl (Nat.not_lt_zero _)
  | k + 1, hk => by
    obtain ⟨a, b, -⟩ := psF_ok i k (by omega)
    have ih := ps_full i k (by omega)
    intro l hl
    show nWy (o_bet (psF N k).2 k).2 l ≠ [] ∨ ldO (o_bet (psF N k).2 k).2 l = none
    rcases (show l < k ∨ l = k by omega) with z | z
    · exact full_bet a (by omega) (by omega) ih l z
    · rw [z]; exact bet_self a (by omega)
theorem ps_keep {N : Ng} (i : Inv N) (hf : fullN N (nNl N)) : ∀ k, k ≤ nNl N → fullN (psF N k).2 (nNl N) ∧ nCost (psF N k).2 + (psF N k).1 ≤ nCost N
  | 0, _ => ⟨hf, by show nCost N + 0 ≤ nCost N; omega⟩
  | k + 1, hk => by
    obtain ⟨a, b, -⟩ := psF_ok i k (by omega)
    obtain ⟨f, c⟩ := ps_keep i hf k (by omega)
    have hc := bet_cost a (show k < nNl (psF N k).2 by omega) (f k (by omega))
    refine ⟨full_bet a (by omega) (by omega) f, ?_⟩
    show nCost (o_bet (psF N k).2 k).2 + ((psF N k).1 + (if (o_bet (psF N k).2 k).1 = true then 1 else 0)) ≤ nCost N
    omega
noncomputable def psI (N : Ng) : Nat → Ng
  | 0 => N
  | k + 1 => (o_pass (psI N k)).2
theorem psI_ok {N : Ng} (i : Inv N) : ∀ k, Inv (psI N k) ∧ nNl (psI N k) = nNl N
  | 0 => ⟨i, rfl⟩
  | k + 1 => by
    obtain ⟨a, b⟩ := psI_ok i k
    obtain ⟨c, d, -⟩ := psF_ok a (nNl (psI N k)) (Nat.le_refl _)
    exact ⟨c, d.trans b⟩
theorem psI_full {N : Ng} (i : Inv N) (k : Nat) : fullN (psI N (k + 1)) (nNl (psI N (k + 1))) := by
  obtain ⟨a, b⟩ := psI_ok i k
  obtain ⟨c, d, -⟩ := psF_ok a (nNl (psI N k)) (Nat.le_refl _)
  have := ps_full a (nNl (psI N k)) (Nat.le_refl _)
  show fullN (psF (psI N k) (nNl (psI N k))).2 (nNl (psF (psI N k) (nNl (psI N k))).2)
  rw [d]
  exact this
theorem psI_cost {N : Ng} (i : Inv N) (k : Nat) : nCost (psI N (k + 1 + 1)) + (o_pass (psI N (k + 1))).1 ≤ nCost (psI N (k + 1)) :=
  (ps_keep (psI_ok i (k + 1)).1 (psI_full i k) _ (Nat.le_refl _)).2
theorem nCost_le {N : Ng} (i : Inv N) : nCost N ≤ 240000 := by
  have h1 : ∀ s, fb_sm (nPr N) (popc (nMk N s)) ≤ 1200 := fun s => by
    have h2 := fb_sm_bound (f := nPr N) (c := 100) (n := popc (nMk N s)) (fun k _ => (prc_b (s := nSv N) i.2.2.2.2.2.2.2.1 i.2.2.2.2.2.2.2.2.1 k).2)
    have h3 := popc_le (nMk N s)
    have h4 : popc (nMk N s) * 100 ≤ 12 * 100 := Nat.mul_le_mul_right _ h3
    omega
  exact fb_sm_bound (n := 200) (fun k _ => h1 k)
theorem rs_ex (N : Ng) : ∃ k, Inv N → ((o_pass (psI N k)).1 = 0 ∧ (∀ j, j < k → ¬ (o_pass (psI N j)).1 = 0) ∧ k ≤ 240002) := by
  by_cases i : Inv N
  · have key : ∀ n, (∀ j, j < n + 1 → ¬ (o_pass (psI N j)).1 = 0) → nCost (psI N (n + 1)) + n ≤ 240000 := by
      intro n
      induction n with
      | zero =>
        intro _
        rw [Nat.add_zero]
        exact nCost_le (psI_ok i (0 + 1)).1
      | succ n ih =>
        intro h
        have h1 := ih (fun j hj => h j (by omega))
        have h2 := psI_cost i n
        have h3 := h (n + 1) (by omega)
        omega
    obtain ⟨nn, hnn⟩ : ∃ n, n = 240001 := ⟨_, rfl⟩
    have hex : ∃ k, (o_pass (psI N k)).1 = 0 := by
      rcases Classical.em (∃ k, (o_pass (psI N k)).1 = 0) with h | h
      · exact h
      · have := key nn (fun j _ z => h ⟨j, z⟩)
        omega
    obtain ⟨k, h1, h2⟩ := pk_least _ hex
    refine ⟨k, fun _ => ⟨h1, h2, ?_⟩⟩
    rcases Nat.lt_or_ge k 240003 with z | z
    · omega
    · have := key nn (fun j hj => h2 j (by omega))
      omega
  · exact ⟨0, fun z => absurd z i⟩
noncomputable def rsK (N : Ng) : Nat := Classical.choose (rs_ex N)
theorem rsK_ok {N : Ng} (i : Inv N) : (o_pass (psI N (rsK N))).1 = 0 ∧ (∀ j, j < rsK N → ¬ (o_pass (psI N j)).1 = 0) ∧ rsK N ≤ 240002 := Classical.choose_spec (rs_ex N) i
