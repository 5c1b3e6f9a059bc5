/-! ===== masks ===== -/
def msk (f : Nat → Bool) : Nat → Nat
  | 0 => 0
  | n + 1 => msk f n + (if f n then 2 ^ n else 0)
theorem msk_lt (f : Nat → Bool) : ∀ n, msk f n < 2 ^ n
  | 0 => (by decide : (0 : Nat) < 1)
  | n + 1 => by
    have := msk_lt f n
    rw [msk, Nat.pow_succ]
    split <;> omega
theorem msk_bit (f : Nat → Bool) (i : Nat) : ∀ n, (msk f n).testBit i = (decide (i < n) && f i)
  | 0 => by simp [msk]
  | n + 1 => by
    have ih := msk_bit f i n
    have hlt := msk_lt f n
    rw [msk]
    by_cases hf : f n = true
    · rw [if_pos hf, Nat.add_comm, show 2 ^ n + msk f n = 2 ^ n * 1 + msk f n by rw [Nat.mul_one], Nat.two_pow_add_eq_or_of_lt hlt, Nat.mul_one, Nat.testBit_or, tb_pow, ih]
      by_cases e : i = n
      · subst e; simp [hf]
      · by_cases e2 : i < n
        · simp [e, e2, show i < n + 1 by omega]
        · simp [e, e2, show ¬ i < n + 1 by omega]
    · rw [if_neg hf, Nat.add_zero, ih]
      by_cases e : i = n
      · subst e; simp [Bool.eq_false_iff.mpr hf]
      · by_cases e2 : i < n
        · simp [e2, show i < n + 1 by omega]
        · simp [e2, show ¬ i < n + 1 by omega]
theorem ext12 {a b : Nat} (ha : a < 4096) (hb : b < 4096) (h : ∀ i, i < 12 → a.testBit i = b.testBit i) : a = b := by
  apply Nat.eq_of_testBit_eq
  intro i
  by_cases hi : i < 12
  · exact h i hi
  · rw [Nat.testBit_lt_two_pow (Nat.lt_of_lt_of_le ha (Nat.pow_le_pow_right (show 0 < 2 by decide) (show 12 ≤ i by omega))), Nat.testBit_lt_two_pow (Nat.lt_of_lt_of_le hb (Nat.pow_le_pow_right (show 0 < 2 by decide) (show 12 ≤ i by omega)))]
theorem msk12 (f : Nat → Bool) : msk f 12 < 4096 := msk_lt f 12
theorem popc_msk (f : Nat → Bool) : popc (msk f 12) = fb_ct f 12 := fb_ct_cong (fun k hk => by rw [msk_bit]; simp [hk])
theorem pow12 {l : Nat} (hl : l < 12) : 2 ^ l < 4096 := Nat.pow_lt_pow_right (by decide) (show l < 12 from hl)
theorem msk_flip {f : Nat → Bool} {l : Nat} (hl : l < 12) : msk f 12 ^^^ 2 ^ l = msk (fun i => if i = l then !f i else f i) 12 := by
  apply ext12 (Nat.xor_lt_two_pow (n := 12) (msk12 f) (pow12 hl)) (msk12 _)
  intro i hi
  rw [Nat.testBit_xor, msk_bit, msk_bit, tb_pow]
  by_cases e : i = l
  · subst e; simp [hi]
  · simp [hi, e]
theorem msk_cong {f g : Nat → Bool} : ∀ {n : Nat}, (∀ i, i < n → f i = g i) → msk f n = msk g n
  | 0, _ => rfl
  | n + 1, h => by rw [msk, msk, msk_cong (fun i hi => h i (by omega)), h n (by omega)]
theorem flipL_at {l : Nat} : ∀ {ss : List Nat} (M : Nat → Nat), ss.Nodup → ∀ t, flipL l ss M t = if t ∈ ss then M t ^^^ 2 ^ l else M t
  | [], M, _, t => by simp [flipL]
  | s :: ss, M, hn, t => by
    have hn := List.nodup_cons.mp hn
    rw [flipL, flipL_at _ hn.2]
    by_cases e : t = s
    · subst e; simp [hn.1]
    · simp [e]
/-! ===== the net: shut, points, lines, ways, rules ===== -/
abbrev Ng : Type := (Nat → Bool) × Nat × (Nat → Nat) × Nat × (Nat → Nat) × (Nat → Nat) × (Nat → List Nat) × Nat × Nat
def nSh (N : Ng) : Nat → Bool := N.1
def nNp (N : Ng) : Nat := N.2.1
def nPp (N : Ng) : Nat → Nat := N.2.2.1
def nNl (N : Ng) : Nat := N.2.2.2.1
def nLa (N : Ng) : Nat → Nat := N.2.2.2.2.1
def nLb (N : Ng) : Nat → Nat := N.2.2.2.2.2.1
def nWy (N : Ng) : Nat → List Nat := N.2.2.2.2.2.2.1
def nBs (N : Ng) : Nat := N.2.2.2.2.2.2.2.1
def nSv (N : Ng) : Nat := N.2.2.2.2.2.2.2.2
def nSt (N : Ng) (l : Nat) : Nat := nPp N (nLa N l)
def nGl (N : Ng) (l : Nat) : Nat := nPp N (nLb N l)
def nOn (N : Ng) (l s : Nat) : Bool := decide (s ∈ sdW (nSt N l) (nWy N l))
def nMk (N : Ng) (s : Nat) : Nat := msk (fun l => nOn N l s) 12
def nPr (N : Ng) : Nat → Nat := prc (nBs N) (nSv N)
def ptF (pp : Nat → Nat) : Nat → Nat → Option Nat
  | 0, _ => none
  | n + 1, p => if pp n = p then some n else ptF pp n p
def okWay (sh : Nat → Bool) (a b : Nat) (w : List Nat) : Prop := okW a w ∧ endW a w = b ∧ (plW a w).Nodup ∧ ∀ p ∈ plW a w, p < 100 ∧ sh p = false
def Inv (N : Ng) : Prop := nNp N ≤ 12 ∧ nNl N ≤ 12 ∧ (∀ k, k < nNp N → nPp N k < 100 ∧ nSh N (nPp N k) = false) ∧ (∀ i j, i < nNp N → j < nNp N → nPp N i = nPp N j → i = j) ∧
  (∀ l, l < nNl N → nLa N l < nNp N ∧ nLb N l < nNp N ∧ nLa N l ≠ nLb N l) ∧ (∀ l, nNl N ≤ l → nWy N l = []) ∧ (∀ l, l < nNl N → nWy N l = [] ∨ okWay (nSh N) (nSt N l) (nGl N l) (nWy N l)) ∧ 1 ≤ nBs N ∧ nBs N ≤ 100 ∧ nSv N ≤ 50
def RAn (N : Ng) (h : Mem) : Prop := h 0 7 = nI (nNp N) ∧ h 0 8 = nI (nNl N) ∧ (∀ k, k < nNp N → h 2 k = nI (nPp N k)) ∧ (∀ p, p < 100 → h 8 p = bz (nSh N p = true)) ∧ (∀ p, p < 100 → h 9 p = oI (ptF (nPp N) (nNp N) p) (-1000000)) ∧
  (∀ l, l < nNl N → hasL l (nSt N l) (nGl N l) (nWy N l) h) ∧ (∀ l, l < 12 → nNl N ≤ l → h (40 + l) 0 = nI (2 ^ l) ∧ h (40 + l) 4 = nI 0) ∧ hasM (nMk N) h ∧ hasP (nPr N) h ∧ h 4 4 = nI (nBs N) ∧ h 4 5 = nI (nSv N)
def offN (cs : List Nat) : Prop := ∀ c ∈ cs, c = 5 ∨ c = 6 ∨ c = 7 ∨ c = 11 ∨ (13 ≤ c ∧ c < 40)
theorem offN.no {cs : List Nat} (h : offN cs) {c : Nat} (hc : c ≤ 4 ∨ (8 ≤ c ∧ c ≤ 10) ∨ c = 12 ∨ 40 ≤ c) : c ∉ cs := fun z => by
  have := h c z
  omega
theorem RAn.same {N : Ng} {h h' : Mem} {cs : List Nat} (a : RAn N h) (b : same cs h h') (ho : offN cs) : RAn N h' := by
  obtain ⟨r1, r2, r3, r4, r5, r6, r7, r8, r9, r10, r11⟩ := a
  have e0 := b 0 (ho.no (by omega))
  have e4 := b 4 (ho.no (by omega))
  refine ⟨by rw [e0]; exact r1, by rw [e0]; exact r2, fun k hk => by rw [b 2 (ho.no (by omega))]; exact r3 k hk, fun p hp => by rw [b 8 (ho.no (by omega))]; exact r4 p hp, fun p hp => by rw [b 9 (ho.no (by omega))]; exact r5 p hp, fun l hl => (r6 l hl).same b (ho.no (by omega)) (ho.no (by omega)), fun l hl hn => by rw [b (40 + l) (ho.no (by omega))]; exact r7 l hl hn, r8.same b (ho.no (by omega)), r9.same b (ho.no (by omega)), by rw [e4]; exact r10, by rw [e4]; exact r11⟩
theorem RAn_wr0 {N : Ng} {h : Mem} (a : RAn N h) {j : Nat} (v : Int32) (h7 : j ≠ 7) (h8 : j ≠ 8) : RAn N (wr h 0 j v) := by
  obtain ⟨r1, r2, r3, r4, r5, r6, r7, r8, r9, r10, r11⟩ := a
  have b : same [0] h (wr h 0 j v) := same.rf.wr _ _ (by decide)
  have no : ∀ c, 0 < c → c ∉ [0] := fun c hc => by simp only [List.mem_cons, List.not_mem_nil, or_false]; omega
  refine ⟨by rw [wr_j _ _ (Ne.symm h7)]; exact r1, by rw [wr_j _ _ (Ne.symm h8)]; exact r2, fun k hk => by rw [b 2 (by decide)]; exact r3 k hk, fun p hp => by rw [b 8 (by decide)]; exact r4 p hp, fun p hp => by rw [b 9 (by decide)]; exact r5 p hp, fun l hl => (r6 l hl).same b (no _ (by omega)) (no _ (by omega)), fun l hl hn => by rw [b (40 + l) (no _ (by omega))]; exact r7 l hl hn, r8.same b (by decide), r9.same b (by decide), by rw [b 4 (by decide)]; exact r10, by rw [b 4 (by decide)]; exact r11⟩
theorem plW_len : ∀ (p : Nat) (w : List Nat), (plW p w).length = w.length + 1
  | _, [] => rfl
  | p, d :: w => by rw [plW, List.length_cons, plW_len (stp p d) w, List.length_cons]
theorem nodup_le {xs : List Nat} {n : Nat} (hn : xs.Nodup) (hb : ∀ x ∈ xs, x < n) : xs.length ≤ n := by
  apply fb_holes n xs.length (fun i => xs.getD i 0)
  · intro i hi
    rw [List.getD_eq_getElem?_getD, List.getElem?_eq_getElem hi]
    exact hb _ (List.getElem_mem hi)
  · intro i j hij hj e
    rw [List.getD_eq_getElem?_getD, List.getD_eq_getElem?_getD, List.getElem?_eq_getElem hj, List.getElem?_eq_getElem (by omega : i < xs.length)] at e
    have := (List.nodup_iff_pairwise_ne.mp hn)
    have h2 := List.pairwise_iff_getElem.mp this i j (by omega) hj hij
    exact h2 e
theorem okWay.len {sh : Nat → Bool} {a b : Nat} {w : List Nat} (h : okWay sh a b w) : w.length ≤ 99 := by
  have h1 := nodup_le h.2.2.1 (fun x hx => (h.2.2.2 x hx).1)
  rw [plW_len] at h1
  omega
theorem sA_ends {p q d p' q' d' : Nat} (hp : p < 100) (hp' : p' < 100) (hd : d < 4) (hd' : d' < 4) (hn : nb p d = some q) (hn' : nb p' d' = some q') (e : sA p q d = sA p' q' d') : (p = p' ∧ q = q' ∧ d = d') ∨ (p = q' ∧ q = p' ∧ d' = (d + 2) % 4) := by
  unfold nb at hn hn'
  unfold sA at e
  rcases (show d = 0 ∨ d = 1 ∨ d = 2 ∨ d = 3 by omega) with rfl | rfl | rfl | rfl <;> rcases (show d' = 0 ∨ d' = 1 ∨ d' = 2 ∨ d' = 3 by omega) with rfl | rfl | rfl | rfl <;> simp at hn hn' <;> omega
theorem plW_head (p : Nat) (w : List Nat) : p ∈ plW p w := by cases w <;> simp [plW]
/-- a side of a way joins two of its places -/
theorem sdW_ends : ∀ {w : List Nat} {p s : Nat}, p < 100 → okW p w → s ∈ sdW p w → ∃ a d, a < 100 ∧ d < 4 ∧ nb a d = some (stp a d) ∧ s = sA a (stp a d) d ∧ a ∈ plW p w ∧ stp a d ∈ plW p w
  | [], p, s, _, _, h => by simp [sdW] at h
  | d :: w, p, s, hp, hok, h => by
    obtain ⟨hd, hn, hok⟩ := hok
    have hq := nb_lt hp hn
    rcases List.mem_cons.mp h with h | h
    · exact ⟨p, d, hp, hd, hn, h, List.mem_cons_self, List.mem_cons_of_mem _ (plW_head _ _)⟩
    · obtain ⟨a, d', h1, h2, h3, h4, h5, h6⟩ := sdW_ends hq hok h
      exact ⟨a, d', h1, h2, h3, h4, List.mem_cons_of_mem _ h5, List.mem_cons_of_mem _ h6⟩
theorem sdW_nodup : ∀ {w : List Nat} {p : Nat}, p < 100 → okW p w → (plW p w).Nodup → (sdW p w).Nodup
  | [], _, _, _, _ => by simp [sdW]
  | d :: w, p, hp, hok, hnd => by
    obtain ⟨hd, hn, hok⟩ := hok
    have hq := nb_lt hp hn
    have hnd := List.nodup_cons.mp hnd
    refine List.nodup_cons.mpr ⟨fun h => ?_, sdW_nodup hq hok hnd.2⟩
    obtain ⟨a, d', h1, h2, h3, h4, h5, h6⟩ := sdW_ends hq hok h
    rcases sA_ends hp h1 hd h2 hn h3 h4 with ⟨e, -⟩ | ⟨e, -⟩
    · exact hnd.1 (by rw [← e] at h5; exact h5)
    · exact hnd.1 (by rw [← e] at h6; exact h6)
theorem okWay.sd {sh : Nat → Bool} {a b : Nat} {w : List Nat} (ha : a < 100) (h : okWay sh a b w) : (sdW a w).Nodup := sdW_nodup ha h.1 h.2.2.1
def setW (N : Ng) (l : Nat) (w : List Nat) : Ng := (nSh N, nNp N, nPp N, nNl N, nLa N, nLb N, va_up (nWy N) l w, nBs N, nSv N)
theorem nOn_set (N : Ng) (l : Nat) (w : List Nat) (i s : Nat) : nOn (setW N l w) i s = if i = l then decide (s ∈ sdW (nSt N l) w) else nOn N i s := by
  show decide (s ∈ sdW (nSt N i) (va_up (nWy N) l w i)) = _
  by_cases e : i = l
  · subst e; rw [va_up_s, if_pos rfl]
  · rw [va_up_ne _ _ e, if_neg e]; rfl
theorem nMk_lift {N : Ng} {l : Nat} (hl : l < 12) (hn : (sdW (nSt N l) (nWy N l)).Nodup) : flipL l (sdW (nSt N l) (nWy N l)) (nMk N) = nMk (setW N l []) := by
  funext t
  rw [flipL_at _ hn]
  show _ = msk (fun i => nOn (setW N l []) i t) 12
  by_cases h : t ∈ sdW (nSt N l) (nWy N l)
  · rw [if_pos h, nMk, msk_flip hl]
    apply msk_cong
    intro i _
    rw [nOn_set]
    by_cases e : i = l
    · subst e; rw [if_pos rfl, if_pos rfl]; simp [nOn, h, sdW]
    · rw [if_neg e, if_neg e]
  · rw [if_neg h, nMk]
    apply msk_cong
    intro i _
    rw [nOn_set]
    by_cases e : i = l
    · subst e; rw [if_pos rfl]; simp [nOn, h, sdW]
    · rw [if_neg e]
theorem nMk_put {N : Ng} {l : Nat} {w : List Nat} (hl : l < 12) (hn : (sdW (nSt N l) w).Nodup) : flipL l (sdW (nSt N l) w) (nMk (setW N l [])) = nMk (setW N l w) := by
  funext t
  rw [flipL_at _ hn]
  show _ = msk (fun i => nOn (setW N l w) i t) 12
  have hz : nOn (setW N l []) l t = false := by rw [nOn_set, if_pos rfl]; simp [sdW]
  by_cases h : t ∈ sdW (nSt N l) w
  · rw [if_pos h, nMk, msk_flip hl]
    apply msk_cong
    intro i _
    rw [nOn_set N l w]
    by_cases e : i = l
    · subst e; rw [if_pos rfl, if_pos rfl, hz]; simp [h]
    · rw [if_neg e, if_neg e, nOn_set, if_neg e]
  · rw [if_neg h, nMk]
    apply msk_cong
    intro i _
    rw [nOn_set N l w]
    by_cases e : i = l
    · subst e; rw [if_pos rfl, hz]; simp [h]
    · rw [if_neg e, nOn_set, if_neg e]
