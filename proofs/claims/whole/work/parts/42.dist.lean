/-! ===== distances to a place ===== -/
def clr (l x : Nat) : Nat := x &&& (4095 ^^^ 2 ^ l)
def wgt (M pr : Nat → Nat) (l s : Nat) : Nat := pr (popc (clr l (M s))) * 128 + 1
theorem tb_pow {l i : Nat} : (2 ^ l).testBit i = decide (i = l) := by rw [Nat.testBit_two_pow]; exact decide_eq_decide.mpr eq_comm
theorem tb_4095 {i : Nat} : (4095 : Nat).testBit i = decide (i < 12) := Nat.testBit_two_pow_sub_one 12 i
theorem clr_bit {l x i : Nat} (hi : i < 12) : (clr l x).testBit i = (x.testBit i && !decide (i = l)) := by
  rw [clr, Nat.testBit_and, Nat.testBit_xor, tb_4095, tb_pow]
  simp [hi]
theorem clr_lt {l x : Nat} (hx : x < 4096) : clr l x < 4096 := and_lt12 hx
theorem clr_eq {l x : Nat} (hl : l < 12) (hx : x < 4096) : nI x &&& (nI (2 ^ l) ^^^ (-1)) = nI (clr l x) := by
  rw [show (-1 : Int32) = nI 4294967295 by decide, fb_xorI, fa_and]
  congr 1
  apply Nat.eq_of_testBit_eq
  intro i
  rw [clr, Nat.testBit_and, Nat.testBit_and, Nat.testBit_xor, Nat.testBit_xor, tb_4095, tb_pow, show (4294967295 : Nat) = 2 ^ 32 - 1 by decide, Nat.testBit_two_pow_sub_one]
  by_cases h : i < 12
  · simp [h, show i < 32 by omega]
  · rw [Nat.testBit_lt_two_pow (Nat.lt_of_lt_of_le hx (Nat.pow_le_pow_right (show 0 < 2 by decide) (show 12 ≤ i by omega)))]
    simp
theorem popc_clr {l x : Nat} (hl : l < 12) : popc (clr l x) < 12 := by
  rcases Nat.lt_or_ge (popc (clr l x)) 12 with h | h
  · exact h
  · have h1 : popc (clr l x) = 12 := Nat.le_antisymm (popc_le _) h
    have h2 := (fb_ct_all (p := fun i => (clr l x).testBit i)).mp h1 l hl
    have h3 := clr_bit (l := l) (x := x) hl
    simp [h2] at h3
theorem nb_sym {p d q : Nat} (hp : p < 100) (hd : d < 4) (h : nb p d = some q) : nb q ((d + 2) % 4) = some p ∧ sA q p ((d + 2) % 4) = sA p q d := by
  have key : ∀ p, p < 100 → ∀ d, d < 4 → ∀ q, q < 100 → nb p d = some q → nb q ((d + 2) % 4) = some p ∧ sA q p ((d + 2) % 4) = sA p q d := by
    intro p hp d hd q hq h
    rcases (show d = 0 ∨ d = 1 ∨ d = 2 ∨ d = 3 by omega) with rfl | rfl | rfl | rfl
    · simp only [nb, if_true] at h
      split at h
      · cases h
        refine ⟨by simp [nb]; omega, by unfold sA; omega⟩
      · cases h
    · simp only [nb] at h
      simp at h
      obtain ⟨h1, rfl⟩ := h
      refine ⟨by simp [nb]; omega, by unfold sA; omega⟩
    · simp only [nb] at h
      simp at h
      obtain ⟨h1, rfl⟩ := h
      refine ⟨by simp [nb], by unfold sA; omega⟩
    · simp only [nb] at h
      simp at h
      obtain ⟨h1, rfl⟩ := h
      refine ⟨by simp [nb]; omega, by unfold sA; omega⟩
  exact key p hp d hd q (nb_lt hp h) h
def Bell (sh : Nat → Bool) (wt : Nat → Nat) (g : Nat) (D : Nat → Option Nat) : Prop :=
  D g = some 0 ∧ (∀ p q d x, p < 100 → d < 4 → nb p d = some q → sh p = false → D q = some x → ∃ y, D p = some y ∧ y ≤ x + wt (sA p q d)) ∧
  ∀ p y, p < 100 → p ≠ g → D p = some y → sh p = false ∧ ∃ d q x, d < 4 ∧ nb p d = some q ∧ D q = some x ∧ y = x + wt (sA p q d)
def wtOK (wt : Nat → Nat) : Prop := ∀ s, 129 ≤ wt s ∧ wt s ≤ 12801
def rnk (D : Nat → Option Nat) (y : Nat) : Nat := fb_ct (fun q => match D q with
  | some x => decide (x < y)
  | none => false) 100
theorem rnk_lt {D : Nat → Option Nat} {q x y : Nat} (hq : q < 100) (h : D q = some x) (hxy : x < y) : rnk D x < rnk D y := by
  have h1 := fb_ct_upd (fun q => match D q with
    | some x' => decide (x' < x)
    | none => false) true hq
  rw [h] at h1
  simp only [Nat.lt_irrefl, decide_false] at h1
  have h2 : fb_ct (fun k => if k = q then true else (match D k with
    | some x' => decide (x' < x)
    | none => false)) 100 ≤ rnk D y := by
    apply fb_ct_sub
    intro k hk hp
    by_cases e : k = q
    · subst e; simp [h, hxy]
    · simp only [if_neg e] at hp
      cases hd : D k with
      | none => rw [hd] at hp; cases hp
      | some z =>
        rw [hd] at hp
        simp only [decide_eq_true_eq] at hp ⊢
        omega
  have h3 : rnk D x = fb_ct (fun q => match D q with
    | some x' => decide (x' < x)
    | none => false) 100 := rfl
  simp only [Bool.false_eq_true, if_false, if_true, Nat.add_zero] at h1
  omega
theorem rnk_le {D : Nat → Option Nat} {p y : Nat} (hp : p < 100) (h : D p = some y) : rnk D y ≤ 99 := by
  have h1 := fb_ct_le (fun q => match D q with
    | some x => decide (x < y)
    | none => false) 100
  rcases Nat.lt_or_ge (rnk D y) 100 with z | z
  · omega
  · have h2 : rnk D y = 100 := Nat.le_antisymm h1 z
    have h3 := (fb_ct_all (p := fun q => match D q with
      | some x => decide (x < y)
      | none => false)).mp h2 p hp
    simp [h] at h3
theorem Bell.bound {sh : Nat → Bool} {wt : Nat → Nat} {g : Nat} {D : Nat → Option Nat} (hB : Bell sh wt g D) (hw : wtOK wt) : ∀ y p, p < 100 → D p = some y → y ≤ rnk D y * 12801 := by
  intro y
  induction y using Nat.strongRecOn with
  | _ y ih =>
    intro p hp h
    by_cases e : p = g
    · subst e
      rw [hB.1] at h
      cases h
      omega
    · obtain ⟨-, d, q, x, hd, hn, hx, rfl⟩ := hB.2.2 p y hp e h
      have hq := nb_lt hp hn
      have h1 := hw (sA p q d)
      have h2 := ih x (by omega) q hq hx
      have h3 := rnk_lt hq hx (show x < x + wt (sA p q d) by omega)
      have h4 : (rnk D x + 1) * 12801 ≤ rnk D (x + wt (sA p q d)) * 12801 := Nat.mul_le_mul_right _ h3
      rw [Nat.add_mul] at h4
      omega
theorem Bell.max {sh : Nat → Bool} {wt : Nat → Nat} {g : Nat} {D : Nat → Option Nat} (hB : Bell sh wt g D) (hw : wtOK wt) {p y : Nat} (hp : p < 100) (h : D p = some y) : y ≤ 1267299 := by
  have h1 := hB.bound hw y p hp h
  have h2 := rnk_le hp h
  have h3 : rnk D y * 12801 ≤ 99 * 12801 := Nat.mul_le_mul_right _ h2
  omega
/-- the way from p: at each place the least direction that loses nothing -/
def okd (wt : Nat → Nat) (D : Nat → Option Nat) (p d : Nat) : Prop := ∃ q x, nb p d = some q ∧ D q = some x ∧ D p = some (x + wt (sA p q d))
def isP (wt : Nat → Nat) (D : Nat → Option Nat) (g : Nat) : Nat → List Nat → Prop
  | p, [] => p = g
  | p, d :: w => p ≠ g ∧ d < 4 ∧ okd wt D p d ∧ (∀ d', d' < d → ¬ okd wt D p d') ∧ isP wt D g (stp p d) w
theorem isP_uniq {wt : Nat → Nat} {D : Nat → Option Nat} {g : Nat} : ∀ {w w' : List Nat} {p : Nat}, isP wt D g p w → isP wt D g p w' → w = w'
  | [], [], _, _, _ => rfl
  | [], _ :: _, _, h, h' => absurd h h'.1
  | _ :: _, [], _, h, h' => absurd h' h.1
  | d :: w, d' :: w', p, h, h' => by
    have e : d = d' := by
      rcases Nat.lt_trichotomy d d' with z | z | z
      · exact absurd h.2.2.1 (h'.2.2.2.1 d z)
      · exact z
      · exact absurd h'.2.2.1 (h.2.2.2.1 d' z)
    subst e
    rw [isP_uniq h.2.2.2.2 h'.2.2.2.2]
def cW (wt : Nat → Nat) : Nat → List Nat → Nat
  | _, [] => 0
  | p, d :: w => wt (sA p (stp p d) d) + cW wt (stp p d) w
def opW (sh : Nat → Bool) : Nat → List Nat → Prop
  | _, [] => True
  | p, d :: w => sh p = false ∧ opW sh (stp p d) w
theorem stp_eq {p d q : Nat} (h : nb p d = some q) : stp p d = q := by rw [stp, h]; rfl
theorem isP_ex {sh : Nat → Bool} {wt : Nat → Nat} {g : Nat} {D : Nat → Option Nat} (hB : Bell sh wt g D) (hw : wtOK wt) : ∀ y p, p < 100 → D p = some y → ∃ w, isP wt D g p w ∧ w.length ≤ rnk D y := by
  intro y
  induction y using Nat.strongRecOn with
  | _ y ih =>
    intro p hp h
    by_cases e : p = g
    · exact ⟨[], e, Nat.zero_le _⟩
    · obtain ⟨-, d0, q0, x0, hd0, hn0, hx0, hy0⟩ := hB.2.2 p y hp e h
      have hex : ∃ d, okd wt D p d := ⟨d0, q0, x0, hn0, hx0, by rw [h, hy0]⟩
      obtain ⟨d, hok, hl⟩ := pk_least (fun d => okd wt D p d) hex
      have hd : d < 4 := by
        rcases Nat.lt_or_ge d 4 with z | z
        · exact z
        · exact absurd ⟨q0, x0, hn0, hx0, by rw [h, hy0]⟩ (hl d0 (by omega))
      obtain ⟨q, x, hn, hx, hy⟩ := id hok
      rw [h] at hy
      have hy := Option.some.inj hy
      have h1 := hw (sA p q d)
      have hq := nb_lt hp hn
      obtain ⟨w, hw1, hw2⟩ := ih x (by omega) q hq hx
      have h3 := rnk_lt hq hx (show x < y by omega)
      refine ⟨d :: w, ⟨e, hd, hok, hl, ?_⟩, ?_⟩
      · rw [stp_eq hn]; exact hw1
      · rw [List.length_cons]; omega
theorem isP_ok {sh : Nat → Bool} {wt : Nat → Nat} {g : Nat} {D : Nat → Option Nat} (hB : Bell sh wt g D) : ∀ {w : List Nat} {p y : Nat}, p < 100 → D p = some y → isP wt D g p w → okW p w ∧ endW p w = g ∧ opW sh p w ∧ cW wt p w = y
  | [], p, y, hp, h, hi => by
    have e : p = g := hi
    subst e
    rw [hB.1] at h
    cases h
    exact ⟨trivial, rfl, trivial, rfl⟩
  | d :: w, p, y, hp, h, hi => by
    obtain ⟨e, hd, ⟨q, x, hn, hx, hy⟩, -, hr⟩ := hi
    rw [h] at hy
    have hy := Option.some.inj hy
    rw [stp_eq hn] at hr
    obtain ⟨a1, a2, a3, a4⟩ := isP_ok hB (nb_lt hp hn) hx hr
    have ho := (hB.2.2 p y hp e h).1
    refine ⟨⟨hd, by rw [stp_eq hn]; exact hn, by rw [stp_eq hn]; exact a1⟩, ?_, ⟨ho, by rw [stp_eq hn]; exact a3⟩, ?_⟩
    · show endW (stp p d) w = g
      rw [stp_eq hn]; exact a2
    · show wt (sA p (stp p d) d) + cW wt (stp p d) w = y
      rw [stp_eq hn, a4]; omega
theorem isP_pl {sh : Nat → Bool} {wt : Nat → Nat} {g : Nat} {D : Nat → Option Nat} (hB : Bell sh wt g D) (hw : wtOK wt) : ∀ {w : List Nat} {p y : Nat}, p < 100 → D p = some y → isP wt D g p w → (∀ t ∈ plW p w, t < 100 ∧ ∃ z, D t = some z ∧ z ≤ y) ∧ (plW p w).Nodup
  | [], p, y, hp, h, hi => by
    refine ⟨fun t ht => ?_, by simp [plW]⟩
    simp [plW] at ht
    subst ht
    exact ⟨hp, y, h, Nat.le_refl _⟩
  | d :: w, p, y, hp, h, hi => by
    obtain ⟨e, hd, ⟨q, x, hn, hx, hy⟩, -, hr⟩ := hi
    rw [h] at hy
    have hy := Option.some.inj hy
    have h1 := hw (sA p q d)
    rw [stp_eq hn] at hr
    obtain ⟨a1, a2⟩ := isP_pl hB hw (nb_lt hp hn) hx hr
    have e2 : plW p (d :: w) = p :: plW q w := by rw [plW, stp_eq hn]
    rw [e2]
    refine ⟨fun t ht => ?_, List.nodup_cons.mpr ⟨fun ht => ?_, a2⟩⟩
    · rcases List.mem_cons.mp ht with rfl | ht
      · exact ⟨hp, y, h, Nat.le_refl _⟩
      · obtain ⟨b1, z, b2, b3⟩ := a1 t ht
        exact ⟨b1, z, b2, by omega⟩
    · obtain ⟨b1, z, b2, b3⟩ := a1 p ht
      rw [h] at b2
      cases b2
      omega
/-! there is such a table -/
def RW (sh : Nat → Bool) (wt : Nat → Nat) (g p n : Nat) : Prop := ∃ w, okW p w ∧ opW sh p w ∧ endW p w = g ∧ cW wt p w = n
theorem Bell_ex (sh : Nat → Bool) (wt : Nat → Nat) (g : Nat) : ∃ D, Bell sh wt g D := by
  have hf : ∀ p, ∃ o : Option Nat, (∀ y, o = some y → RW sh wt g p y ∧ ∀ m, m < y → ¬ RW sh wt g p m) ∧ (o = none → ∀ m, ¬ RW sh wt g p m) := by
    intro p
    by_cases h : ∃ n, RW sh wt g p n
    · obtain ⟨y, h1, h2⟩ := pk_least (fun n => RW sh wt g p n) h
      exact ⟨some y, fun y' e => by cases e; exact ⟨h1, h2⟩, fun e => by cases e⟩
    · exact ⟨none, fun y' e => (by cases e), fun _ m hm => h ⟨m, hm⟩⟩
  refine ⟨fun p => Classical.choose (hf p), ?_, ?_, ?_⟩
  · have hs := Classical.choose_spec (hf g)
    have hr : RW sh wt g g 0 := ⟨[], trivial, trivial, rfl, rfl⟩
    show Classical.choose (hf g) = some 0
    cases e : Classical.choose (hf g) with
    | none => exact absurd hr (hs.2 e 0)
    | some y =>
      have h2 := (hs.1 y e).2
      rcases Nat.eq_zero_or_pos y with z | z
      · rw [z]
      · exact absurd hr (h2 0 z)
  · intro p q d x hp hd hn ho hx
    have hsq := (Classical.choose_spec (hf q)).1 x hx
    obtain ⟨w, w1, w2, w3, w4⟩ := hsq.1
    have hr : RW sh wt g p (x + wt (sA p q d)) := ⟨d :: w, ⟨hd, by rw [stp_eq hn]; exact hn, by rw [stp_eq hn]; exact w1⟩, ⟨ho, by rw [stp_eq hn]; exact w2⟩, by show endW (stp p d) w = g; rw [stp_eq hn]; exact w3, by show wt (sA p (stp p d) d) + cW wt (stp p d) w = _; rw [stp_eq hn, w4]; omega⟩
    have hs := Classical.choose_spec (hf p)
    show ∃ y, Classical.choose (hf p) = some y ∧ _
    cases e : Classical.choose (hf p) with
    | none => exact absurd hr (hs.2 e _)
    | some y =>
      refine ⟨y, rfl, ?_⟩
      rcases Nat.lt_or_ge (x + wt (sA p q d)) y with z | z
      · exact absurd hr ((hs.1 y e).2 _ z)
      · exact z
  · intro p y hp hpg h
    have hs := (Classical.choose_spec (hf p)).1 y h
    obtain ⟨⟨w, w1, w2, w3, w4⟩, hl⟩ := hs
    match w, w1, w2, w3, w4 with
    | [], w1, w2, w3, w4 => exact absurd w3 hpg
    | d :: w, w1, w2, w3, w4 =>
      refine ⟨w2.1, d, stp p d, cW wt (stp p d) w, w1.1, w1.2.1, ?_, ?_⟩
      · have hr : RW sh wt g (stp p d) (cW wt (stp p d) w) := ⟨w, w1.2.2, w2.2, w3, rfl⟩
        have hq := Classical.choose_spec (hf (stp p d))
        show Classical.choose (hf (stp p d)) = _
        cases e : Classical.choose (hf (stp p d)) with
        | none => exact absurd hr (hq.2 e _)
        | some x =>
          have hx := hq.1 x e
          rcases Nat.lt_trichotomy x (cW wt (stp p d) w) with z | z | z
          · obtain ⟨v, v1, v2, v3, v4⟩ := hx.1
            have w4' : wt (sA p (stp p d) d) + cW wt (stp p d) w = y := w4
            refine absurd ⟨d :: v, ⟨w1.1, w1.2.1, v1⟩, ⟨w2.1, v2⟩, v3, rfl⟩ (hl (wt (sA p (stp p d) d) + cW wt (stp p d) v) (by omega))
          · rw [z]
          · exact absurd hr (hx.2 _ z)
      · have w4' : wt (sA p (stp p d) d) + cW wt (stp p d) w = y := w4
        omega
