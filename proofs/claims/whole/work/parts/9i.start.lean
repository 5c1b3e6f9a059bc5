theorem P_l {D : va_G} {w1 w2 : va_W} {H : Heap} (h : va_P D vwCl (w1 ++ w2) H) : va_P D vwCl w1 H := fun k q hk => h k q (by rw [List.getElem?_append_left (List.getElem?_eq_some_iff.mp hk).1]; exact hk)
theorem P_r {D : va_G} {w1 w2 : va_W} {H : Heap} (h : va_P D vwCl (w1 ++ w2) H) : va_P D vwCl w2 H := fun k q hk => h (w1.length + k) q (by rw [List.getElem?_append_right (by omega), show w1.length + k - w1.length = k by omega]; exact hk)
theorem D_l {A : Nat → Prop} {w1 w2 : va_W} (h : va_D A (w1 ++ w2)) : va_D A w1 := ⟨fun i j x y hx hy e => h.1 i j x y (by rw [List.getElem?_append_left (List.getElem?_eq_some_iff.mp hx).1]; exact hx) (by rw [List.getElem?_append_left (List.getElem?_eq_some_iff.mp hy).1]; exact hy) e, fun k q hk => h.2 k q (by rw [List.getElem?_append_left (List.getElem?_eq_some_iff.mp hk).1]; exact hk)⟩
theorem D_r {A : Nat → Prop} {w1 w2 : va_W} (h : va_D A (w1 ++ w2)) : va_D A w2 := by
  have key : ∀ (k : Nat) (q : Nat × va_E), w2[k]? = some q → (w1 ++ w2)[w1.length + k]? = some q := fun k q hk => by rw [List.getElem?_append_right (by omega), show w1.length + k - w1.length = k by omega]; exact hk
  refine ⟨fun i j x y hx hy e => ?_, fun k q hk => h.2 _ q (key k q hk)⟩
  have := h.1 _ _ x y (key i x hx) (key j y hy) e
  omega
theorem D_x {A : Nat → Prop} {w1 w2 : va_W} (h : va_D A (w1 ++ w2)) {i j : Nat} {x y : Nat × va_E} (hx : w1[i]? = some x) (hy : w2[j]? = some y) : x.1 ≠ y.1 := fun e => by
  have hl := (List.getElem?_eq_some_iff.mp hx).1
  have := h.1 i (w1.length + j) x y (by rw [List.getElem?_append_left hl]; exact hx) (by rw [List.getElem?_append_right (by omega), show w1.length + j - w1.length = j by omega]; exact hy) e
  omega
theorem LD_of {GA GB : GE} {s : State} {h h' : Mem} (hD : va_D (fun q : Nat => s.heap.size ≤ q) (wsM idsA GA h ++ wsM idsB GB h')) : LD GA GB s (fun q : Nat => s.heap.size ≤ q) := by
  refine ⟨fun k => D_any (D_l hD) k, fun k => D_any (D_r hD) k, fun a ha c hc e => ?_, fun _ => Iff.rfl⟩
  obtain ⟨k1, -, w1⟩ := wsM_at (G := GA) (h := h) ha
  obtain ⟨k2, -, w2⟩ := wsM_at (G := GB) (h := h') hc
  exact D_x hD w1 w2 e
set_option maxHeartbeats 4000000 in
set_option maxRecDepth 20000 in
theorem whole_start {p : Program} {e : Env} {s : State} {m : MethodId} {below : List Frame} {meth : Method} {c : Code} (l : Launch) (hflags : l.flags = flags0) {b L : Nat} {xs : Nat → Int32} (hL : L ≤ 3072) (C0 : lw_At p s m meth c b L xs) : W p l e room_1 s m #[Value.ref b] below meth c s.heap [] 0 0 (lw_Z below #[Value.ref b] s) (entryFrame m ([Value.ref b] : List Value).toArray 4) := by
  obtain ⟨hx, hb, hr, hml, hown, hts, hX, hbl, hlocks, hgv⟩ := C0
  have hU : ∀ w ∈ Ug, w.before #[Value.ref b] s = true := fun w hw => hts w (List.mem_filter.mp hw).1
  obtain ⟨c0, i0, k0⟩ := u_known (C := RX0) (T := TX0) (N := 6) (n := 6) hU iX0 (hU _ (ug_in 59 (by decide +kernel) rfl))
  obtain ⟨c1, i1, k1⟩ := u_known (C := RX1) (T := TX1) (N := 5) (n := 5) hU iX1 (hU _ (ug_in 125 (by decide +kernel) rfl))
  obtain ⟨c2, i2, k2⟩ := u_known (C := RX2) (T := TX2) (N := 6) (n := 6) hU iX2 (hU _ (ug_in 24 (by decide +kernel) rfl))
  obtain ⟨c3, i3, k3⟩ := u_known (C := RX3) (T := TX3) (N := 3) (n := 3) hU iX3 (hU _ (ug_in 107 (by decide +kernel) rfl))
  obtain ⟨c4, i4, k4⟩ := u_known (C := RX4) (T := TX4) (N := 4) (n := 4) hU iX4 (hU _ (ug_in 87 (by decide +kernel) rfl))
  obtain ⟨c5, i5, k5⟩ := u_known (C := RX5) (T := TX5) (N := 11) (n := 11) hU iX5 (hU _ (ug_in 12 (by decide +kernel) rfl))
  obtain ⟨c6, i6, k6⟩ := u_known (C := RX6) (T := TX6) (N := 22) (n := 22) hU iX6 (hU _ (ug_in 598 (by decide +kernel) rfl))
  obtain ⟨dC, dI, hKc⟩ : ∃ (dC : Nat → ClassId) (dI : Nat → Nat → Nat), ∀ (k : Nat) (q : vw_C), vwCl[k]? = some q → u_Kn s q.1 q.2.1 q.2.2 (dC k) (dI k) := by
    refine ⟨fun k => [c0, c1, c2, c3, c4, c5, c6].getD k c0, fun k => [i0, i1, i2, i3, i4, i5, i6].getD k i0, ?_⟩
    intro k q hq
    match k, hq with
    | 0, hq => cases hq; exact k0
    | 1, hq => cases hq; exact k1
    | 2, hq => cases hq; exact k2
    | 3, hq => cases hq; exact k3
    | 4, hq => cases hq; exact k4
    | 5, hq => cases hq; exact k5
    | 6, hq => cases hq; exact k6
    | k + 7, hq => simp [vwCl] at hq
  obtain ⟨cls, hcls⟩ : ∃ cls : Nat → ClassId, ∀ k, k < 4 → ∀ cA, va_RA s cA (tyK k) → cA = cls k := by
    refine ⟨fun k => (s.vm.findClass ("[" ++ (tyK k).toString)).getD c0, fun k hk cA h => ?_⟩
    rcases (show k = 0 ∨ k = 1 ∨ k = 2 ∨ k = 3 by omega) with rfl | rfl | rfl | rfl
    · have h : s.vm.findClass ("[" ++ FieldType.int.toString) = some cA := h
      show cA = (s.vm.findClass ("[" ++ FieldType.int.toString)).getD c0
      rw [h]; rfl
    · have h : s.vm.findClass ("[" ++ FieldType.boolean.toString) = some cA := h
      show cA = (s.vm.findClass ("[" ++ FieldType.boolean.toString)).getD c0
      rw [h]; rfl
    · obtain ⟨kA, comp, h1, h2, h3, h4⟩ := h
      show cA = (s.vm.findClass ("[" ++ (FieldType.object "LineBundles$Line").toString)).getD c0
      rw [h4]; rfl
    · obtain ⟨kA, comp, h1, h2, h3, h4⟩ := h
      show cA = (s.vm.findClass ("[" ++ (FieldType.object "LineBundles$Sheet").toString)).getD c0
      rw [h4]; rfl
  have hNL : NL s := fun w hw => by
    have h1 := List.mem_filter.mp hw
    have h2 := hts w (List.mem_append_right _ h1.1)
    have h3 := h1.2
    cases w <;> first | exact va_Nw.of rfl h2 | exact absurd h3 (by simp [isNest])
  have hN : HN (l, (dC, dI), cls, fun _ => 0) [] s := ⟨⟨hKc, fun k q h => by simp [tysK] at h⟩, hNL, va_AO.of (hts _ (List.mem_append_right _ (List.mem_of_getElem? (i := 20) (by decide +kernel)))), va_AO.of (hts _ (List.mem_append_right _ (List.mem_of_getElem? (i := 22) (by decide +kernel)))), hcls⟩
  have hA0 : ∀ q : Nat, s.heap.size ≤ q → (fun q : Nat => s.heap.size ≤ q) q := fun _ h => h
  have hS : va_S (fun q : Nat => s.heap.size ≤ q) s.heap s.heap [] := va_S.rf
  have hP : va_P (dC, dI) vwCl [] s.heap := fun k q h => by simp at h
  have hD : va_D (fun q : Nat => s.heap.size ≤ q) [] := ⟨fun i j p q h => by simp at h, fun k q h => by simp at h⟩
  have hC : CallFix p m c cL_law 4 s #[Value.ref b] Ug RL := ⟨hx, hb, hml, hown, hU⟩
  have hl := lv_entry ([.ref b]) (n := 4) (Nat.le_of_ble_eq_true rfl)
  rw [lg_entry_eq]
  generalize (lg_sl ([.ref b]) ++ List.replicate (4 - (lg_sl ([.ref b])).length) Slot.unset).toArray = ls at hl ⊢
  have hl : lvO ls 4 [some (.ref b), none, none, none] := ⟨hl.1, hl.2.1, fun i v hiv => hl.2.2 (i, v) (lvE_ok (av := [.ref b]) 3 rfl i v hiv)⟩
  refine va_new (ci := 5) (fs := [.null, .null, .null, .null, .null, .null, .null, .int 0, .int 0, .int 0, .int 0]) (C := RX5) (T := TX5) (N := 11) hx hb hU iX5 tyX5 tyX5_ok hown (hU _ (ug_in 11 (by decide +kernel) rfl)) (hU _ (ug_in 12 (by decide +kernel) rfl)) (hU _ in_X5) hN.1 hP hD hS hA0 rfl (fun j hj => by rcases (show j = 0 ∨ j = 1 ∨ j = 2 ∨ j = 3 ∨ j = 4 ∨ j = 5 ∨ j = 6 ∨ j = 7 ∨ j = 8 ∨ j = 9 ∨ j = 10 by omega) with rfl | rfl | rfl | rfl | rfl | rfl | rfl | rfl | rfl | rfl | rfl <;> rfl) (Nat.le_of_ble_eq_true rfl) (Nat.le_of_ble_eq_true rfl) dL_law_0 (fun q1 H1 hP1 hD1 hS1 => ?_)
  refine lv_dup hx hb dL_law_3 rfl ?_
  refine W_callN (G := (l, (dC, dI), cls, fun _ => 0)) (ws := []) (x := (q1, .inr (5, [.null, .null, .null, .null, .null, .null, .null, .int 0, .int 0, .int 0, .int 0]))) (va_runI (As := []) (rest := [.ref q1]) hC (n_X5 (l, (dC, dI), cls, fun _ => 0) q1 H1.size) ⟨callB_of 0 hU (good_code coX5_init) rfl rfl rfl (hU _ in_X5) (hU _ ml_L_9) ⟨by decide +kernel, by decide +kernel, by decide +kernel⟩ ⟨(Nat.le_of_ble_eq_true rfl), (Nat.le_of_ble_eq_true rfl)⟩, rfl, hU _ imX5_init⟩ ⟨Pn_blind, fun U hU' hW => ⟨rfl, by rw [hU'], by rw [hU']; exact hP1, HN.warm hW hN, hD1.weaken (fun _ _ _ _ => trivial)⟩⟩ rfl rfl hl.1 rfl (Nat.le_of_ble_eq_true rfl) dL_law_4 ⟨(Nat.le_of_ble_eq_true rfl), (Nat.le_of_ble_eq_true rfl)⟩) hP1 hD1 hS1 hA0 (fun w1 H2 locs2 hq hP2 hD2 hS2 hK2 => ?_)
  obtain ⟨adA, hA, ea, ra, rfl⟩ := hq
  refine lv_astore_n hx hb dL_law_7 rfl hl.has (by decide) rfl (fun ls1 hl1' => ?_)
  have hl1 : lvO ls1 4 [some (.ref b), some (.ref q1), none, none] := lvO.storedP (lv := [some (.ref b), none, none, none]) 0 (some (.ref b)) rfl rfl rfl hl1'
  refine va_new (ci := 6) (fs := [.int 0, .int 0, .null, .null, .null, .null, .int 0, .null, .int 0, .null, .null, .null, .null, .null, .null, .null, .null, .null, .null, .null, .null, .int 0]) (C := RX6) (T := TX6) (N := 22) hx hb hU iX6 tyX6 tyX6_ok hown (hU _ (ug_in 597 (by decide +kernel) rfl)) (hU _ (ug_in 598 (by decide +kernel) rfl)) (hU _ in_X6) hN.1 hP2 hD2 hS2 hA0 rfl (fun j hj => by rcases (show j = 0 ∨ j = 1 ∨ j = 2 ∨ j = 3 ∨ j = 4 ∨ j = 5 ∨ j = 6 ∨ j = 7 ∨ j = 8 ∨ j = 9 ∨ j = 10 ∨ j = 11 ∨ j = 12 ∨ j = 13 ∨ j = 14 ∨ j = 15 ∨ j = 16 ∨ j = 17 ∨ j = 18 ∨ j = 19 ∨ j = 20 ∨ j = 21 by omega) with rfl | rfl | rfl | rfl | rfl | rfl | rfl | rfl | rfl | rfl | rfl | rfl | rfl | rfl | rfl | rfl | rfl | rfl | rfl | rfl | rfl | rfl <;> rfl) (Nat.le_of_ble_eq_true rfl) (Nat.le_of_ble_eq_true rfl) dL_law_8 (fun q2 H3 hP3 hD3 hS3 => ?_)
  refine lv_dup hx hb dL_law_11 rfl ?_
  have hPm : va_P (dC, dI) vwCl [(q2, .inr (6, [.int 0, .int 0, .null, .null, .null, .null, .int 0, .null, .int 0, .null, .null, .null, .null, .null, .null, .null, .null, .null, .null, .null, .null, .int 0]))] H3 := P_r hP3
  have hDm : va_D (fun q : Nat => s.heap.size ≤ q) [(q2, .inr (6, [.int 0, .int 0, .null, .null, .null, .null, .int 0, .null, .int 0, .null, .null, .null, .null, .null, .null, .null, .null, .null, .null, .null, .null, .int 0]))] := D_r hD3
  refine W_callN (G := (l, (dC, dI), cls, fun _ => 0)) (ws := wsM idsA (l, (dC, dI), cls, adA) hA) (x := (q2, .inr (6, [.int 0, .int 0, .null, .null, .null, .null, .int 0, .null, .int 0, .null, .null, .null, .null, .null, .null, .null, .null, .null, .null, .null, .null, .int 0]))) (va_runI (As := []) (rest := [.ref q2]) hC (n_X6b (l, (dC, dI), cls, fun _ => 0) q2 H3.size) ⟨callB_of 0 hU (good_code coX6_init) rfl rfl rfl (hU _ in_X6) (hU _ ml_L_12) ⟨by decide +kernel, by decide +kernel, by decide +kernel⟩ ⟨(Nat.le_of_ble_eq_true rfl), (Nat.le_of_ble_eq_true rfl)⟩, rfl, hU _ imX6_init⟩ ⟨Pn_blind, fun U hU' hW => ⟨rfl, by rw [hU'], by rw [hU']; exact hPm, HN.warm hW hN, hDm.weaken (fun _ _ _ _ => trivial)⟩⟩ rfl rfl hl1.1 rfl (Nat.le_of_ble_eq_true rfl) dL_law_12 ⟨(Nat.le_of_ble_eq_true rfl), (Nat.le_of_ble_eq_true rfl)⟩) hP3 hD3 hS3 hA0 (fun w1 H4 locs4 hq hP4 hD4 hS4 hK4 => ?_)
  obtain ⟨adB, hB, eb, rb, rfl⟩ := hq
  refine lv_astore_n hx hb dL_law_15 rfl hl1.has (by decide) rfl (fun ls2 hl2' => ?_)
  have hl2 : lvO ls2 4 [some (.ref b), some (.ref q1), some (.ref q2), none] := lvO.storedP (lv := [some (.ref b), some (.ref q1), none, none]) 1 (some (.ref q1)) rfl rfl rfl hl2'
  refine lv_iconst (v := nI 0) hx hb dL_law_16 (by decide) ?_
  refine lv_istore_n hx hb dL_law_17 rfl hl2.has (by decide) rfl (fun ls3 hl3' => ?_)
  have hl3 : lvO ls3 4 [some (.ref b), some (.ref q1), some (.ref q2), some (.int (nI 0))] := lvO.storedP (lv := [some (.ref b), some (.ref q1), some (.ref q2), none]) 2 (some (.ref q2)) rfl rfl rfl hl3'
  refine W.widen (k := 77) (n := 7524) (Nat.le_of_ble_eq_true rfl) (Nat.le_of_ble_eq_true rfl) ?_
  have hlv : lvO ls3 4 [some (.ref b), some (.ref (ad (l, (dC, dI), cls, adA) 0)), some (.ref (ad (l, (dC, dI), cls, adB) 100)), some (.int (nI 0))] := by
    rw [show ad (l, (dC, dI), cls, adA) 0 = q1 from ea, show ad (l, (dC, dI), cls, adB) 100 = q2 from eb]
    exact hl3
  exact law_loop (l, (dC, dI), cls, adA) (l, (dC, dI), cls, adB) rfl b L xs hL 0 S0 hA hB (Nat.zero_le _) ok0 ra rb p e s m #[Value.ref b] below meth c H4 locs4 ls3 (fun q : Nat => s.heap.size ≤ q) hC ⟨rfl, hr, hlocks, hX, hbl⟩ ⟨⟨hK2, hNL⟩, ⟨hK2, hNL⟩⟩ ⟨P_l hP4, P_r hP4⟩ (LD_of hD4) hS4 hlv
