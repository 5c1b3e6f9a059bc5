/-! ===== the law: two memories beside one another ===== -/
def LD (GA GB : GE) (s : State) (A : Nat → Prop) : Prop := (∀ h, va_D A (wsM idsA GA h)) ∧ (∀ h, va_D A (wsM idsB GB h)) ∧ (∀ a ∈ idsA, ∀ c ∈ idsB, ad GA a ≠ ad GB c) ∧ ∀ q : Nat, A q ↔ s.heap.size ≤ q
def LV (GA GB : GE) (b L : Nat) (xs : Nat → Int32) (own : String) (cc : ByteArray) (nL : Nat) (pc : Nat) (lv : List OV) (st : List Value) (hA hB : Mem) : Prop :=
  ∀ (p : Program) (e : Env) (s : State) (m : MethodId) (args : Array Value) (below : List Frame) (meth : Method) (c : Code) (H : Heap) (locs : List Loc) (ls : Array Slot) (A : Nat → Prop),
    CallFix p m c cc nL s args Ug own → (args = #[Value.ref b] ∧ meth.sig.returnType = ret ∧ meth.locks = false ∧ va_X b L xs s s.heap ∧ b < s.heap.size) → (HK GA s ∧ HK GB s) → (va_P GA.2.1 vwCl (wsM idsA GA hA) H ∧ va_P GB.2.1 vwCl (wsM idsB GB hB) H) → LD GA GB s A → va_S A s.heap H locs → lvO ls nL lv →
    W p GA.1 e room_1 s m args below meth c H locs 77 7524 (lw_Z below args s) (F0 m pc ls st)
theorem D_any {ids : List Nat} {G : GE} {h : Mem} {A : Nat → Prop} (hD : va_D A (wsM ids G h)) (h' : Mem) : va_D A (wsM ids G h') := by
  have key : ∀ (k : Nat) (q : Nat × va_E), (wsM ids G h')[k]? = some q → ∃ q2, (wsM ids G h)[k]? = some q2 ∧ q2.1 = q.1 := fun k q hk => by
    rw [wsM, List.getElem?_map] at hk
    cases e : ids[k]? with
    | none => rw [e] at hk; cases hk
    | some c =>
      rw [e] at hk
      cases hk
      exact ⟨(ad G c, cellR G c (h c)), by rw [wsM, List.getElem?_map, e]; rfl, rfl⟩
  refine ⟨fun i j x y hx hy hxy => ?_, fun k q hk => ?_⟩
  · obtain ⟨x2, a1, a2⟩ := key i x hx
    obtain ⟨y2, b1, b2⟩ := key j y hy
    exact hD.1 i j x2 y2 a1 b1 (by rw [a2, b2, hxy])
  · obtain ⟨q2, a1, a2⟩ := key k q hk
    rw [← a2]
    exact hD.2 k q2 a1
def inI (ids : List Nat) (G : GE) (q : Nat) : Prop := ∃ c ∈ ids, q = ad G c
theorem D_in {ids : List Nat} {G : GE} {h : Mem} {A : Nat → Prop} (hD : va_D A (wsM ids G h)) : va_D (inI ids G) (wsM ids G h) := by
  refine ⟨hD.1, fun k q hk => ?_⟩
  rw [wsM, List.getElem?_map] at hk
  cases e : ids[k]? with
  | none => rw [e] at hk; cases hk
  | some c =>
    rw [e] at hk
    cases hk
    exact ⟨c, List.mem_of_getElem? e, rfl⟩
theorem in_A {ids : List Nat} {G : GE} {h : Mem} {A : Nat → Prop} (hD : va_D A (wsM ids G h)) {q : Nat} (hq : inI ids G q) : A q := by
  obtain ⟨c, hc, rfl⟩ := hq
  obtain ⟨k, hk, hw⟩ := wsM_at (G := G) (h := h) hc
  exact hD.2 k _ hw
theorem P_kept {ids : List Nat} {G : GE} {h : Mem} {H H1 : Heap} (hP : va_P G.2.1 vwCl (wsM ids G h) H) (hk : ∀ c ∈ ids, ad G c < H.size → H1[ad G c]? = H[ad G c]?) : va_P G.2.1 vwCl (wsM ids G h) H1 := by
  intro k q hq
  have h1 := hP k q hq
  have hl := h1.lt
  rw [wsM, List.getElem?_map] at hq
  cases e : ids[k]? with
  | none => rw [e] at hq; cases hq
  | some c =>
    rw [e] at hq
    cases hq
    exact h1.kept (hk c (List.mem_of_getElem? e) hl)
section LB
variable {GA GB : GE} {b L : Nat} {xs : Nat → Int32} {own : String} {cc : ByteArray} {nL : Nat} {pc : Nat} {lv : List OV} {st : List Value} {hA hB : Mem}
theorem L_iadd {x y : Int32} (hd : decode cc pc = .ok (.iadd, 1)) (k : LV GA GB b L xs own cc nL (pc + 1) lv (.int (x + y) :: st) hA hB) : LV GA GB b L xs own cc nL pc lv (.int y :: .int x :: st) hA hB :=
  fun p e s m args below meth c H locs ls A hC hr hK hP hD hS hl => lv_iadd hC.1 hC.2.1 hd  (k p e s m args below meth c H locs ls A hC hr hK hP hD hS hl)
theorem L_isub {x y : Int32} (hd : decode cc pc = .ok (.isub, 1)) (k : LV GA GB b L xs own cc nL (pc + 1) lv (.int (x - y) :: st) hA hB) : LV GA GB b L xs own cc nL pc lv (.int y :: .int x :: st) hA hB :=
  fun p e s m args below meth c H locs ls A hC hr hK hP hD hS hl => lv_isub hC.1 hC.2.1 hd  (k p e s m args below meth c H locs ls A hC hr hK hP hD hS hl)
theorem L_iand {x y : Int32} (hd : decode cc pc = .ok (.iand, 1)) (k : LV GA GB b L xs own cc nL (pc + 1) lv (.int (x &&& y) :: st) hA hB) : LV GA GB b L xs own cc nL pc lv (.int y :: .int x :: st) hA hB :=
  fun p e s m args below meth c H locs ls A hC hr hK hP hD hS hl => lv_iand hC.1 hC.2.1 hd  (k p e s m args below meth c H locs ls A hC hr hK hP hD hS hl)
theorem L_iconst {n : Int} (v : Int32) (hd : decode cc pc = .ok (.iconst n, 1)) (hv : Int32.ofInt n = v) (k : LV GA GB b L xs own cc nL (pc + 1) lv (.int v :: st) hA hB) : LV GA GB b L xs own cc nL pc lv st hA hB :=
  fun p e s m args below meth c H locs ls A hC hr hK hP hD hS hl => lv_iconst hC.1 hC.2.1 hd hv (k p e s m args below meth c H locs ls A hC hr hK hP hD hS hl)
theorem L_bipush {n : Int} (v : Int32) (hd : decode cc pc = .ok (.bipush n, 2)) (hv : (Int8.ofInt n).toInt32 = v) (k : LV GA GB b L xs own cc nL (pc + 2) lv (.int v :: st) hA hB) : LV GA GB b L xs own cc nL pc lv st hA hB :=
  fun p e s m args below meth c H locs ls A hC hr hK hP hD hS hl => lv_bipush hC.1 hC.2.1 hd hv (k p e s m args below meth c H locs ls A hC hr hK hP hD hS hl)
theorem L_goto {off : Int} (tgt : Nat) (hd : decode cc pc = .ok (.goto off, 3)) (ht : (pc : Int) + off = (tgt : Int)) (k : LV GA GB b L xs own cc nL tgt lv st hA hB) : LV GA GB b L xs own cc nL pc lv st hA hB :=
  fun p e s m args below meth c H locs ls A hC hr hK hP hD hS hl => lv_goto hC.1 hC.2.1 hd ht (k p e s m args below meth c H locs ls A hC hr hK hP hD hS hl)
theorem L_icmp_gt {x y : Int32} {off : Int} (tgt : Nat) (hd : decode cc pc = .ok (.if_icmp .gt off, 3)) (ht : (pc : Int) + off = (tgt : Int)) (kt : y < x → LV GA GB b L xs own cc nL tgt lv st hA hB) (kf : ¬ y < x → LV GA GB b L xs own cc nL (pc + 3) lv st hA hB) : LV GA GB b L xs own cc nL pc lv (.int y :: .int x :: st) hA hB :=
  fun p e s m args below meth c H locs ls A hC hr hK hP hD hS hl => lv_icmp_gt hC.1 hC.2.1 hd ht (fun q => kt q p e s m args below meth c H locs ls A hC hr hK hP hD hS hl) (fun q => kf q p e s m args below meth c H locs ls A hC hr hK hP hD hS hl)
theorem L_icmp_eq {x y : Int32} {off : Int} (tgt : Nat) (hd : decode cc pc = .ok (.if_icmp .eq off, 3)) (ht : (pc : Int) + off = (tgt : Int)) (kt : x = y → LV GA GB b L xs own cc nL tgt lv st hA hB) (kf : ¬ x = y → LV GA GB b L xs own cc nL (pc + 3) lv st hA hB) : LV GA GB b L xs own cc nL pc lv (.int y :: .int x :: st) hA hB :=
  fun p e s m args below meth c H locs ls A hC hr hK hP hD hS hl => lv_icmp_eq hC.1 hC.2.1 hd ht (fun q => kt q p e s m args below meth c H locs ls A hC hr hK hP hD hS hl) (fun q => kf q p e s m args below meth c H locs ls A hC hr hK hP hD hS hl)
theorem L_tableIn {dflt lo hi : Int} {offs : Array Int} {len : Nat} {x : Int32} {off : Int} (tgt : Nat) (hd : decode cc pc = .ok (.tableswitch dflt lo hi offs, len)) (h1 : ¬ x.toInt < lo) (h2 : ¬ hi < x.toInt) (ho : offs[(x.toInt - lo).toNat]? = some off) (ht : (pc : Int) + off = (tgt : Int)) (k : LV GA GB b L xs own cc nL tgt lv st hA hB) : LV GA GB b L xs own cc nL pc lv (.int x :: st) hA hB :=
  fun p e s m args below meth c H locs ls A hC hr hK hP hD hS hl => lv_tableIn hC.1 hC.2.1 hd h1 h2 ho ht (k p e s m args below meth c H locs ls A hC hr hK hP hD hS hl)
theorem L_tableOut {dflt lo hi : Int} {offs : Array Int} {len : Nat} {x : Int32} (tgt : Nat) (hd : decode cc pc = .ok (.tableswitch dflt lo hi offs, len)) (hx : x.toInt < lo ∨ hi < x.toInt) (ht : (pc : Int) + dflt = (tgt : Int)) (k : LV GA GB b L xs own cc nL tgt lv st hA hB) : LV GA GB b L xs own cc nL pc lv (.int x :: st) hA hB :=
  fun p e s m args below meth c H locs ls A hC hr hK hP hD hS hl => lv_tableOut hC.1 hC.2.1 hd hx ht (k p e s m args below meth c H locs ls A hC hr hK hP hD hS hl)
theorem L_iload3 {a0 a1 a2 : OV} {lr : List OV} {x : Int32} (hd : decode cc pc = .ok (.iload_n 3, 1)) (k : LV GA GB b L xs own cc nL (pc + 1) (a0 :: a1 :: a2 :: some (.int x) :: lr) (.int x :: st) hA hB) : LV GA GB b L xs own cc nL pc (a0 :: a1 :: a2 :: some (.int x) :: lr) st hA hB :=
  fun p e s m args below meth c H locs ls A hC hr hK hP hD hS hl => lv_iload_n hC.1 hC.2.1 hd rfl (hl.2.2 3 _ rfl) (k p e s m args below meth c H locs ls A hC hr hK hP hD hS hl)
theorem L_aload0 {lr : List OV} {x : Nat} (hd : decode cc pc = .ok (.aload_n 0, 1)) (k : LV GA GB b L xs own cc nL (pc + 1) (some (.ref x) :: lr) (.ref x :: st) hA hB) : LV GA GB b L xs own cc nL pc (some (.ref x) :: lr) st hA hB :=
  fun p e s m args below meth c H locs ls A hC hr hK hP hD hS hl => lv_aload_n hC.1 hC.2.1 hd rfl (hl.2.2 0 _ rfl) (k p e s m args below meth c H locs ls A hC hr hK hP hD hS hl)
theorem L_aload1 {a0 : OV} {lr : List OV} {x : Nat} (hd : decode cc pc = .ok (.aload_n 1, 1)) (k : LV GA GB b L xs own cc nL (pc + 1) (a0 :: some (.ref x) :: lr) (.ref x :: st) hA hB) : LV GA GB b L xs own cc nL pc (a0 :: some (.ref x) :: lr) st hA hB :=
  fun p e s m args below meth c H locs ls A hC hr hK hP hD hS hl => lv_aload_n hC.1 hC.2.1 hd rfl (hl.2.2 1 _ rfl) (k p e s m args below meth c H locs ls A hC hr hK hP hD hS hl)
theorem L_aload2 {a0 a1 : OV} {lr : List OV} {x : Nat} (hd : decode cc pc = .ok (.aload_n 2, 1)) (k : LV GA GB b L xs own cc nL (pc + 1) (a0 :: a1 :: some (.ref x) :: lr) (.ref x :: st) hA hB) : LV GA GB b L xs own cc nL pc (a0 :: a1 :: some (.ref x) :: lr) st hA hB :=
  fun p e s m args below meth c H locs ls A hC hr hK hP hD hS hl => lv_aload_n hC.1 hC.2.1 hd rfl (hl.2.2 2 _ rfl) (k p e s m args below meth c H locs ls A hC hr hK hP hD hS hl)
theorem L_iinc3 {a0 a1 a2 : OV} {lr : List OV} {x : Int32} {n : Int} (dn : Int32) (hd : decode cc pc = .ok (.iinc 3 n, 3)) (he : Int32.ofInt n = dn) (hn : 3 < nL) (hp : okc a2 = true) (k : LV GA GB b L xs own cc nL (pc + 3) (a0 :: a1 :: a2 :: some (.int (x + dn)) :: lr) st hA hB) : LV GA GB b L xs own cc nL pc (a0 :: a1 :: a2 :: some (.int x) :: lr) st hA hB := by
  intro p e s m args below meth c H locs ls A hC hr hK hP hD hS hl
  obtain ⟨kk, hkk⟩ := List.getElem?_of_mem (assocOf_mem.mpr (show ((a0 :: a1 :: a2 :: some (.int x) :: lr) : List OV)[3]? = some (some (.int x)) from rfl))
  exact lv_iinc (v := x + dn) hC.1 hC.2.1 hd hl.has hkk (by rw [he]) hn rfl (fun ls' hl' => k p e s m args below meth c H locs ls' A hC hr hK hP hD hS (lvO.storedP (lv := a0 :: a1 :: a2 :: some (.int x) :: lr) 2 a2 rfl rfl hp hl'))
theorem L_iadd_n {a c : Nat} (hd : decode cc pc = .ok (.iadd, 1)) (k : LV GA GB b L xs own cc nL (pc + 1) lv (.int (nI (a + c)) :: st) hA hB) : LV GA GB b L xs own cc nL pc lv (.int (nI c) :: .int (nI a) :: st) hA hB := L_iadd hd (by rw [nI_add]; exact k)
theorem L_iinc3_n {a0 a1 a2 : OV} {lr : List OV} {a : Nat} {n : Int} (d : Nat) (hd : decode cc pc = .ok (.iinc 3 n, 3)) (he : Int32.ofInt n = nI d) (hn : 3 < nL) (hp : okc a2 = true) (k : LV GA GB b L xs own cc nL (pc + 3) (a0 :: a1 :: a2 :: some (.int (nI (a + d))) :: lr) st hA hB) : LV GA GB b L xs own cc nL pc (a0 :: a1 :: a2 :: some (.int (nI a)) :: lr) st hA hB := L_iinc3 (nI d) hd he hn hp (by rw [nI_add]; exact k)
theorem L_callA {y : MethodName} {c2 : ByteArray} {n2 : Nat} {R2 : Room} {av : List Value} {P : Int32 → Mem → Prop} {index : Nat} {rest : List Value} {fs : List Value} (eG : GB = (GA.1, GA.2.1, GA.2.2.1, GB.2.2.2)) (hM : Ct idsA GA y c2 n2 (some .int) R2 (.ref (ad GA 0) :: av) hA (Qi P)) (hlink : Cond.methodLink own index y ∈ Ug) (hin : Cond.instanceMethod y ∈ Ug) (hsel : Cond.selects RX5 y y ∈ Ug) (hini : Cond.initialized y.cls ∈ Ug) (hcode : Cond.code y c2 n2 (some .int) ∈ Ug) (ho : mOK y av.length) (hR : rOK room_1 R2 n2)
    (hcell : cellR GA 0 (hA 0) = .inr (5, fs)) (hs : st = av.reverse ++ .ref (ad GA 0) :: rest) (hw : (rest.map fun v => v.category).sum ≤ 8) (hd : decode cc pc = .ok (.invokevirtual index, 3)) (k : ∀ r h', P r h' → LV GA GB b L xs own cc nL (pc + 3) lv (.int r :: rest) h' hB) : LV GA GB b L xs own cc nL pc lv st hA hB := by
  intro p e s m args below meth c H locs ls A hC hr hK hP hD hS hl
  have e0 : GB.1 = GA.1 := by rw [eG]
  obtain ⟨q0, hq0, hwb⟩ := wsM_at (ids := idsA) (G := GA) (h := hA) (c := 0) (by decide)
  rw [hcell] at hwb
  have hDA := D_in (hD.1 hA)
  have run : va_Run p GA.1 e room_1 s m args below meth c H locs 77 7524 0 0 (F0 m pc ls st) rest (Qx idsA GA (Qi P) (inI idsA GA) (Value.ref (ad GA 0) :: av).toArray) (inI idsA GA) := by
    have hM2 := hM (inI idsA GA)
    exact va_runV (C := RX5) (As := av) (rest := rest) hC hM2 ⟨callB_of av.length hC.2.2.2.2 (good_code hcode) rfl hR.1 hR.2.1 (hC.2.2.2.2 _ hini) (hC.2.2.2.2 _ hlink) ho hR.2.2, hC.2.2.2.2 _ hin, hC.2.2.2.2 _ hsel⟩ ⟨Pc_blind, va_recv hK.1.1 hP.1 rfl hwb, fun U hU hW => ⟨rfl, by rw [hU]; exact hP.1, ⟨va_K.moved hW.alike hK.1.1, hK.1.2.warm hW⟩, hDA⟩⟩ rfl rfl hl.1 hs (by show 2 * 0 + _ ≤ 8; omega) hd ⟨by decide, by decide⟩
  intro T hT X
  obtain ⟨v, st₀, t, T', L', h0', X', hL, e1, e2, ⟨⟨v', h', hv, hq, hP1, hD1⟩, hz, hk⟩, stp⟩ := run T hT X
  cases hv
  obtain ⟨r, rfl, hq⟩ := hq
  rw [h0'] at hz hk
  have hPo := P_kept (H1 := t.heap) hP.2 (fun c hc hlt => hk _ hlt (fun z => by
    obtain ⟨c2', hc2, e9⟩ := z
    exact hD.2.2.1 c2' hc2 c hc e9.symm))
  obtain ⟨t2, a1, b1⟩ := k r h' hq p e s m args below meth c T'.heap (locs ++ L') ls A hC hr hK ⟨by rw [e1]; exact hP1, by rw [e1]; exact hPo⟩ hD
    ⟨Nat.le_trans hS.1 (by rw [e1]; exact hz), fun q h1 h2 => by rw [e1, hk q (Nat.lt_of_lt_of_le h1 hS.1) (fun z => h2 (in_A (hD.1 hA) z))]; exact hS.2.1 q h1 h2, fun q hq => by
      rcases List.mem_append.mp hq with h | h
      · exact hS.2.2 q h
      · exact in_A (hD.1 hA) (hL q h)⟩ hl T' rfl X'
  exact ⟨t2, stp t2 a1, b1⟩
theorem L_callB {y : MethodName} {c2 : ByteArray} {n2 : Nat} {R2 : Room} {av : List Value} {P : Int32 → Mem → Prop} {index : Nat} {rest : List Value} {fs : List Value} (eG : GB = (GA.1, GA.2.1, GA.2.2.1, GB.2.2.2)) (hM : Ct idsB GB y c2 n2 (some .int) R2 (.ref (ad GB 100) :: av) hB (Qi P)) (hlink : Cond.methodLink own index y ∈ Ug) (hin : Cond.instanceMethod y ∈ Ug) (hsel : Cond.selects RX6 y y ∈ Ug) (hini : Cond.initialized y.cls ∈ Ug) (hcode : Cond.code y c2 n2 (some .int) ∈ Ug) (ho : mOK y av.length) (hR : rOK room_1 R2 n2)
    (hcell : cellR GB 100 (hB 100) = .inr (6, fs)) (hs : st = av.reverse ++ .ref (ad GB 100) :: rest) (hw : (rest.map fun v => v.category).sum ≤ 8) (hd : decode cc pc = .ok (.invokevirtual index, 3)) (k : ∀ r h', P r h' → LV GA GB b L xs own cc nL (pc + 3) lv (.int r :: rest) hA h') : LV GA GB b L xs own cc nL pc lv st hA hB := by
  intro p e s m args below meth c H locs ls A hC hr hK hP hD hS hl
  have e0 : GB.1 = GA.1 := by rw [eG]
  obtain ⟨q0, hq0, hwb⟩ := wsM_at (ids := idsB) (G := GB) (h := hB) (c := 100) (by decide)
  rw [hcell] at hwb
  have hDA := D_in (hD.2.1 hB)
  have run : va_Run p GA.1 e room_1 s m args below meth c H locs 77 7524 0 0 (F0 m pc ls st) rest (Qx idsB GB (Qi P) (inI idsB GB) (Value.ref (ad GB 100) :: av).toArray) (inI idsB GB) := by
    have hM2 := hM (inI idsB GB)
    rw [e0] at hM2
    exact va_runV (C := RX6) (As := av) (rest := rest) hC hM2 ⟨callB_of av.length hC.2.2.2.2 (good_code hcode) rfl hR.1 hR.2.1 (hC.2.2.2.2 _ hini) (hC.2.2.2.2 _ hlink) ho hR.2.2, hC.2.2.2.2 _ hin, hC.2.2.2.2 _ hsel⟩ ⟨Pc_blind, va_recv hK.2.1 hP.2 rfl hwb, fun U hU hW => ⟨rfl, by rw [hU]; exact hP.2, ⟨va_K.moved hW.alike hK.2.1, hK.2.2.warm hW⟩, hDA⟩⟩ rfl rfl hl.1 hs (by show 2 * 0 + _ ≤ 8; omega) hd ⟨by decide, by decide⟩
  intro T hT X
  obtain ⟨v, st₀, t, T', L', h0', X', hL, e1, e2, ⟨⟨v', h', hv, hq, hP1, hD1⟩, hz, hk⟩, stp⟩ := run T hT X
  cases hv
  obtain ⟨r, rfl, hq⟩ := hq
  rw [h0'] at hz hk
  have hPo := P_kept (H1 := t.heap) hP.1 (fun c hc hlt => hk _ hlt (fun z => by
    obtain ⟨c2', hc2, e9⟩ := z
    exact hD.2.2.1 c hc c2' hc2 e9))
  obtain ⟨t2, a1, b1⟩ := k r h' hq p e s m args below meth c T'.heap (locs ++ L') ls A hC hr hK ⟨by rw [e1]; exact hPo, by rw [e1]; exact hP1⟩ hD
    ⟨Nat.le_trans hS.1 (by rw [e1]; exact hz), fun q h1 h2 => by rw [e1, hk q (Nat.lt_of_lt_of_le h1 hS.1) (fun z => h2 (in_A (hD.2.1 hB) z))]; exact hS.2.1 q h1 h2, fun q hq => by
      rcases List.mem_append.mp hq with h | h
      · exact hS.2.2 q h
      · exact in_A (hD.2.1 hB) (hL q h)⟩ hl T' rfl X'
  exact ⟨t2, stp t2 a1, b1⟩
theorem L_sld {i : Int32} {j : Nat} (hi : i = nI j) (hj : j < L) (hL : L < 2 ^ 31) (hd : decode cc pc = .ok (.iaload, 1)) (k : LV GA GB b L xs own cc nL (pc + 1) lv (.int (xs j) :: st) hA hB) : LV GA GB b L xs own cc nL pc lv (.int i :: .ref b :: st) hA hB := by
  intro p e s m args below meth c H locs ls A hC hr hK hP hD hS hl
  subst hi
  refine va_sld hC.1 hC.2.1 hr.2.2.2.1 hr.2.2.2.2 (fun z => Nat.not_le.mpr hr.2.2.2.2 ((hD.2.2.2 b).mp z)) hS (vp_in_nI hj hL) hd ?_
  rw [nI_clamp (by omega)]
  exact k p e s m args below meth c H locs ls A hC hr hK hP hD hS hl
theorem L_slen (hd : decode cc pc = .ok (.arraylength, 1)) (k : LV GA GB b L xs own cc nL (pc + 1) lv (.int (nI L) :: st) hA hB) : LV GA GB b L xs own cc nL pc lv (.ref b :: st) hA hB := by
  intro p e s m args below meth c H locs ls A hC hr hK hP hD hS hl
  refine va_slen hC.1 hC.2.1 hr.2.2.2.1 hr.2.2.2.2 (fun z => Nat.not_le.mpr hr.2.2.2.2 ((hD.2.2.2 b).mp z)) hS hd ?_
  exact k p e s m args below meth c H locs ls A hC hr hK hP hD hS hl
theorem L_ret (hc0 : cc = code) (hd : decode code pc = .ok (.ireturn, 1)) : LV GA GB b L xs own cc nL pc lv [.int (nI 1)] hA hB := by
  intro p e s m args below meth c H locs ls A hC hr hK hP hD hS hl
  obtain ⟨rfl, h1, h2, -, -⟩ := hr
  refine va_forget (fun q hq => (hD.2.2.2 _).mp (hS.2.2 q hq)) ?_
  refine W.widen (k := 600000) (n := 7302250) (Nat.le_of_ble_eq_true rfl) (Nat.le_of_ble_eq_true rfl) ?_
  exact lw_ret hC.1 (hC.2.1.trans hc0) h1 h2 hd
end LB
theorem and31 (x : Int32) : ∃ k, k < 32 ∧ x &&& nI 31 = nI k := by
  refine ⟨(x.toBitVec &&& 31#32).toNat, ?_, ?_⟩
  · rw [BitVec.toNat_and]
    exact Nat.lt_succ_of_le Nat.and_le_right
  · apply Int32.toBitVec_inj.mp
    rw [Int32.toBitVec_and]
    show x.toBitVec &&& 31#32 = BitVec.ofNat 32 (x.toBitVec &&& 31#32).toNat
    rw [BitVec.ofNat_toNat, BitVec.setWidth_eq]
theorem six {i L : Nat} (hL : L ≤ 3072) (hi : i ≤ L) (h : ¬ nI L - nI 6 < nI i) : i + 6 ≤ L := by
  have t1 := nI_toInt (n := L) (by omega)
  have t2 := nI_toInt (n := i) (by omega)
  have t3 : (nI 6).toInt = 6 := nI_toInt (by decide)
  rw [fa_lt, fb_subI (by omega) (by omega), t1, t2, t3] at h
  omega
