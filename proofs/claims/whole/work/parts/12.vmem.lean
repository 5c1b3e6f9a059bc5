section VM
variable {ids : List Nat} {G : GE} {own : String} {cc : ByteArray} {nL : Nat} {ret : Option FieldType} {R : Room} {pc : Nat} {lv : List OV} {st : List Value} {h : Mem} {Q : Option Value → Mem → Prop}
/-- a field is read; an int or a reference -/
theorem V_getG {ref C : String} {T : u_T} {N ci index : Nat} {v : Value} {fs : List Value} (c : Nat) (hm : c ∈ ids) (hin : ∀ w ∈ u_ws C T N, w ∈ Ug) (hcell : cellR G c (h c) = .inr (ci, fs)) (hc : vwCl[ci]? = some (C, T, N)) (k : Nat) (hk : k < N)
    (hlink : Cond.fieldLink own index ref (T k).2.1 (T k).2.2.1 ∈ Ug) (hs : (T k).1 = ref) (hv : fs[k]? = some v) (hd : decode cc pc = .ok (.getfield index, 3)) (kk : V ids G own cc nL ret R (pc + 3) lv (v :: st) h Q) : V ids G own cc nL ret R pc lv (.ref (ad G c) :: st) h Q := by
  intro p e s m args below meth c' H locs ls A hC hr hK hP hD hS hl
  obtain ⟨q0, hq0, hw⟩ := wsM_at (G := G) (h := h) hm
  rw [hcell] at hw
  exact va_get hC.1 hC.2.1 hC.2.2.2.2 hin hC.2.2.2.1 hK.1 hP q0 hw hc k hk (hC.2.2.2.2 _ hlink) (fun x hx => by rw [← hs]; exact hx) hv hd (kk p e s m args below meth c' H locs ls A hC hr hK hP hD hS hl)
theorem V_getN {ref C host : String} {T : u_T} {N ci index : Nat} {v : Value} {fs : List Value} (c : Nat) (hm : c ∈ ids) (hin : ∀ w ∈ u_ws C T N, w ∈ Ug) (hcell : cellR G c (h c) = .inr (ci, fs)) (hc : vwCl[ci]? = some (C, T, N)) (k : Nat) (hk : k < N)
    (hlink : Cond.fieldLinkNest own index ref (T k).2.1 (T k).2.2.1 host ∈ nestW) (hs : (T k).1 = ref) (hv : fs[k]? = some v) (hd : decode cc pc = .ok (.getfield index, 3)) (kk : V ids G own cc nL ret R (pc + 3) lv (v :: st) h Q) : V ids G own cc nL ret R pc lv (.ref (ad G c) :: st) h Q := by
  intro p e s m args below meth c' H locs ls A hC hr hK hP hD hS hl
  obtain ⟨q0, hq0, hw⟩ := wsM_at (G := G) (h := h) hm
  rw [hcell] at hw
  exact va_getN hC.1 hC.2.1 hC.2.2.2.2 hin hC.2.2.2.1 hK.1 hP q0 hw hc k hk (va_Nw.use rfl (hK.2 _ hlink)) (fun x hx => by rw [← hs]; exact hx) hv hd (kk p e s m args below meth c' H locs ls A hC hr hK hP hD hS hl)
theorem V_putG {ref C : String} {T : u_T} {N ci index : Nat} {v : Int32} {fs : List Value} (c : Nat) (hm : c ∈ ids) (hin : ∀ w ∈ u_ws C T N, w ∈ Ug) (ty0 : Nat → FieldType) (hty : ∀ k, k < N → parseFieldDescriptor (T k).2.2.1 = some (ty0 k)) (hnm : ∀ a, a < N → ∀ b, b < N → a ≠ b → (T a).2.1 ≠ (T b).2.1) (hcell : cellR G c (h c) = .inr (ci, fs)) (hc : vwCl[ci]? = some (C, T, N)) (k : Nat) (hk : k < N)
    (hlink : Cond.fieldLink own index ref (T k).2.1 (T k).2.2.1 ∈ Ug) (hs : (T k).1 = ref) (hfin : (T k).2.2.2 = false) (hi : parseFieldDescriptor (T k).2.2.1 = some .int) (hl0 : k < fs.length) (hset : (Sum.inr (ci, fs.set k (.int v)) : va_E) = cellR G c (upd (h c) k v))
    (hd : decode cc pc = .ok (.putfield index, 3)) (kk : V ids G own cc nL ret R (pc + 3) lv st (wr h c k v) Q) : V ids G own cc nL ret R pc lv (.int v :: .ref (ad G c) :: st) h Q := by
  intro p e s m args below meth c' H locs ls A hC hr hK hP hD hS hl
  obtain ⟨q0, hq0, hw⟩ := wsM_at (G := G) (h := h) hm
  rw [hcell] at hw
  refine va_put (ty := .int) hC.1 hC.2.1 hC.2.2.2.2 hin ty0 hty hnm hC.2.2.2.1 hK.1 hP hD hS q0 hw hc k hk (hC.2.2.2.2 _ hlink) (fun x hx => by rw [← hs]; exact hx) hfin hi rfl rfl hl0 hd (fun H1 locs1 hP1 hD1 hS1 => ?_)
  rw [hset, wsM_set hD hq0] at hP1 hD1
  exact kk p e s m args below meth c' H1 locs1 ls A hC hr hK hP1 hD1 hS1 hl
theorem V_putN {ref C host : String} {T : u_T} {N ci index : Nat} {v : Int32} {fs : List Value} (c : Nat) (hm : c ∈ ids) (hin : ∀ w ∈ u_ws C T N, w ∈ Ug) (ty0 : Nat → FieldType) (hty : ∀ k, k < N → parseFieldDescriptor (T k).2.2.1 = some (ty0 k)) (hnm : ∀ a, a < N → ∀ b, b < N → a ≠ b → (T a).2.1 ≠ (T b).2.1) (hcell : cellR G c (h c) = .inr (ci, fs)) (hc : vwCl[ci]? = some (C, T, N)) (k : Nat) (hk : k < N)
    (hlink : Cond.fieldLinkNest own index ref (T k).2.1 (T k).2.2.1 host ∈ nestW) (hs : (T k).1 = ref) (hfin : (T k).2.2.2 = false) (hi : parseFieldDescriptor (T k).2.2.1 = some .int) (hl0 : k < fs.length) (hset : (Sum.inr (ci, fs.set k (.int v)) : va_E) = cellR G c (upd (h c) k v))
    (hd : decode cc pc = .ok (.putfield index, 3)) (kk : V ids G own cc nL ret R (pc + 3) lv st (wr h c k v) Q) : V ids G own cc nL ret R pc lv (.int v :: .ref (ad G c) :: st) h Q := by
  intro p e s m args below meth c' H locs ls A hC hr hK hP hD hS hl
  obtain ⟨q0, hq0, hw⟩ := wsM_at (G := G) (h := h) hm
  rw [hcell] at hw
  refine va_putN (ty := .int) hC.1 hC.2.1 hC.2.2.2.2 hin ty0 hty hnm hC.2.2.2.1 hK.1 hP hD hS q0 hw hc k hk (va_Nw.use rfl (hK.2 _ hlink)) (fun x hx => by rw [← hs]; exact hx) hfin hi rfl rfl hl0 hd (fun H1 locs1 hP1 hD1 hS1 => ?_)
  rw [hset, wsM_set hD hq0] at hP1 hD1
  exact kk p e s m args below meth c' H1 locs1 ls A hC hr hK hP1 hD1 hS1 hl
theorem tys_0 (G : GE) : (tysG G)[0]? = some (G.2.2.1 0, .int) := rfl
theorem tys_1 (G : GE) : (tysG G)[1]? = some (G.2.2.1 1, .boolean) := rfl
theorem tys_2 (G : GE) : (tysG G)[2]? = some (G.2.2.1 2, .object "LineBundles$Line") := rfl
theorem tys_3 (G : GE) : (tysG G)[3]? = some (G.2.2.1 3, .object "LineBundles$Sheet") := rfl
/-- a cell is a row of n ints (of n booleans) -/
def isI (c n : Nat) : Prop := ∀ (G : GE) (r : Nat → Int32), cellR G c r = .inl (G.2.2.1 0, n, .inl r)
def isZ (c n : Nat) : Prop := ∀ (G : GE) (r : Nat → Int32), cellR G c r = .inl (G.2.2.1 1, n, .inl r)
theorem V_iaload {c n j : Nat} {i : Int32} (hm : c ∈ ids) (hI : isI c n) (hn : n < 2 ^ 31) (hi : i = nI j) (hj : j < n) (hd : decode cc pc = .ok (.iaload, 1)) (kk : V ids G own cc nL ret R (pc + 1) lv (.int (h c j) :: st) h Q) : V ids G own cc nL ret R pc lv (.int i :: .ref (ad G c) :: st) h Q := by
  intro p e s m args below meth c' H locs ls A hC hr hK hP hD hS hl
  obtain ⟨q0, hq0, hw⟩ := wsM_at (G := G) (h := h) hm
  rw [hI] at hw
  subst hi
  refine va_iald hC.1 hC.2.1 hK.1 hP q0 0 hw (tys_0 G) (vp_in_nI hj hn) hd ?_
  rw [nI_clamp (by omega)]
  exact kk p e s m args below meth c' H locs ls A hC hr hK hP hD hS hl
theorem V_baload {c n j : Nat} {i : Int32} (hm : c ∈ ids) (hI : isZ c n) (hn : n < 2 ^ 31) (hi : i = nI j) (hj : j < n) (hd : decode cc pc = .ok (.baload, 1)) (kk : V ids G own cc nL ret R (pc + 1) lv (.int (h c j) :: st) h Q) : V ids G own cc nL ret R pc lv (.int i :: .ref (ad G c) :: st) h Q := by
  intro p e s m args below meth c' H locs ls A hC hr hK hP hD hS hl
  obtain ⟨q0, hq0, hw⟩ := wsM_at (G := G) (h := h) hm
  rw [hI] at hw
  subst hi
  refine va_zald hC.1 hC.2.1 hK.1 hP q0 1 hw (tys_1 G) (vp_in_nI hj hn) hd ?_
  rw [nI_clamp (by omega)]
  exact kk p e s m args below meth c' H locs ls A hC hr hK hP hD hS hl
theorem V_iastore {c n j : Nat} {i x : Int32} (hm : c ∈ ids) (hI : isI c n) (hn : n < 2 ^ 31) (hi : i = nI j) (hj : j < n) (hd : decode cc pc = .ok (.iastore, 1)) (kk : V ids G own cc nL ret R (pc + 1) lv st (wr h c j x) Q) : V ids G own cc nL ret R pc lv (.int x :: .int i :: .ref (ad G c) :: st) h Q := by
  intro p e s m args below meth c' H locs ls A hC hr hK hP hD hS hl
  obtain ⟨q0, hq0, hw⟩ := wsM_at (G := G) (h := h) hm
  rw [hI] at hw
  subst hi
  refine va_iast hC.1 hC.2.1 hK.1 hP hD hS q0 0 hw (tys_0 G) (vp_in_nI hj hn) hd (fun H1 locs1 hP1 hD1 hS1 => ?_)
  rw [nI_clamp (by omega), ← hI G (upd (h c) j x), wsM_set hD hq0] at hP1 hD1
  exact kk p e s m args below meth c' H1 locs1 ls A hC hr hK hP1 hD1 hS1 hl
theorem V_bastore {c n j : Nat} {i x : Int32} (hm : c ∈ ids) (hI : isZ c n) (hn : n < 2 ^ 31) (hi : i = nI j) (hj : j < n) (hx : x = 0 ∨ x = 1) (hd : decode cc pc = .ok (.bastore, 1)) (kk : V ids G own cc nL ret R (pc + 1) lv st (wr h c j x) Q) : V ids G own cc nL ret R pc lv (.int x :: .int i :: .ref (ad G c) :: st) h Q := by
  intro p e s m args below meth c' H locs ls A hC hr hK hP hD hS hl
  obtain ⟨q0, hq0, hw⟩ := wsM_at (G := G) (h := h) hm
  rw [hI] at hw
  subst hi
  have hx2 : vp_nar .boolean x = x := by rcases hx with rfl | rfl <;> decide +kernel
  refine va_zast hC.1 hC.2.1 hK.1 hP hD hS q0 1 hw (tys_1 G) (vp_in_nI hj hn) hd (fun H1 locs1 hP1 hD1 hS1 => ?_)
  rw [nI_clamp (by omega), hx2, ← hI G (upd (h c) j x), wsM_set hD hq0] at hP1 hD1
  exact kk p e s m args below meth c' H1 locs1 ls A hC hr hK hP1 hD1 hS1 hl
theorem V_aaloadS {j : Nat} {i : Int32} (hm : 1 ∈ ids) (hi : i = nI j) (hj : j < 8) (hd : decode cc pc = .ok (.aaload, 1)) (kk : V ids G own cc nL ret R (pc + 1) lv (.ref (ad G (20 + j)) :: st) h Q) : V ids G own cc nL ret R pc lv (.int i :: .ref (ad G 1) :: st) h Q := by
  intro p e s m args below meth c' H locs ls A hC hr hK hP hD hS hl
  obtain ⟨q0, hq0, hw⟩ := wsM_at (G := G) (h := h) hm
  subst hi
  refine va_aldq hC.1 hC.2.1 hK.1 hP q0 3 hw (tys_3 G) (vp_in_nI hj (by decide)) hd ?_
  rw [nI_clamp (by omega)]
  exact kk p e s m args below meth c' H locs ls A hC hr hK hP hD hS hl
theorem V_aaloadL {j : Nat} {i : Int32} (hm : 3 ∈ ids) (hi : i = nI j) (hj : j < 12) (hd : decode cc pc = .ok (.aaload, 1)) (kk : V ids G own cc nL ret R (pc + 1) lv (.ref (ad G (40 + j)) :: st) h Q) : V ids G own cc nL ret R pc lv (.int i :: .ref (ad G 3) :: st) h Q := by
  intro p e s m args below meth c' H locs ls A hC hr hK hP hD hS hl
  obtain ⟨q0, hq0, hw⟩ := wsM_at (G := G) (h := h) hm
  subst hi
  refine va_aldq hC.1 hC.2.1 hK.1 hP q0 2 hw (tys_2 G) (vp_in_nI hj (by decide)) hd ?_
  rw [nI_clamp (by omega)]
  exact kk p e s m args below meth c' H locs ls A hC hr hK hP hD hS hl
/-- System.arraycopy between int rows -/
theorem V_acopy {index c0 c1 n0 n1 sj dj nj : Nat} {sp dp n : Int32} (hlink : Cond.methodLink own index arraycopyName ∈ Ug) (hnat : Cond.native arraycopyName ∈ Ug) (hstat : Cond.static arraycopyName ∈ Ug) (hini : Cond.initialized "java/lang/System" ∈ Ug) (hm0 : c0 ∈ ids) (hm1 : c1 ∈ ids) (hI0 : isI c0 n0) (hI1 : isI c1 n1) (hn0 : n0 < 2 ^ 31) (hn1 : n1 < 2 ^ 31)
    (es : sp = nI sj) (ed : dp = nI dj) (en : n = nI nj) (h4 : sj + nj ≤ n0) (h5 : dj + nj ≤ n1) (hf : 1 ≤ R.frames) (hlo : (st.map fun v => v.category).sum + (nativeFrameWords "java/lang/System" "arraycopy" 5 + 11) ≤ R.locals) (hd : decode cc pc = .ok (.invokestatic index, 3))
    (kk : V ids G own cc nL ret R (pc + 3) lv st (va_up h c1 (va_cpy (h c0) (h c1) sj dj nj)) Q) : V ids G own cc nL ret R pc lv (.int n :: .int dp :: .ref (ad G c1) :: .int sp :: .ref (ad G c0) :: st) h Q := by
  intro p e s m args below meth c' H locs ls A hC hr hK hP hD hS hl
  obtain ⟨q0, hq0, hw0⟩ := wsM_at (G := G) (h := h) hm0
  obtain ⟨q1, hq1, hw1⟩ := wsM_at (G := G) (h := h) hm1
  rw [hI0] at hw0
  rw [hI1] at hw1
  subst es; subst ed; subst en
  have a1 : sj < 2 ^ 31 := by omega
  have a2 : dj < 2 ^ 31 := by omega
  have a3 : nj < 2 ^ 31 := by omega
  refine va_copyi (ty := .int) hC.1 hC.2.1 (hC.2.2.1.trans hl.1.symm) hC.2.2.2.1 (hC.2.2.2.2 _ hlink) (hC.2.2.2.2 _ hnat) (hC.2.2.2.2 _ hstat) (hC.2.2.2.2 _ hini) hK.1 hP hD hS q0 q1 0 0 hw0 hw1 (tys_0 G) (tys_0 G) rfl (nI_pos a1) (nI_pos a2) (nI_pos a3) (by rw [nI_clamp a1, nI_clamp a3]; exact h4) (by rw [nI_clamp a2, nI_clamp a3]; exact h5) (fun _ _ => rfl) hf hlo hd (fun H1 locs1 hP1 hD1 hS1 => ?_)
  rw [nI_clamp a1, nI_clamp a2, nI_clamp a3, ← hI1 G (va_cpy (h c0) (h c1) sj dj nj), wsM_set hD hq1] at hP1 hD1
  exact kk p e s m args below meth c' H1 locs1 ls A hC hr hK hP1 hD1 hS1 hl
theorem V_mmax {index : Nat} {x y : Int32} (hlink : Cond.methodLink own index Lib.Math.max.name ∈ Ug) (hstat : Cond.static Lib.Math.max.name ∈ Ug) (hini : Cond.initialized "java/lang/Math" ∈ Ug) (hcode : Cond.code Lib.Math.max.name Lib.Math.max.code 2 (some .int) ∈ Ug) (hf : 1 ≤ R.frames) (hlo : (st.map fun v => v.category).sum + 13 ≤ R.locals) (hd : decode cc pc = .ok (.invokestatic index, 3))
    (kk : V ids G own cc nL ret R (pc + 3) lv (.int (if x < y then y else x) :: st) h Q) : V ids G own cc nL ret R pc lv (.int y :: .int x :: st) h Q :=
  fun p e s m args below meth c H locs ls A hC hr hK hP hD hS hl => va_mmax hC.1 hC.2.1 (hC.2.2.1.trans hl.1.symm) hC.2.2.2.1 (hC.2.2.2.2 _ hlink) (hC.2.2.2.2 _ hstat) (hC.2.2.2.2 _ hini) (hC.2.2.2.2 _ hcode) hf hlo (Nat.zero_le _) (Nat.zero_le _) hd (kk p e s m args below meth c H locs ls A hC hr hK hP hD hS hl)
theorem V_mmin {index : Nat} {x y : Int32} (hlink : Cond.methodLink own index Lib.Math.min.name ∈ Ug) (hstat : Cond.static Lib.Math.min.name ∈ Ug) (hini : Cond.initialized "java/lang/Math" ∈ Ug) (hcode : Cond.code Lib.Math.min.name Lib.Math.min.code 2 (some .int) ∈ Ug) (hf : 1 ≤ R.frames) (hlo : (st.map fun v => v.category).sum + 13 ≤ R.locals) (hd : decode cc pc = .ok (.invokestatic index, 3))
    (kk : V ids G own cc nL ret R (pc + 3) lv (.int (if y < x then y else x) :: st) h Q) : V ids G own cc nL ret R pc lv (.int y :: .int x :: st) h Q :=
  fun p e s m args below meth c H locs ls A hC hr hK hP hD hS hl => va_mmin hC.1 hC.2.1 (hC.2.2.1.trans hl.1.symm) hC.2.2.2.1 (hC.2.2.2.2 _ hlink) (hC.2.2.2.2 _ hstat) (hC.2.2.2.2 _ hini) (hC.2.2.2.2 _ hcode) hf hlo (Nat.zero_le _) (Nat.zero_le _) hd (kk p e s m args below meth c H locs ls A hC hr hK hP hD hS hl)
theorem V_mabs {index : Nat} {x : Int32} (hlink : Cond.methodLink own index Lib.Math.abs.name ∈ Ug) (hstat : Cond.static Lib.Math.abs.name ∈ Ug) (hini : Cond.initialized "java/lang/Math" ∈ Ug) (hcode : Cond.code Lib.Math.abs.name Lib.Math.abs.code 1 (some .int) ∈ Ug) (hf : 1 ≤ R.frames) (hlo : (st.map fun v => v.category).sum + 13 ≤ R.locals) (hd : decode cc pc = .ok (.invokestatic index, 3))
    (kk : V ids G own cc nL ret R (pc + 3) lv (.int (if 0 ≤ x then x else 0 - x) :: st) h Q) : V ids G own cc nL ret R pc lv (.int x :: st) h Q :=
  fun p e s m args below meth c H locs ls A hC hr hK hP hD hS hl => va_mabs hC.1 hC.2.1 (hC.2.2.1.trans hl.1.symm) hC.2.2.2.1 (hC.2.2.2.2 _ hlink) (hC.2.2.2.2 _ hstat) (hC.2.2.2.2 _ hini) (hC.2.2.2.2 _ hcode) hf hlo (Nat.zero_le _) (Nat.zero_le _) hd (kk p e s m args below meth c H locs ls A hC hr hK hP hD hS hl)
/-! calls -/
def mOK (y : MethodName) (n : Nat) : Prop := y.cls ≠ "java/lang/invoke/MethodHandle" ∧ y.cls ≠ "java/lang/invoke/VarHandle" ∧ (parseMethodDescriptor y.desc).map (fun d => d.parameters.length) = some n
def rOK (R R' : Room) (nL' : Nat) : Prop := R'.cells = 0 ∧ R'.slots = 0 ∧ R'.frames + 1 ≤ R.frames ∧ 8 + (nL' + 11) + R'.locals ≤ R.locals
def rmD (d : Nat) : Room := { frames := d, cells := 0, slots := 0, locals := 40 * d }
theorem rOK_d {d d' n : Nat} (h : d' < d) (hn : n ≤ 21) : rOK (rmD d) (rmD d') n := ⟨rfl, rfl, h, by show 8 + (n + 11) + 40 * d' ≤ 40 * d; omega⟩
theorem good_code {y : MethodName} {c2 : ByteArray} {n2 : Nat} {r2 : Option FieldType} (hcode : Cond.code y c2 n2 r2 ∈ Ug) : GoodIn Ug (Cond.code y c2 n2 r2 :: Ug) := by
  intro w hw
  rcases List.mem_cons.mp hw with rfl | hw
  · exact ug_good _ hcode
  · exact ug_good _ hw
theorem Pc_blind {G : GE} {h : Mem} {av : List Value} {A : Nat → Prop} : FrameBlind (va_Pc av (fun U => va_P G.2.1 vwCl (wsM ids G h) U.heap ∧ HK G U ∧ va_D A (wsM ids G h))) := by
  intro a U g mk q
  obtain ⟨q0, qP, ⟨qK, qN⟩, qD⟩ := q
  exact ⟨q0, qP, ⟨va_K.moved (u := U) (U := U.calling g mk a) (Vm.Alike.refl U.vm) qK, NL.same (s := U) (U := U.calling g mk a) rfl qN⟩, qD⟩
theorem V_run {p : Program} {e : Env} {s : State} {m : MethodId} {args : Array Value} {below : List Frame} {meth : Method} {c : Code} {H : Heap} {locs : List Loc} {ls : Array Slot} {A : Nat → Prop} {rest : List Value} {Qc : Option Value → Mem → Prop} {av : Array Value}
    (hC : CallFix p m c cc nL s args Ug own) (hr : meth.sig.returnType = ret ∧ meth.locks = false) (hK : HK G s) (hS : va_S A s.heap H locs) (hl : lvO ls nL lv)
    (run : va_Run p G.1 e R s m args below meth c H locs 0 0 0 0 (F0 m pc ls st) rest (Qx ids G Qc A av) A) (k : ∀ v h', Qc v h' → V ids G own cc nL ret R (pc + 3) lv (v.toList ++ rest) h' Q) :
    W p G.1 e R s m args below meth c H locs 0 0 (MQ below (Qx ids G Q A) args s 0 0 A) (F0 m pc ls st) := by
  intro T hT X
  obtain ⟨v, st₀, t, T', L, h0, X', hL, e1, e2, ⟨⟨v', h', hv, hq, hP1, hD1⟩, hz, hk⟩, stp⟩ := run T hT X
  cases hv
  rw [h0] at hz hk
  obtain ⟨t2, a1, b1⟩ := k v h' hq p e s m args below meth c T'.heap (locs ++ L) ls A hC hr hK (by rw [e1]; exact hP1) hD1
    ⟨Nat.le_trans hS.1 (by rw [e1]; exact hz), fun q h1 h2 => by rw [e1, hk q (Nat.lt_of_lt_of_le h1 hS.1) h2]; exact hS.2.1 q h1 h2, fun q hq => by
      rcases List.mem_append.mp hq with h | h
      · exact hS.2.2 q h
      · exact hL q h⟩ hl T' rfl X'
  exact ⟨t2, stp t2 a1, b1⟩
theorem V_callS {y : MethodName} {c2 : ByteArray} {n2 : Nat} {r2 : Option FieldType} {R2 : Room} {av : List Value} {Qc : Option Value → Mem → Prop} {index : Nat} {rest : List Value} (hM : Ct ids G y c2 n2 r2 R2 av h Qc) (hlink : Cond.methodLink own index y ∈ Ug) (hst : Cond.static y ∈ Ug) (hini : Cond.initialized y.cls ∈ Ug) (hcode : Cond.code y c2 n2 r2 ∈ Ug) (ho : mOK y av.length) (hR : rOK R R2 n2)
    (hs : st = av.reverse ++ rest) (hw : (rest.map fun v => v.category).sum ≤ 8) (hd : decode cc pc = .ok (.invokestatic index, 3)) (k : ∀ v h', Qc v h' → V ids G own cc nL ret R (pc + 3) lv (v.toList ++ rest) h' Q) : V ids G own cc nL ret R pc lv st h Q := by
  intro p e s m args below meth c H locs ls A hC hr hK hP hD hS hl
  refine V_run (ls := ls) hC hr hK hS hl (va_runS (As := av) (rest := rest) hC (hM A) ⟨callB_of av.length hC.2.2.2.2 (good_code hcode) rfl hR.1 hR.2.1 (hC.2.2.2.2 _ hini) (hC.2.2.2.2 _ hlink) ho hR.2.2, hC.2.2.2.2 _ hst⟩ ⟨Pc_blind, fun U hU hW => ⟨rfl, by rw [hU]; exact hP, ⟨va_K.moved hW.alike hK.1, hK.2.warm hW⟩, hD⟩⟩ rfl rfl hl.1 hs (by show 2 * 0 + _ ≤ 8; omega) hd ⟨Nat.zero_le _, Nat.zero_le _⟩) k
theorem V_callSN {y : MethodName} {c2 : ByteArray} {n2 : Nat} {r2 : Option FieldType} {R2 : Room} {av : List Value} {Qc : Option Value → Mem → Prop} {index : Nat} {rest : List Value} {host : String} (hM : Ct ids G y c2 n2 r2 R2 av h Qc) (hlink : Cond.methodLinkNest own index y host ∈ nestW) (hst : Cond.static y ∈ Ug) (hini : Cond.initialized y.cls ∈ Ug) (hcode : Cond.code y c2 n2 r2 ∈ Ug) (ho : mOK y av.length) (hR : rOK R R2 n2)
    (hs : st = av.reverse ++ rest) (hw : (rest.map fun v => v.category).sum ≤ 8) (hd : decode cc pc = .ok (.invokestatic index, 3)) (k : ∀ v h', Qc v h' → V ids G own cc nL ret R (pc + 3) lv (v.toList ++ rest) h' Q) : V ids G own cc nL ret R pc lv st h Q := by
  intro p e s m args below meth c H locs ls A hC hr hK hP hD hS hl
  refine V_run (ls := ls) hC hr hK hS hl (va_runSN (As := av) (rest := rest) hC (hM A) ⟨va_cnB av.length hC.2.2.2.2 (good_code hcode) rfl hR.1 hR.2.1 (hK.2 _ hlink) (hC.2.2.2.2 _ hini) ho hR.2.2, hC.2.2.2.2 _ hst, trivial⟩ ⟨Pc_blind, fun U hU hW => ⟨rfl, by rw [hU]; exact hP, ⟨va_K.moved hW.alike hK.1, hK.2.warm hW⟩, hD⟩⟩ rfl rfl hl.1 hs (by show 2 * 0 + _ ≤ 8; omega) hd ⟨Nat.zero_le _, Nat.zero_le _⟩) k
theorem V_callV {y : MethodName} {C : String} {c2 : ByteArray} {n2 : Nat} {r2 : Option FieldType} {R2 : Room} {av : List Value} {Qc : Option Value → Mem → Prop} {index : Nat} {rest : List Value} {b ci : Nat} {fs : List Value} {T : u_T} {N : Nat} (hM : Ct ids G y c2 n2 r2 R2 (.ref (ad G b) :: av) h Qc) (hlink : Cond.methodLink own index y ∈ Ug) (hin : Cond.instanceMethod y ∈ Ug) (hsel : Cond.selects C y y ∈ Ug) (hini : Cond.initialized y.cls ∈ Ug) (hcode : Cond.code y c2 n2 r2 ∈ Ug) (ho : mOK y av.length) (hR : rOK R R2 n2)
    (hm : b ∈ ids) (hcell : cellR G b (h b) = .inr (ci, fs)) (hc : vwCl[ci]? = some (C, T, N))
    (hs : st = av.reverse ++ .ref (ad G b) :: rest) (hw : (rest.map fun v => v.category).sum ≤ 8) (hd : decode cc pc = .ok (.invokevirtual index, 3)) (k : ∀ v h', Qc v h' → V ids G own cc nL ret R (pc + 3) lv (v.toList ++ rest) h' Q) : V ids G own cc nL ret R pc lv st h Q := by
  intro p e s m args below meth c H locs ls A hC hr hK hP hD hS hl
  obtain ⟨q0, hq0, hwb⟩ := wsM_at (G := G) (h := h) hm
  rw [hcell] at hwb
  refine V_run (ls := ls) hC hr hK hS hl (va_runV (C := C) (As := av) (rest := rest) hC (hM A) ⟨callB_of av.length hC.2.2.2.2 (good_code hcode) rfl hR.1 hR.2.1 (hC.2.2.2.2 _ hini) (hC.2.2.2.2 _ hlink) ho hR.2.2, hC.2.2.2.2 _ hin, hC.2.2.2.2 _ hsel⟩ ⟨Pc_blind, va_recv hK.1 hP hc hwb, fun U hU hW => ⟨rfl, by rw [hU]; exact hP, ⟨va_K.moved hW.alike hK.1, hK.2.warm hW⟩, hD⟩⟩ rfl rfl hl.1 hs (by show 2 * 0 + _ ≤ 8; omega) hd ⟨Nat.zero_le _, Nat.zero_le _⟩) k
end VM
