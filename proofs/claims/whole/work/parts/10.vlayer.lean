/-! ===== the memory: every cell has a number; what it holds of ints is a function of that number and a place ===== -/
abbrev GE : Type := Launch × va_G × (Nat → ClassId) × (Nat → Nat)
abbrev Mem : Type := Nat → Nat → Int32
def ad (G : GE) (c : Nat) : Nat := G.2.2.2 c
def Ug : List Cond := lw_tbl.filter goodWord
theorem ug_in {w : Cond} (i : Nat) (h : tables_1[i]? = some w) (hg : goodWord w = true) : w ∈ Ug := List.mem_filter.mpr ⟨List.mem_append_right _ (List.mem_of_getElem? h), hg⟩
theorem ug_sel (q : MethodName × Nat) (i : Nat) (h : lw_privs[i]? = some q) : Cond.selects q.1.cls q.1 q.1 ∈ Ug := List.mem_filter.mpr ⟨List.mem_append_left _ (List.mem_map.mpr ⟨q, List.mem_of_getElem? h, rfl⟩), rfl⟩
theorem ug_good : GoodIn Ug Ug := fun w hw => ⟨hw, good_of_word (List.mem_filter.mp hw).2⟩
def isNest : Cond → Bool
  | .fieldLinkNest _ _ _ _ _ _ => true
  | .methodLinkNest _ _ _ _ => true
  | _ => false
def nestW : List Cond := tables_1.filter isNest
def NL (U : State) : Prop := ∀ w ∈ nestW, va_Nw w U
theorem nl_in {w : Cond} (i : Nat) (h : tables_1[i]? = some w) (hg : isNest w = true) : w ∈ nestW := List.mem_filter.mpr ⟨List.mem_of_getElem? h, hg⟩
theorem NL.warm {s U : State} (hW : s.WarmedH U.vm) (h : NL s) : NL U := by
  intro w hw
  have h1 := h w hw
  have h2 := (List.mem_filter.mp hw).2
  cases w <;> first | exact va_Nw.warmF hW h1 | exact va_Nw.warmM hW h1 | (exact absurd h2 (by simp [isNest]))
theorem NL.same {s U : State} (hv : s.vm = U.vm) (h : NL s) : NL U := by
  intro w hw
  have h1 := h w hw
  have h2 := (List.mem_filter.mp hw).2
  cases w <;> first | exact va_Nw.same rfl hv h1 | (exact absurd h2 (by simp [isNest]))
/-- a cell of that number, its ints being r -/
def cellR (G : GE) (c : Nat) (r : Nat → Int32) : va_E := match c with
  | 0 => .inr (5, [.ref (ad G 1), .ref (ad G 2), .ref (ad G 3), .ref (ad G 4), .ref (ad G 5), .ref (ad G 6), .ref (ad G 7), .int (r 7), .int (r 8), .int (r 9), .int (r 10)])
  | 1 => .inl (G.2.2.1 3, 8, .inr (.inr (.inr (.inr (fun i => some (ad G (20 + i)))))))
  | 2 => .inl (G.2.2.1 0, 12, .inl r)
  | 3 => .inl (G.2.2.1 2, 12, .inr (.inr (.inr (.inr (fun i => some (ad G (40 + i)))))))
  | 4 => .inr (2, [.ref (ad G 8), .ref (ad G 9), .ref (ad G 10), .ref (ad G 11), .int (r 4), .int (r 5)])
  | 5 => .inr (0, [.ref (ad G 13), .ref (ad G 14), .ref (ad G 15), .int (r 3), .int (r 4), .int (r 5)])
  | 6 => .inr (4, [.ref (ad G 16), .ref (ad G 17), .ref (ad G 18), .int (r 3)])
  | 7 => .inl (G.2.2.1 0, 16, .inl r)
  | 8 => .inl (G.2.2.1 1, 100, .inl r)
  | 9 => .inl (G.2.2.1 0, 100, .inl r)
  | 10 => .inl (G.2.2.1 0, 200, .inl r)
  | 11 => .inl (G.2.2.1 1, 100, .inl r)
  | 13 => .inl (G.2.2.1 0, 100, .inl r)
  | 14 => .inl (G.2.2.1 0, 400, .inl r)
  | 15 => .inl (G.2.2.1 0, 100, .inl r)
  | 16 => .inl (G.2.2.1 0, 12, .inl r)
  | 17 => .inl (G.2.2.1 0, 12, .inl r)
  | 18 => .inl (G.2.2.1 0, 12, .inl r)
  | 100 => .inr (6, [.int (r 0), .int (r 1), .ref (ad G 102), .ref (ad G 103), .ref (ad G 104), .ref (ad G 105), .int (r 6), .ref (ad G 107), .int (r 8), .ref (ad G 109), .ref (ad G 110), .ref (ad G 111), .ref (ad G 112), .ref (ad G 113), .ref (ad G 114), .ref (ad G 115), .ref (ad G 116), .ref (ad G 117), .ref (ad G 118), .ref (ad G 119), .ref (ad G 120), .int (r 21)])
  | 102 => .inl (G.2.2.1 0, 8, .inl r)
  | 103 => .inl (G.2.2.1 0, 8, .inl r)
  | 104 => .inl (G.2.2.1 0, 480, .inl r)
  | 105 => .inl (G.2.2.1 1, 100, .inl r)
  | 107 => .inl (G.2.2.1 0, 12, .inl r)
  | 109 => .inl (G.2.2.1 0, 12, .inl r)
  | 110 => .inl (G.2.2.1 0, 12, .inl r)
  | 111 => .inl (G.2.2.1 0, 12, .inl r)
  | 112 => .inl (G.2.2.1 0, 1200, .inl r)
  | 113 => .inl (G.2.2.1 1, 2160, .inl r)
  | 114 => .inl (G.2.2.1 0, 2, .inl r)
  | 115 => .inl (G.2.2.1 0, 100, .inl r)
  | 116 => .inl (G.2.2.1 0, 100, .inl r)
  | 117 => .inl (G.2.2.1 0, 180, .inl r)
  | 118 => .inl (G.2.2.1 0, 100, .inl r)
  | 119 => .inl (G.2.2.1 0, 12, .inl r)
  | 120 => .inl (G.2.2.1 0, 16, .inl r)
  | c => if c < 30 then .inr (3, [.ref (ad G (c + 10)), .int (r 1), .int (r 2)])
    else if c < 40 then .inl (G.2.2.1 0, 60, .inl r)
    else if c < 60 then .inr (1, [.int (r 0), .ref (ad G (c + 20)), .int (r 2), .int (r 3), .int (r 4)])
    else .inl (G.2.2.1 0, 100, .inl r)
def idsA : List Nat := List.range 12 ++ ((List.range 6).map (13 + ·) ++ ((List.range 8).map (20 + ·) ++ ((List.range 8).map (30 + ·) ++ ((List.range 12).map (40 + ·) ++ (List.range 12).map (60 + ·)))))
def idsB : List Nat := [100, 102, 103, 104, 105, 107, 109, 110, 111, 112, 113, 114, 115, 116, 117, 118, 119, 120]
def wsM (ids : List Nat) (G : GE) (h : Mem) : va_W := ids.map (fun c => (ad G c, cellR G c (h c)))
def tysG (G : GE) : List (ClassId × FieldType) := [(G.2.2.1 0, .int), (G.2.2.1 1, .boolean), (G.2.2.1 2, .object "LineBundles$Line"), (G.2.2.1 3, .object "LineBundles$Sheet")]
def wr (h : Mem) (c j : Nat) (v : Int32) : Mem := va_up h c (upd (h c) j v)
theorem wsM_at {ids : List Nat} {G : GE} {h : Mem} {c : Nat} (hm : c ∈ ids) : ∃ k : Nat, ids[k]? = some c ∧ (wsM ids G h)[k]? = some (ad G c, cellR G c (h c)) := by
  obtain ⟨k, hk⟩ := List.getElem?_of_mem hm
  exact ⟨k, hk, by rw [wsM, List.getElem?_map, hk]; rfl⟩
theorem wsM_set {ids : List Nat} {G : GE} {h : Mem} {A : Nat → Prop} {k c : Nat} {f : Nat → Int32} (hD : va_D A (wsM ids G h)) (hk : ids[k]? = some c) : (wsM ids G h).set k (ad G c, cellR G c f) = wsM ids G (va_up h c f) := by
  have hw : (wsM ids G h)[k]? = some (ad G c, cellR G c (h c)) := by rw [wsM, List.getElem?_map, hk]; rfl
  apply List.ext_getElem?
  intro j
  by_cases hj : j = k
  · subst hj
    rw [List.getElem?_set_self (List.getElem?_eq_some_iff.mp hw).1, wsM, List.getElem?_map, hk]
    simp [va_up]
  · rw [List.getElem?_set_ne (Ne.symm hj), wsM, wsM, List.getElem?_map, List.getElem?_map]
    cases hc : ids[j]? with
    | none => rfl
    | some c' =>
      have hne : c' ≠ c := by
        intro e
        subst e
        have hw2 : (wsM ids G h)[j]? = some (ad G c', cellR G c' (h c')) := by rw [wsM, List.getElem?_map, hc]; rfl
        exact hj (hD.1 j k _ _ hw2 hw rfl)
      simp [va_up, hne]
/-! ===== V: the machine at a frame of a method over the memory ===== -/
abbrev OV : Type := Option Value
def lvO (ls : Array Slot) (nL : Nat) (lv : List OV) : Prop := ls.size = nL ∧ lv_wf ls ∧ ∀ (i : Nat) (v : Value), lv[i]? = some (some v) → ls[i]? = some (.val v)
def HK (G : GE) (U : State) : Prop := va_K G.2.1 vwCl (tysG G) U ∧ NL U
def Qx (ids : List Nat) (G : GE) (Q : Option Value → Mem → Prop) (A : Nat → Prop) : Array Value → State → Outcome → State → Prop := fun _ st oc t =>
  (∃ (v : Option Value) (h : Mem), oc = .returned v ∧ Q v h ∧ va_P G.2.1 vwCl (wsM ids G h) t.heap ∧ va_D A (wsM ids G h)) ∧ va_F A st t
def V (ids : List Nat) (G : GE) (own : String) (cc : ByteArray) (nL : Nat) (ret : Option FieldType) (R : Room) (pc : Nat) (lv : List OV) (st : List Value) (h : Mem) (Q : Option Value → Mem → Prop) : Prop :=
  ∀ (p : Program) (e : Env) (s : State) (m : MethodId) (args : Array Value) (below : List Frame) (meth : Method) (c : Code) (H : Heap) (locs : List Loc) (ls : Array Slot) (A : Nat → Prop),
    CallFix p m c cc nL s args Ug own → meth.sig.returnType = ret ∧ meth.locks = false → HK G s → va_P G.2.1 vwCl (wsM ids G h) H → va_D A (wsM ids G h) → va_S A s.heap H locs → lvO ls nL lv →
    W p G.1 e R s m args below meth c H locs 0 0 (MQ below (Qx ids G Q A) args s 0 0 A) (F0 m pc ls st)
/-- a contract: from the memory h, with these arguments -/
def Ct (ids : List Nat) (G : GE) (y : MethodName) (cc : ByteArray) (nL : Nat) (ret : Option FieldType) (R : Room) (av : List Value) (h : Mem) (Q : Option Value → Mem → Prop) : Prop :=
  ∀ A : Nat → Prop, Met G.1 y (.code y cc nL ret :: Ug) R (va_Pc av (fun U => va_P G.2.1 vwCl (wsM ids G h) U.heap ∧ HK G U ∧ va_D A (wsM ids G h))) (Qx ids G Q A) 0 0 A
theorem Ct.of {ids : List Nat} {G : GE} {y : MethodName} {cc : ByteArray} {nL : Nat} {ret : Option FieldType} {R : Room} {av : List Value} {h : Mem} {Q : Option Value → Mem → Prop} (lv : List OV) (hy : plainName y.cls = true)
    (hn : (lg_sl av).length ≤ nL) (hlv : ∀ (i : Nat) (v : Value), lv[i]? = some (some v) → (i, v) ∈ lv_args 0 av) (k : V ids G y.cls cc nL ret R 0 lv [] h Q) : Ct ids G y cc nL ret R av h Q := by
  intro A
  refine Met.ofW (cc := cc) (maxL := nL) (ret := ret) hy rfl ?_
  intro p e s m args below meth c s₁ B hml hv
  obtain ⟨rfl, hP, hK, hD⟩ := hv
  have hts := atoms_spec (ws := .code y cc nL ret :: Ug) B.pre
  have hown : s.vm.findClass y.cls = some m.cls := findClass_of_methodNamed B.named
  have hl := lv_entry av (n := nL) hn
  rw [lg_entry_eq]
  exact k p e s m av.toArray below meth c s.heap [] _ A ⟨B.exec, B.bytes, hml, hown, fun w hw => hts w (List.mem_cons_of_mem _ hw)⟩ ⟨B.returns, B.notSynchronized⟩ hK hP hD va_S.rf ⟨hl.1, hl.2.1, fun i v hiv => hl.2.2 (i, v) (hlv i v hiv)⟩
