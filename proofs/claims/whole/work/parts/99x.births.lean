/-! ===== births: constructors, over a world that grows ===== -/
def tyK : Nat → FieldType
  | 0 => .int
  | 1 => .boolean
  | 2 => .object "LineBundles$Line"
  | _ => .object "LineBundles$Sheet"
def tysK (G : GE) (K : List Nat) : List (ClassId × FieldType) := K.map (fun k => (G.2.2.1 k, tyK k))
def NM (G : GE) (s : State) : Prop := ∀ k, k < 4 → ∀ cA, va_RA s cA (tyK k) → cA = G.2.2.1 k
def HN (G : GE) (K : List Nat) (s : State) : Prop := va_K G.2.1 vwCl (tysK G K) s ∧ NL s ∧ va_AO "LineBundles$Sheet" s ∧ va_AO "LineBundles$Line" s ∧ NM G s
theorem HN.warm {G : GE} {K : List Nat} {s U : State} (hW : s.WarmedH U.vm) (h : HN G K s) : HN G K U :=
  ⟨va_K.moved hW.alike h.1, h.2.1.warm hW, h.2.2.1.moved hW.alike, h.2.2.2.1.moved hW.alike, fun k hk cA q => h.2.2.2.2 k hk cA (q.moved hW.alike.symm)⟩
theorem HN.call {G : GE} {K : List Nat} {U : State} {g : JFrame} {mk : MethodId} {a : Array Value} (h : HN G K U) : HN G K (U.calling g mk a) :=
  ⟨va_K.moved (u := U) (U := U.calling g mk a) (Vm.Alike.refl U.vm) h.1, NL.same (s := U) (U := U.calling g mk a) rfl h.2.1, h.2.2.1.moved (u := U) (U := U.calling g mk a) (Vm.Alike.refl U.vm), h.2.2.2.1.moved (u := U) (U := U.calling g mk a) (Vm.Alike.refl U.vm), fun k hk cA q => h.2.2.2.2 k hk cA (q.moved (u := U.calling g mk a) (U := U) (Vm.Alike.refl U.vm))⟩
theorem va_K_cons {D : va_G} {cl : List vw_C} {t : List (ClassId × FieldType)} {x : ClassId × FieldType} {s : State} (h : va_K D cl (t ++ [x]) s) : va_K D cl (x :: t) s := by
  refine ⟨h.1, fun j y hy => ?_⟩
  cases j with
  | zero => exact h.2 t.length y (by rw [List.getElem?_append_right (Nat.le_refl _), Nat.sub_self]; exact hy)
  | succ j =>
    rw [List.getElem?_cons_succ] at hy
    exact h.2 j y (by rw [List.getElem?_append_left (List.getElem?_eq_some_iff.mp hy).1]; exact hy)
theorem va_K_sub {D : va_G} {cl : List vw_C} {t u : List (ClassId × FieldType)} {s : State} (h : va_K D cl t s) (hs : ∀ x ∈ u, x ∈ t) : va_K D cl u s := by
  refine ⟨h.1, fun j y hy => ?_⟩
  obtain ⟨k, hk⟩ := List.getElem?_of_mem (hs y (List.mem_of_getElem? hy))
  exact h.2 k y hk
theorem va_K_app {D : va_G} {cl : List vw_C} {t u : List (ClassId × FieldType)} {s : State} (h : va_K D cl t s) (h2 : va_K D cl u s) : va_K D cl (t ++ u) s := by
  refine ⟨h.1, fun j y hy => ?_⟩
  rcases List.mem_append.mp (List.mem_of_getElem? hy) with z | z
  · obtain ⟨k, hk⟩ := List.getElem?_of_mem z
    exact h.2 k y hk
  · obtain ⟨k, hk⟩ := List.getElem?_of_mem z
    exact h2.2 k y hk
theorem tysK_app (G : GE) (K K2 : List Nat) : tysK G (K ++ K2) = tysK G K ++ tysK G K2 := List.map_append
theorem tysK_sub {G : GE} {K K2 : List Nat} (h : ∀ k ∈ K2, k ∈ K) : ∀ x ∈ tysK G K2, x ∈ tysK G K := fun x hx => by
  obtain ⟨k, hk, rfl⟩ := List.mem_map.mp hx
  exact List.mem_map.mpr ⟨k, h k hk, rfl⟩
def Qn (G : GE) (KF : List Nat) (Q : va_W → Prop) (A : Nat → Prop) : Array Value → State → Outcome → State → Prop := fun _ st oc t =>
  (∃ ws, oc = .returned none ∧ Q ws ∧ va_P G.2.1 vwCl ws t.heap ∧ va_D A ws ∧ va_K G.2.1 vwCl (tysK G KF) t) ∧ va_F A st t
def NV (G : GE) (own : String) (cc : ByteArray) (nL : Nat) (R : Room) (KF : List Nat) (kc ks : Nat) (K : List Nat) (pc : Nat) (lv : List OV) (st : List Value) (ws : va_W) (Q : va_W → Prop) : Prop :=
  ∀ (p : Program) (e : Env) (s : State) (m : MethodId) (args : Array Value) (below : List Frame) (meth : Method) (c : Code) (H : Heap) (locs : List Loc) (ls : Array Slot) (A : Nat → Prop),
    CallFix p m c cc nL s args Ug own → (meth.sig.returnType = none ∧ meth.locks = false ∧ meth.name = "<init>") → HN G K s → va_P G.2.1 vwCl ws H → va_D A ws → (va_S A s.heap H locs ∧ ∀ q : Nat, s.heap.size ≤ q → A q) → lvO ls nL lv →
    W p G.1 e R s m args below meth c H locs kc ks (MQ below (Qn G KF Q A) args s R.cells R.slots A) (F0 m pc ls st)
def Cn (G : GE) (y : MethodName) (cc : ByteArray) (nL : Nat) (R : Room) (KF K : List Nat) (av : List Value) (ws : va_W) (Q : va_W → Prop) : Prop :=
  ∀ sz : Nat, Met G.1 y (.code y cc nL none :: Ug) R (va_Pc av (fun U => U.heap.size = sz ∧ va_P G.2.1 vwCl ws U.heap ∧ HN G K U ∧ va_D (fun _ => True) ws)) (Qn G KF Q (va_A ws sz)) R.cells R.slots (va_A ws sz)
theorem Cn.of {G : GE} {y : MethodName} {cc : ByteArray} {nL : Nat} {R : Room} {KF K : List Nat} {av : List Value} {ws : va_W} {Q : va_W → Prop} (lv : List OV) (hy : plainName y.cls = true) (hi : y.name = "<init>")
    (hn : (lg_sl av).length ≤ nL) (hlv : ∀ (i : Nat) (v : Value), lv[i]? = some (some v) → (i, v) ∈ lv_args 0 av) (k : NV G y.cls cc nL R KF 0 0 K 0 lv [] ws Q) : Cn G y cc nL R KF K av ws Q := by
  intro sz
  refine Met.ofW (cc := cc) (maxL := nL) (ret := none) hy rfl ?_
  intro p e s m args below meth c s₁ B hml hv
  obtain ⟨rfl, hsz, hP, hK, hD0⟩ := hv
  subst hsz
  have hts := atoms_spec (ws := .code y cc nL none :: Ug) B.pre
  have hown : s.vm.findClass y.cls = some m.cls := findClass_of_methodNamed B.named
  have hl := lv_entry av (n := nL) hn
  rw [lg_entry_eq]
  exact k p e s m av.toArray below meth c s.heap [] _ (va_A ws s.heap.size) ⟨B.exec, B.bytes, hml, hown, fun w hw => hts w (List.mem_cons_of_mem _ hw)⟩ ⟨B.returns, B.notSynchronized, ((name_of_methodNamed B.named B.method).1).trans hi⟩ hK hP hD0.self ⟨va_S.rf, fun q h => Or.inr h⟩ ⟨hl.1, hl.2.1, fun i v hiv => hl.2.2 (i, v) (hlv i v hiv)⟩
theorem Pn_blind {G : GE} {K : List Nat} {sz : Nat} {ws : va_W} {av : List Value} : FrameBlind (va_Pc av (fun U => U.heap.size = sz ∧ va_P G.2.1 vwCl ws U.heap ∧ HN G K U ∧ va_D (fun _ => True) ws)) := by
  intro a U g mk q
  obtain ⟨q0, q1, qP, qK, qD⟩ := q
  exact ⟨q0, q1, qP, qK.call, qD⟩
theorem va_nd_of : ∀ {l : List Nat}, l.Nodup → va_nd l = true
  | [], _ => rfl
  | a :: l, h => by
    obtain ⟨h1, h2⟩ := List.nodup_cons.mp h
    show (decide (a ∉ l) && va_nd l) = true
    rw [va_nd_of h2, Bool.and_true]
    exact decide_eq_true h1
theorem va_nd_range (n : Nat) : va_nd (List.range n) = true := va_nd_of List.nodup_range
theorem W_callN {p : Program} {e : Env} {s : State} {m : MethodId} {args : Array Value} {below : List Frame} {meth : Method} {c : Code} {H : Heap} {locs : List Loc} {ls : Array Slot} {A : Nat → Prop} {rest st0 : List Value} {G : GE} {R : Room} {kc ks mc ms pc : Nat} {KF : List Nat} {Qc : va_W → Prop} {av : Array Value} {ws : va_W} {x : Nat × va_E} {Qf : State → Prop}
    (run : va_Run p G.1 e R s m args below meth c H locs kc ks mc ms (F0 m pc ls st0) rest (Qn G KF Qc (va_A [x] H.size) av) (va_A [x] H.size)) (hP : va_P G.2.1 vwCl (ws ++ [x]) H) (hD : va_D A (ws ++ [x])) (hS : va_S A s.heap H locs) (hA : ∀ q : Nat, s.heap.size ≤ q → A q)
    (kk : ∀ w1 H1 locs1, Qc w1 → va_P G.2.1 vwCl (ws ++ w1) H1 → va_D A (ws ++ w1) → va_S A s.heap H1 locs1 → va_K G.2.1 vwCl (tysK G KF) s → W p G.1 e R s m args below meth c H1 locs1 (kc + mc) (ks + ms) Qf (F0 m (pc + 3) ls rest)) : W p G.1 e R s m args below meth c H locs kc ks Qf (F0 m pc ls st0) := by
  intro T hT X
  obtain ⟨v, st₀, t, T', L, h0, X', hL, e1, e2, ⟨⟨w1, hv, hq, hP1, hD1, hK1⟩, hz, hk⟩, stp⟩ := run T hT X
  cases hv
  rw [h0] at hz hk
  have hF : ∀ q, va_A [x] H.size q → A q := va_free hD hS hA [ws.length] (by simp)
  obtain ⟨hP2, hD2⟩ := va_join (wr := ws) (w1 := w1) (wc := [x]) hP hD [ws.length] (List.range ws.length) (by simp) (by
    apply List.ext_getElem?
    intro j
    rw [List.getElem?_map, List.getElem?_map]
    by_cases hj : j < ws.length
    · rw [List.getElem?_range hj, List.getElem?_eq_getElem hj]
      show some ((ws ++ [x])[j]?) = some (some ws[j])
      rw [List.getElem?_append_left hj, List.getElem?_eq_getElem hj]
    · rw [List.getElem?_eq_none (by rw [List.length_range]; omega), List.getElem?_eq_none (by omega)]
      rfl) (va_nd_range _) (fun i hi h2 => by
    rw [List.mem_range] at hi
    rw [List.mem_singleton] at h2
    omega) hk hF hP1 hD1
  obtain ⟨t2, a1, b1⟩ := kk w1 T'.heap (locs ++ L) hq (by rw [e1]; exact hP2) hD2
    ⟨Nat.le_trans hS.1 (by rw [e1]; exact hz), fun q h1 h2 => by rw [e1, hk q (Nat.lt_of_lt_of_le h1 hS.1) (fun z => h2 (hF q z))]; exact hS.2.1 q h1 h2, fun q hq => by
      rcases List.mem_append.mp hq with h | h
      · exact hS.2.2 q h
      · exact hF _ (hL q h)⟩ (va_K.moved (by rw [← e2]; exact X'.warmed.alike.symm) hK1) T' rfl X'
  exact ⟨t2, stp t2 a1, b1⟩
section NB
variable {G : GE} {own : String} {cc : ByteArray} {nL : Nat} {R : Room} {KF : List Nat} {kc ks : Nat} {K : List Nat} {pc : Nat} {lv : List OV} {st : List Value} {ws : va_W} {Q : va_W → Prop}
theorem N_iadd {x y : Int32} (hd : decode cc pc = .ok (.iadd, 1)) (k : NV G own cc nL R KF kc ks K (pc + 1) lv (.int (x + y) :: st) ws Q) : NV G own cc nL R KF kc ks K pc lv (.int y :: .int x :: st) ws Q :=
  fun p e s m args below meth c H locs ls A hC hr hK hP hD hS hl => lv_iadd hC.1 hC.2.1 hd  (k p e s m args below meth c H locs ls A hC hr hK hP hD hS hl)
theorem N_isub {x y : Int32} (hd : decode cc pc = .ok (.isub, 1)) (k : NV G own cc nL R KF kc ks K (pc + 1) lv (.int (x - y) :: st) ws Q) : NV G own cc nL R KF kc ks K pc lv (.int y :: .int x :: st) ws Q :=
  fun p e s m args below meth c H locs ls A hC hr hK hP hD hS hl => lv_isub hC.1 hC.2.1 hd  (k p e s m args below meth c H locs ls A hC hr hK hP hD hS hl)
theorem N_iand {x y : Int32} (hd : decode cc pc = .ok (.iand, 1)) (k : NV G own cc nL R KF kc ks K (pc + 1) lv (.int (x &&& y) :: st) ws Q) : NV G own cc nL R KF kc ks K pc lv (.int y :: .int x :: st) ws Q :=
  fun p e s m args below meth c H locs ls A hC hr hK hP hD hS hl => lv_iand hC.1 hC.2.1 hd  (k p e s m args below meth c H locs ls A hC hr hK hP hD hS hl)
theorem N_ishl {x y : Int32} (hd : decode cc pc = .ok (.ishl, 1)) (k : NV G own cc nL R KF kc ks K (pc + 1) lv (.int (x <<< (y &&& 31)) :: st) ws Q) : NV G own cc nL R KF kc ks K pc lv (.int y :: .int x :: st) ws Q :=
  fun p e s m args below meth c H locs ls A hC hr hK hP hD hS hl => lv_ishl hC.1 hC.2.1 hd  (k p e s m args below meth c H locs ls A hC hr hK hP hD hS hl)
theorem N_imul {x y : Int32} (hd : decode cc pc = .ok (.imul, 1)) (k : NV G own cc nL R KF kc ks K (pc + 1) lv (.int (x * y) :: st) ws Q) : NV G own cc nL R KF kc ks K pc lv (.int y :: .int x :: st) ws Q :=
  fun p e s m args below meth c H locs ls A hC hr hK hP hD hS hl => lv_imul hC.1 hC.2.1 hd  (k p e s m args below meth c H locs ls A hC hr hK hP hD hS hl)
theorem N_iconst {n : Int} (v : Int32) (hd : decode cc pc = .ok (.iconst n, 1)) (hv : Int32.ofInt n = v) (k : NV G own cc nL R KF kc ks K (pc + 1) lv (.int v :: st) ws Q) : NV G own cc nL R KF kc ks K pc lv st ws Q :=
  fun p e s m args below meth c H locs ls A hC hr hK hP hD hS hl => lv_iconst hC.1 hC.2.1 hd hv (k p e s m args below meth c H locs ls A hC hr hK hP hD hS hl)
theorem N_bipush {n : Int} (v : Int32) (hd : decode cc pc = .ok (.bipush n, 2)) (hv : (Int8.ofInt n).toInt32 = v) (k : NV G own cc nL R KF kc ks K (pc + 2) lv (.int v :: st) ws Q) : NV G own cc nL R KF kc ks K pc lv st ws Q :=
  fun p e s m args below meth c H locs ls A hC hr hK hP hD hS hl => lv_bipush hC.1 hC.2.1 hd hv (k p e s m args below meth c H locs ls A hC hr hK hP hD hS hl)
theorem N_sipush {n : Int} (v : Int32) (hd : decode cc pc = .ok (.sipush n, 3)) (hv : (Int16.ofInt n).toInt32 = v) (k : NV G own cc nL R KF kc ks K (pc + 3) lv (.int v :: st) ws Q) : NV G own cc nL R KF kc ks K pc lv st ws Q :=
  fun p e s m args below meth c H locs ls A hC hr hK hP hD hS hl => lv_sipush hC.1 hC.2.1 hd hv (k p e s m args below meth c H locs ls A hC hr hK hP hD hS hl)
theorem N_dup {va : Value} (hd : decode cc pc = .ok (.dup, 1)) (h1 : va.category = 1) (k : NV G own cc nL R KF kc ks K (pc + 1) lv (va :: va :: st) ws Q) : NV G own cc nL R KF kc ks K pc lv (va :: st) ws Q :=
  fun p e s m args below meth c H locs ls A hC hr hK hP hD hS hl => lv_dup hC.1 hC.2.1 hd h1 (k p e s m args below meth c H locs ls A hC hr hK hP hD hS hl)
theorem N_goto {off : Int} (tgt : Nat) (hd : decode cc pc = .ok (.goto off, 3)) (ht : (pc : Int) + off = (tgt : Int)) (k : NV G own cc nL R KF kc ks K tgt lv st ws Q) : NV G own cc nL R KF kc ks K pc lv st ws Q :=
  fun p e s m args below meth c H locs ls A hC hr hK hP hD hS hl => lv_goto hC.1 hC.2.1 hd ht (k p e s m args below meth c H locs ls A hC hr hK hP hD hS hl)
theorem N_icmp_ge {x y : Int32} {off : Int} (tgt : Nat) (hd : decode cc pc = .ok (.if_icmp .ge off, 3)) (ht : (pc : Int) + off = (tgt : Int)) (kt : y ≤ x → NV G own cc nL R KF kc ks K tgt lv st ws Q) (kf : ¬ y ≤ x → NV G own cc nL R KF kc ks K (pc + 3) lv st ws Q) : NV G own cc nL R KF kc ks K pc lv (.int y :: .int x :: st) ws Q :=
  fun p e s m args below meth c H locs ls A hC hr hK hP hD hS hl => lv_icmp_ge hC.1 hC.2.1 hd ht (fun q => kt q p e s m args below meth c H locs ls A hC hr hK hP hD hS hl) (fun q => kf q p e s m args below meth c H locs ls A hC hr hK hP hD hS hl)
theorem N_icmp_eq {x y : Int32} {off : Int} (tgt : Nat) (hd : decode cc pc = .ok (.if_icmp .eq off, 3)) (ht : (pc : Int) + off = (tgt : Int)) (kt : x = y → NV G own cc nL R KF kc ks K tgt lv st ws Q) (kf : ¬ x = y → NV G own cc nL R KF kc ks K (pc + 3) lv st ws Q) : NV G own cc nL R KF kc ks K pc lv (.int y :: .int x :: st) ws Q :=
  fun p e s m args below meth c H locs ls A hC hr hK hP hD hS hl => lv_icmp_eq hC.1 hC.2.1 hd ht (fun q => kt q p e s m args below meth c H locs ls A hC hr hK hP hD hS hl) (fun q => kf q p e s m args below meth c H locs ls A hC hr hK hP hD hS hl)
theorem N_tableIn {dflt lo hi : Int} {offs : Array Int} {len : Nat} {x : Int32} {off : Int} (tgt : Nat) (hd : decode cc pc = .ok (.tableswitch dflt lo hi offs, len)) (h1 : ¬ x.toInt < lo) (h2 : ¬ hi < x.toInt) (ho : offs[(x.toInt - lo).toNat]? = some off) (ht : (pc : Int) + off = (tgt : Int)) (k : NV G own cc nL R KF kc ks K tgt lv st ws Q) : NV G own cc nL R KF kc ks K pc lv (.int x :: st) ws Q :=
  fun p e s m args below meth c H locs ls A hC hr hK hP hD hS hl => lv_tableIn hC.1 hC.2.1 hd h1 h2 ho ht (k p e s m args below meth c H locs ls A hC hr hK hP hD hS hl)
theorem N_tableOut {dflt lo hi : Int} {offs : Array Int} {len : Nat} {x : Int32} (tgt : Nat) (hd : decode cc pc = .ok (.tableswitch dflt lo hi offs, len)) (hx : x.toInt < lo ∨ hi < x.toInt) (ht : (pc : Int) + dflt = (tgt : Int)) (k : NV G own cc nL R KF kc ks K tgt lv st ws Q) : NV G own cc nL R KF kc ks K pc lv (.int x :: st) ws Q :=
  fun p e s m args below meth c H locs ls A hC hr hK hP hD hS hl => lv_tableOut hC.1 hC.2.1 hd hx ht (k p e s m args below meth c H locs ls A hC hr hK hP hD hS hl)
theorem N_ldc {index : Nat} {v : Int32} (hu : Cond.constant own index v ∈ Ug) (hd : decode cc pc = .ok (.ldc index, 2)) (k : NV G own cc nL R KF kc ks K (pc + 2) lv (.int v :: st) ws Q) : NV G own cc nL R KF kc ks K pc lv st ws Q :=
  fun p e s m args below meth c H locs ls A hC hr hK hP hD hS hl => lv_ldc hC.1 hC.2.1 hC.2.2.2.1 (hC.2.2.2.2 _ hu) hd (k p e s m args below meth c H locs ls A hC hr hK hP hD hS hl)
theorem N_iload0 {lr : List OV} {x : Int32} (hd : decode cc pc = .ok (.iload_n 0, 1)) (k : NV G own cc nL R KF kc ks K (pc + 1) (some (.int x) :: lr) (.int x :: st) ws Q) : NV G own cc nL R KF kc ks K pc (some (.int x) :: lr) st ws Q :=
  fun p e s m args below meth c H locs ls A hC hr hK hP hD hS hl => lv_iload_n hC.1 hC.2.1 hd rfl (hl.2.2 0 _ rfl) (k p e s m args below meth c H locs ls A hC hr hK hP hD hS hl)
theorem N_iload1 {a0 : OV} {lr : List OV} {x : Int32} (hd : decode cc pc = .ok (.iload_n 1, 1)) (k : NV G own cc nL R KF kc ks K (pc + 1) (a0 :: some (.int x) :: lr) (.int x :: st) ws Q) : NV G own cc nL R KF kc ks K pc (a0 :: some (.int x) :: lr) st ws Q :=
  fun p e s m args below meth c H locs ls A hC hr hK hP hD hS hl => lv_iload_n hC.1 hC.2.1 hd rfl (hl.2.2 1 _ rfl) (k p e s m args below meth c H locs ls A hC hr hK hP hD hS hl)
theorem N_iload2 {a0 a1 : OV} {lr : List OV} {x : Int32} (hd : decode cc pc = .ok (.iload_n 2, 1)) (k : NV G own cc nL R KF kc ks K (pc + 1) (a0 :: a1 :: some (.int x) :: lr) (.int x :: st) ws Q) : NV G own cc nL R KF kc ks K pc (a0 :: a1 :: some (.int x) :: lr) st ws Q :=
  fun p e s m args below meth c H locs ls A hC hr hK hP hD hS hl => lv_iload_n hC.1 hC.2.1 hd rfl (hl.2.2 2 _ rfl) (k p e s m args below meth c H locs ls A hC hr hK hP hD hS hl)
theorem N_iload3 {a0 a1 a2 : OV} {lr : List OV} {x : Int32} (hd : decode cc pc = .ok (.iload_n 3, 1)) (k : NV G own cc nL R KF kc ks K (pc + 1) (a0 :: a1 :: a2 :: some (.int x) :: lr) (.int x :: st) ws Q) : NV G own cc nL R KF kc ks K pc (a0 :: a1 :: a2 :: some (.int x) :: lr) st ws Q :=
  fun p e s m args below meth c H locs ls A hC hr hK hP hD hS hl => lv_iload_n hC.1 hC.2.1 hd rfl (hl.2.2 3 _ rfl) (k p e s m args below meth c H locs ls A hC hr hK hP hD hS hl)
theorem N_aload0 {lr : List OV} {x : Nat} (hd : decode cc pc = .ok (.aload_n 0, 1)) (k : NV G own cc nL R KF kc ks K (pc + 1) (some (.ref x) :: lr) (.ref x :: st) ws Q) : NV G own cc nL R KF kc ks K pc (some (.ref x) :: lr) st ws Q :=
  fun p e s m args below meth c H locs ls A hC hr hK hP hD hS hl => lv_aload_n hC.1 hC.2.1 hd rfl (hl.2.2 0 _ rfl) (k p e s m args below meth c H locs ls A hC hr hK hP hD hS hl)
theorem N_aload1 {a0 : OV} {lr : List OV} {x : Nat} (hd : decode cc pc = .ok (.aload_n 1, 1)) (k : NV G own cc nL R KF kc ks K (pc + 1) (a0 :: some (.ref x) :: lr) (.ref x :: st) ws Q) : NV G own cc nL R KF kc ks K pc (a0 :: some (.ref x) :: lr) st ws Q :=
  fun p e s m args below meth c H locs ls A hC hr hK hP hD hS hl => lv_aload_n hC.1 hC.2.1 hd rfl (hl.2.2 1 _ rfl) (k p e s m args below meth c H locs ls A hC hr hK hP hD hS hl)
theorem N_aload2 {a0 a1 : OV} {lr : List OV} {x : Nat} (hd : decode cc pc = .ok (.aload_n 2, 1)) (k : NV G own cc nL R KF kc ks K (pc + 1) (a0 :: a1 :: some (.ref x) :: lr) (.ref x :: st) ws Q) : NV G own cc nL R KF kc ks K pc (a0 :: a1 :: some (.ref x) :: lr) st ws Q :=
  fun p e s m args below meth c H locs ls A hC hr hK hP hD hS hl => lv_aload_n hC.1 hC.2.1 hd rfl (hl.2.2 2 _ rfl) (k p e s m args below meth c H locs ls A hC hr hK hP hD hS hl)
theorem N_aload3 {a0 a1 a2 : OV} {lr : List OV} {x : Nat} (hd : decode cc pc = .ok (.aload_n 3, 1)) (k : NV G own cc nL R KF kc ks K (pc + 1) (a0 :: a1 :: a2 :: some (.ref x) :: lr) (.ref x :: st) ws Q) : NV G own cc nL R KF kc ks K pc (a0 :: a1 :: a2 :: some (.ref x) :: lr) st ws Q :=
  fun p e s m args below meth c H locs ls A hC hr hK hP hD hS hl => lv_aload_n hC.1 hC.2.1 hd rfl (hl.2.2 3 _ rfl) (k p e s m args below meth c H locs ls A hC hr hK hP hD hS hl)
theorem N_istore1 {a0 : OV} {az : OV} {lr : List OV} {x : Int32} (hd : decode cc pc = .ok (.istore_n 1, 1)) (hn : 1 < nL) (hp : okc a0 = true) (k : NV G own cc nL R KF kc ks K (pc + 1) (a0 :: some (.int x) :: lr) st ws Q) : NV G own cc nL R KF kc ks K pc (a0 :: az :: lr) (.int x :: st) ws Q :=
  fun p e s m args below meth c H locs ls A hC hr hK hP hD hS hl => lv_istore_n hC.1 hC.2.1 hd rfl hl.has hn rfl (fun ls' hl' => k p e s m args below meth c H locs ls' A hC hr hK hP hD hS (lvO.storedP (lv := a0 :: az :: lr) 0 a0 rfl rfl hp hl'))
theorem N_istore2 {a0 a1 : OV} {az : OV} {lr : List OV} {x : Int32} (hd : decode cc pc = .ok (.istore_n 2, 1)) (hn : 2 < nL) (hp : okc a1 = true) (k : NV G own cc nL R KF kc ks K (pc + 1) (a0 :: a1 :: some (.int x) :: lr) st ws Q) : NV G own cc nL R KF kc ks K pc (a0 :: a1 :: az :: lr) (.int x :: st) ws Q :=
  fun p e s m args below meth c H locs ls A hC hr hK hP hD hS hl => lv_istore_n hC.1 hC.2.1 hd rfl hl.has hn rfl (fun ls' hl' => k p e s m args below meth c H locs ls' A hC hr hK hP hD hS (lvO.storedP (lv := a0 :: a1 :: az :: lr) 1 a1 rfl rfl hp hl'))
theorem N_istore3 {a0 a1 a2 : OV} {az : OV} {lr : List OV} {x : Int32} (hd : decode cc pc = .ok (.istore_n 3, 1)) (hn : 3 < nL) (hp : okc a2 = true) (k : NV G own cc nL R KF kc ks K (pc + 1) (a0 :: a1 :: a2 :: some (.int x) :: lr) st ws Q) : NV G own cc nL R KF kc ks K pc (a0 :: a1 :: a2 :: az :: lr) (.int x :: st) ws Q :=
  fun p e s m args below meth c H locs ls A hC hr hK hP hD hS hl => lv_istore_n hC.1 hC.2.1 hd rfl hl.has hn rfl (fun ls' hl' => k p e s m args below meth c H locs ls' A hC hr hK hP hD hS (lvO.storedP (lv := a0 :: a1 :: a2 :: az :: lr) 2 a2 rfl rfl hp hl'))
theorem N_astore1 {a0 : OV} {az : OV} {lr : List OV} {x : Nat} (hd : decode cc pc = .ok (.astore_n 1, 1)) (hn : 1 < nL) (hp : okc a0 = true) (k : NV G own cc nL R KF kc ks K (pc + 1) (a0 :: some (.ref x) :: lr) st ws Q) : NV G own cc nL R KF kc ks K pc (a0 :: az :: lr) (.ref x :: st) ws Q :=
  fun p e s m args below meth c H locs ls A hC hr hK hP hD hS hl => lv_astore_n hC.1 hC.2.1 hd rfl hl.has hn rfl (fun ls' hl' => k p e s m args below meth c H locs ls' A hC hr hK hP hD hS (lvO.storedP (lv := a0 :: az :: lr) 0 a0 rfl rfl hp hl'))
theorem N_astore2 {a0 a1 : OV} {az : OV} {lr : List OV} {x : Nat} (hd : decode cc pc = .ok (.astore_n 2, 1)) (hn : 2 < nL) (hp : okc a1 = true) (k : NV G own cc nL R KF kc ks K (pc + 1) (a0 :: a1 :: some (.ref x) :: lr) st ws Q) : NV G own cc nL R KF kc ks K pc (a0 :: a1 :: az :: lr) (.ref x :: st) ws Q :=
  fun p e s m args below meth c H locs ls A hC hr hK hP hD hS hl => lv_astore_n hC.1 hC.2.1 hd rfl hl.has hn rfl (fun ls' hl' => k p e s m args below meth c H locs ls' A hC hr hK hP hD hS (lvO.storedP (lv := a0 :: a1 :: az :: lr) 1 a1 rfl rfl hp hl'))
theorem N_astore3 {a0 a1 a2 : OV} {az : OV} {lr : List OV} {x : Nat} (hd : decode cc pc = .ok (.astore_n 3, 1)) (hn : 3 < nL) (hp : okc a2 = true) (k : NV G own cc nL R KF kc ks K (pc + 1) (a0 :: a1 :: a2 :: some (.ref x) :: lr) st ws Q) : NV G own cc nL R KF kc ks K pc (a0 :: a1 :: a2 :: az :: lr) (.ref x :: st) ws Q :=
  fun p e s m args below meth c H locs ls A hC hr hK hP hD hS hl => lv_astore_n hC.1 hC.2.1 hd rfl hl.has hn rfl (fun ls' hl' => k p e s m args below meth c H locs ls' A hC hr hK hP hD hS (lvO.storedP (lv := a0 :: a1 :: a2 :: az :: lr) 2 a2 rfl rfl hp hl'))
theorem N_iinc1 {a0 : OV} {lr : List OV} {x : Int32} {n : Int} (dn : Int32) (hd : decode cc pc = .ok (.iinc 1 n, 3)) (he : Int32.ofInt n = dn) (hn : 1 < nL) (hp : okc a0 = true) (k : NV G own cc nL R KF kc ks K (pc + 3) (a0 :: some (.int (x + dn)) :: lr) st ws Q) : NV G own cc nL R KF kc ks K pc (a0 :: some (.int x) :: lr) st ws Q := by
  intro p e s m args below meth c H locs ls A hC hr hK hP hD hS hl
  obtain ⟨kk, hkk⟩ := List.getElem?_of_mem (assocOf_mem.mpr (show ((a0 :: some (.int x) :: lr) : List OV)[1]? = some (some (.int x)) from rfl))
  exact lv_iinc (v := x + dn) hC.1 hC.2.1 hd hl.has hkk (by rw [he]) hn rfl (fun ls' hl' => k p e s m args below meth c H locs ls' A hC hr hK hP hD hS (lvO.storedP (lv := a0 :: some (.int x) :: lr) 0 a0 rfl rfl hp hl'))
theorem N_iinc3 {a0 a1 a2 : OV} {lr : List OV} {x : Int32} {n : Int} (dn : Int32) (hd : decode cc pc = .ok (.iinc 3 n, 3)) (he : Int32.ofInt n = dn) (hn : 3 < nL) (hp : okc a2 = true) (k : NV G own cc nL R KF kc ks K (pc + 3) (a0 :: a1 :: a2 :: some (.int (x + dn)) :: lr) st ws Q) : NV G own cc nL R KF kc ks K pc (a0 :: a1 :: a2 :: some (.int x) :: lr) st ws Q := by
  intro p e s m args below meth c H locs ls A hC hr hK hP hD hS hl
  obtain ⟨kk, hkk⟩ := List.getElem?_of_mem (assocOf_mem.mpr (show ((a0 :: a1 :: a2 :: some (.int x) :: lr) : List OV)[3]? = some (some (.int x)) from rfl))
  exact lv_iinc (v := x + dn) hC.1 hC.2.1 hd hl.has hkk (by rw [he]) hn rfl (fun ls' hl' => k p e s m args below meth c H locs ls' A hC hr hK hP hD hS (lvO.storedP (lv := a0 :: a1 :: a2 :: some (.int x) :: lr) 2 a2 rfl rfl hp hl'))
theorem N_objInit {index a : Nat} (hlink : Cond.methodLink own index objectInit ∈ Ug) (hf : 1 ≤ R.frames) (hlo : (st.map fun v => v.category).sum + 12 ≤ R.locals) (hd : decode cc pc = .ok (.invokespecial index, 3)) (k : NV G own cc nL R KF kc ks K (pc + 3) lv st ws Q) : NV G own cc nL R KF kc ks K pc lv (.ref a :: st) ws Q := by
  intro p e s m args below meth c H locs ls A hC hr hK hP hD hS hl
  refine W.objInit hC.1 hC.2.1 hC.2.2.2.1 (hC.2.2.2.2 _ hlink) (hC.2.2.2.2 _ im_obj) (hC.2.2.2.2 _ co_obj) rfl (hC.2.2.1.trans hl.1.symm).symm rfl hd hf (by show 2 * 0 + _ + 12 ≤ _; omega) ?_
  exact k p e s m args below meth c H locs ls A hC hr hK hP hD hS hl
theorem N_newI {n : Int32} {N : Nat} (hn : n = nI N) (hN : N ≤ 3000) (hcells : kc + 1 ≤ R.cells) (hslots : ks + N ≤ R.slots) (hd : decode cc pc = .ok (.newarray .int, 2)) (k : ∀ q, NV G own cc nL R KF (kc + 1) (ks + N) (0 :: K) (pc + 2) lv (.ref q :: st) (ws ++ [(q, .inl (G.2.2.1 0, N, .inl (fun _ => 0)))]) Q) : NV G own cc nL R KF kc ks K pc lv (.int n :: st) ws Q := by
  intro p e s m args below meth c H locs ls A hC hr hK hP hD hS hl
  subst hn
  refine va_newa (atype := .int) (ty := .int) (a0 := (N, .inl (fun _ => 0))) hC.1 hC.2.1 (hC.2.2.2.2 _ (ug_in 56 (by decide +kernel) rfl)) rfl hK.1 hP hD hS.1 hS.2 (fun cA => rfl) (nI_pos (by omega)) (nI_clamp (by omega)) (by show N * 4 ≤ _; omega) hcells hslots hd (fun q cA H1 hK1 hP1 hD1 hS1 => ?_)
  have e1 : cA = G.2.2.1 0 := hK.2.2.2.2 0 (by decide) cA (hK1.2 (tysK G K).length _ (by rw [List.getElem?_append_right (Nat.le_refl _), Nat.sub_self]; rfl)).2
  subst e1
  exact k q p e s m args below meth c H1 locs ls A hC hr ⟨va_K_cons hK1, hK.2⟩ hP1 hD1 ⟨hS1, hS.2⟩ hl
theorem N_newZ {n : Int32} {N : Nat} (hn : n = nI N) (hN : N ≤ 3000) (hcells : kc + 1 ≤ R.cells) (hslots : ks + N ≤ R.slots) (hd : decode cc pc = .ok (.newarray .boolean, 2)) (k : ∀ q, NV G own cc nL R KF (kc + 1) (ks + N) (1 :: K) (pc + 2) lv (.ref q :: st) (ws ++ [(q, .inl (G.2.2.1 1, N, .inl (fun _ => 0)))]) Q) : NV G own cc nL R KF kc ks K pc lv (.int n :: st) ws Q := by
  intro p e s m args below meth c H locs ls A hC hr hK hP hD hS hl
  subst hn
  refine va_newa (atype := .boolean) (ty := .boolean) (a0 := (N, .inl (fun _ => 0))) hC.1 hC.2.1 (hC.2.2.2.2 _ (ug_in 57 (by decide +kernel) rfl)) rfl hK.1 hP hD hS.1 hS.2 (fun cA => rfl) (nI_pos (by omega)) (nI_clamp (by omega)) (by show N * 1 ≤ _; omega) hcells hslots hd (fun q cA H1 hK1 hP1 hD1 hS1 => ?_)
  have e1 : cA = G.2.2.1 1 := hK.2.2.2.2 1 (by decide) cA (hK1.2 (tysK G K).length _ (by rw [List.getElem?_append_right (Nat.le_refl _), Nat.sub_self]; rfl)).2
  subst e1
  exact k q p e s m args below meth c H1 locs ls A hC hr ⟨va_K_cons hK1, hK.2⟩ hP1 hD1 ⟨hS1, hS.2⟩ hl
theorem N_newS {index : Nat} {n : Int32} {N : Nat} (hn : n = nI N) (hN : N ≤ 3000) (hcl : Cond.classLink own index "LineBundles$Sheet" ∈ Ug) (hcells : kc + 1 ≤ R.cells) (hslots : ks + N ≤ R.slots) (hd : decode cc pc = .ok (.anewarray index, 3)) (k : ∀ q, NV G own cc nL R KF (kc + 1) (ks + N) (3 :: K) (pc + 3) lv (.ref q :: st) (ws ++ [(q, .inl (G.2.2.1 3, N, .inr (.inr (.inr (.inr (fun _ => none))))))]) Q) : NV G own cc nL R KF kc ks K pc lv (.int n :: st) ws Q := by
  intro p e s m args below meth c H locs ls A hC hr hK hP hD hS hl
  subst hn
  refine va_newq (C := "LineBundles$Sheet") (N' := N) hC.1 hC.2.1 hC.2.2.2.1 (hC.2.2.2.2 _ hcl) hK.2.2.1 hK.1 hP hD hS.1 hS.2 (nI_pos (by omega)) (nI_clamp (by omega)) (by omega) hcells hslots hd (fun q cA H1 hK1 hP1 hD1 hS1 => ?_)
  have e1 : cA = G.2.2.1 3 := hK.2.2.2.2 3 (by decide) cA (hK1.2 (tysK G K).length _ (by rw [List.getElem?_append_right (Nat.le_refl _), Nat.sub_self]; rfl)).2
  subst e1
  exact k q p e s m args below meth c H1 locs ls A hC hr ⟨va_K_cons hK1, hK.2⟩ hP1 hD1 ⟨hS1, hS.2⟩ hl
theorem N_newL {index : Nat} {n : Int32} {N : Nat} (hn : n = nI N) (hN : N ≤ 3000) (hcl : Cond.classLink own index "LineBundles$Line" ∈ Ug) (hcells : kc + 1 ≤ R.cells) (hslots : ks + N ≤ R.slots) (hd : decode cc pc = .ok (.anewarray index, 3)) (k : ∀ q, NV G own cc nL R KF (kc + 1) (ks + N) (2 :: K) (pc + 3) lv (.ref q :: st) (ws ++ [(q, .inl (G.2.2.1 2, N, .inr (.inr (.inr (.inr (fun _ => none))))))]) Q) : NV G own cc nL R KF kc ks K pc lv (.int n :: st) ws Q := by
  intro p e s m args below meth c H locs ls A hC hr hK hP hD hS hl
  subst hn
  refine va_newq (C := "LineBundles$Line") (N' := N) hC.1 hC.2.1 hC.2.2.2.1 (hC.2.2.2.2 _ hcl) hK.2.2.2.1 hK.1 hP hD hS.1 hS.2 (nI_pos (by omega)) (nI_clamp (by omega)) (by omega) hcells hslots hd (fun q cA H1 hK1 hP1 hD1 hS1 => ?_)
  have e1 : cA = G.2.2.1 2 := hK.2.2.2.2 2 (by decide) cA (hK1.2 (tysK G K).length _ (by rw [List.getElem?_append_right (Nat.le_refl _), Nat.sub_self]; rfl)).2
  subst e1
  exact k q p e s m args below meth c H1 locs ls A hC hr ⟨va_K_cons hK1, hK.2⟩ hP1 hD1 ⟨hS1, hS.2⟩ hl
theorem N_new {C : String} {T : u_T} {N ci index : Nat} (hin : ∀ w ∈ u_ws C T N, w ∈ Ug) (ty : Nat → FieldType) (hty : ∀ k, k < N → parseFieldDescriptor (T k).2.2.1 = some (ty k)) (hcl : Cond.classLink own index C ∈ Ug) (hinst : Cond.instantiable C N ∈ Ug) (hini : Cond.initialized C ∈ Ug) (hc : vwCl[ci]? = some (C, T, N)) (fs : List Value) (hfs : ∀ j, j < N → defaultValue (ty j) = vp_V fs j) (hcells : kc + 1 ≤ R.cells) (hslots : ks + N ≤ R.slots) (hd : decode cc pc = .ok (.new index, 3))
    (k : ∀ q, NV G own cc nL R KF (kc + 1) (ks + N) K (pc + 3) lv (.ref q :: st) (ws ++ [(q, .inr (ci, fs))]) Q) : NV G own cc nL R KF kc ks K pc lv st ws Q := by
  intro p e s m args below meth c H locs ls A hC hr hK hP hD hS hl
  refine va_new hC.1 hC.2.1 hC.2.2.2.2 hin ty hty hC.2.2.2.1 (hC.2.2.2.2 _ hcl) (hC.2.2.2.2 _ hinst) (hC.2.2.2.2 _ hini) hK.1 hP hD hS.1 hS.2 hc hfs hcells hslots hd (fun q H1 hP1 hD1 hS1 => ?_)
  exact k q p e s m args below meth c H1 locs ls A hC hr hK hP1 hD1 ⟨hS1, hS.2⟩ hl
theorem N_putF {ref C : String} {T : u_T} {N ci index a : Nat} {v : Value} {fs : List Value} (q0 : Nat) (hin : ∀ w ∈ u_ws C T N, w ∈ Ug) (ty0 : Nat → FieldType) (hty : ∀ k, k < N → parseFieldDescriptor (T k).2.2.1 = some (ty0 k)) (hnm : ∀ a, a < N → ∀ b, b < N → a ≠ b → (T a).2.1 ≠ (T b).2.1) (he : ws[q0]? = some (a, .inr (ci, fs))) (hc : vwCl[ci]? = some (C, T, N)) (k : Nat) (hk : k < N)
    (hlink : Cond.fieldLink own index ref (T k).2.1 (T k).2.2.1 ∈ Ug) (hs : (T k).1 = ref) (hfin : (T k).2.2.2 = true) (hdecl : (T k).1 = own) {ty : FieldType} (hd0 : parseFieldDescriptor (T k).2.2.1 = some ty) (hn : narrow ty v = v) (hfit : fits ty v = true) (hl0 : k < fs.length) (hd : decode cc pc = .ok (.putfield index, 3))
    (kk : NV G own cc nL R KF kc ks K (pc + 3) lv st (ws.set q0 (a, .inr (ci, fs.set k v))) Q) : NV G own cc nL R KF kc ks K pc lv (v :: .ref a :: st) ws Q := by
  intro p e s m args below meth c H locs ls A hC hr hK hP hD hS hl
  refine va_putF (ty := ty) hC.1 hC.2.1 hC.2.2.2.2 hin ty0 hty hnm hC.2.2.2.1 hK.1 hP hD hS.1 q0 he hc k hk (hC.2.2.2.2 _ hlink) (fun x hx => by rw [← hs]; exact hx) hfin hr.2.2 hdecl hd0 hn hfit hl0 hd (fun H1 locs1 hP1 hD1 hS1 => ?_)
  exact kk p e s m args below meth c H1 locs1 ls A hC hr hK hP1 hD1 ⟨hS1, hS.2⟩ hl
theorem N_put {ref C : String} {T : u_T} {N ci index a : Nat} {v : Value} {fs : List Value} (q0 : Nat) (hin : ∀ w ∈ u_ws C T N, w ∈ Ug) (ty0 : Nat → FieldType) (hty : ∀ k, k < N → parseFieldDescriptor (T k).2.2.1 = some (ty0 k)) (hnm : ∀ a, a < N → ∀ b, b < N → a ≠ b → (T a).2.1 ≠ (T b).2.1) (he : ws[q0]? = some (a, .inr (ci, fs))) (hc : vwCl[ci]? = some (C, T, N)) (k : Nat) (hk : k < N)
    (hlink : Cond.fieldLink own index ref (T k).2.1 (T k).2.2.1 ∈ Ug) (hs : (T k).1 = ref) (hfin : (T k).2.2.2 = false) {ty : FieldType} (hd0 : parseFieldDescriptor (T k).2.2.1 = some ty) (hn : narrow ty v = v) (hfit : fits ty v = true) (hl0 : k < fs.length) (hd : decode cc pc = .ok (.putfield index, 3))
    (kk : NV G own cc nL R KF kc ks K (pc + 3) lv st (ws.set q0 (a, .inr (ci, fs.set k v))) Q) : NV G own cc nL R KF kc ks K pc lv (v :: .ref a :: st) ws Q := by
  intro p e s m args below meth c H locs ls A hC hr hK hP hD hS hl
  refine va_put (ty := ty) hC.1 hC.2.1 hC.2.2.2.2 hin ty0 hty hnm hC.2.2.2.1 hK.1 hP hD hS.1 q0 he hc k hk (hC.2.2.2.2 _ hlink) (fun x hx => by rw [← hs]; exact hx) hfin hd0 hn hfit hl0 hd (fun H1 locs1 hP1 hD1 hS1 => ?_)
  exact kk p e s m args below meth c H1 locs1 ls A hC hr hK hP1 hD1 ⟨hS1, hS.2⟩ hl
theorem N_get {ref C : String} {T : u_T} {N ci index a : Nat} {v : Value} {fs : List Value} (q0 : Nat) (hin : ∀ w ∈ u_ws C T N, w ∈ Ug) (he : ws[q0]? = some (a, .inr (ci, fs))) (hc : vwCl[ci]? = some (C, T, N)) (k : Nat) (hk : k < N)
    (hlink : Cond.fieldLink own index ref (T k).2.1 (T k).2.2.1 ∈ Ug) (hs : (T k).1 = ref) (hv : fs[k]? = some v) (hd : decode cc pc = .ok (.getfield index, 3)) (kk : NV G own cc nL R KF kc ks K (pc + 3) lv (v :: st) ws Q) : NV G own cc nL R KF kc ks K pc lv (.ref a :: st) ws Q := by
  intro p e s m args below meth c H locs ls A hC hr hK hP hD hS hl
  exact va_get hC.1 hC.2.1 hC.2.2.2.2 hin hC.2.2.2.1 hK.1 hP q0 he hc k hk (hC.2.2.2.2 _ hlink) (fun x hx => by rw [← hs]; exact hx) hv hd (kk p e s m args below meth c H locs ls A hC hr hK hP hD hS hl)
theorem N_iast {a n j : Nat} {i x : Int32} {f : Nat → Int32} (q0 t0 : Nat) (ha : ws[q0]? = some (a, .inl (G.2.2.1 0, n, .inl f))) (ht : K[t0]? = some 0) (hn : n < 2 ^ 31) (hi : i = nI j) (hj : j < n) (hd : decode cc pc = .ok (.iastore, 1)) (kk : NV G own cc nL R KF kc ks K (pc + 1) lv st (ws.set q0 (a, .inl (G.2.2.1 0, n, .inl (upd f j x)))) Q) : NV G own cc nL R KF kc ks K pc lv (.int x :: .int i :: .ref a :: st) ws Q := by
  intro p e s m args below meth c H locs ls A hC hr hK hP hD hS hl
  subst hi
  refine va_iast hC.1 hC.2.1 hK.1 hP hD hS.1 q0 t0 ha (by rw [tysK, List.getElem?_map, ht]; rfl) (vp_in_nI hj hn) hd (fun H1 locs1 hP1 hD1 hS1 => ?_)
  rw [nI_clamp (by omega)] at hP1 hD1
  exact kk p e s m args below meth c H1 locs1 ls A hC hr hK hP1 hD1 ⟨hS1, hS.2⟩ hl
theorem N_astS {a v n j : Nat} {i : Int32} {vs : List Value} {f : Nat → Option Nat} (q0 t0 qk : Nat) (ha : ws[q0]? = some (a, .inl (G.2.2.1 3, n, .inr (.inr (.inr (.inr f)))))) (ht : K[t0]? = some 3) (hv : ws[qk]? = some (v, .inr (3, vs))) (hn : n < 2 ^ 31) (hi : i = nI j) (hj : j < n) (hd : decode cc pc = .ok (.aastore, 1)) (kk : NV G own cc nL R KF kc ks K (pc + 1) lv st (ws.set q0 (a, .inl (G.2.2.1 3, n, .inr (.inr (.inr (.inr (va_up f j (some v)))))))) Q) : NV G own cc nL R KF kc ks K pc lv (.ref v :: .int i :: .ref a :: st) ws Q := by
  intro p e s m args below meth c H locs ls A hC hr hK hP hD hS hl
  subst hi
  refine va_astq (r := (RX3, TX3, 3)) hC.1 hC.2.1 hK.1 hP hD hS.1 q0 t0 qk 3 ha (by rw [tysK, List.getElem?_map, ht]; rfl) hv rfl (vp_in_nI hj hn) hd (fun H1 locs1 hP1 hD1 hS1 => ?_)
  rw [nI_clamp (by omega)] at hP1 hD1
  exact kk p e s m args below meth c H1 locs1 ls A hC hr hK hP1 hD1 ⟨hS1, hS.2⟩ hl
theorem N_astL {a v n j : Nat} {i : Int32} {vs : List Value} {f : Nat → Option Nat} (q0 t0 qk : Nat) (ha : ws[q0]? = some (a, .inl (G.2.2.1 2, n, .inr (.inr (.inr (.inr f)))))) (ht : K[t0]? = some 2) (hv : ws[qk]? = some (v, .inr (1, vs))) (hn : n < 2 ^ 31) (hi : i = nI j) (hj : j < n) (hd : decode cc pc = .ok (.aastore, 1)) (kk : NV G own cc nL R KF kc ks K (pc + 1) lv st (ws.set q0 (a, .inl (G.2.2.1 2, n, .inr (.inr (.inr (.inr (va_up f j (some v)))))))) Q) : NV G own cc nL R KF kc ks K pc lv (.ref v :: .int i :: .ref a :: st) ws Q := by
  intro p e s m args below meth c H locs ls A hC hr hK hP hD hS hl
  subst hi
  refine va_astq (r := (RX1, TX1, 5)) hC.1 hC.2.1 hK.1 hP hD hS.1 q0 t0 qk 1 ha (by rw [tysK, List.getElem?_map, ht]; rfl) hv rfl (vp_in_nI hj hn) hd (fun H1 locs1 hP1 hD1 hS1 => ?_)
  rw [nI_clamp (by omega)] at hP1 hD1
  exact kk p e s m args below meth c H1 locs1 ls A hC hr hK hP1 hD1 ⟨hS1, hS.2⟩ hl
theorem N_ret (hkc : kc ≤ R.cells) (hks : ks ≤ R.slots) (hsub : ∀ k ∈ KF, k ∈ K) (hd : decode cc pc = .ok (.return_, 1)) (hq : Q ws) : NV G own cc nL R KF kc ks K pc lv [] ws Q := by
  intro p e s m args below meth c H locs ls A hC hr hK hP hD hS hl
  refine W.widen hkc hks ?_
  exact W.vret hC.1 hC.2.1 hr.1 (fun t ht hW => ⟨⟨ws, rfl, hq, by rw [ht]; exact hP, hD, va_K.moved hW.alike (va_K_sub hK.1 (tysK_sub hsub))⟩, hS.1.F ht⟩) hS.1.2.2 hd hr.2.1
def rN (R R2 : Room) (kc ks n2 : Nat) : Prop := R2.frames + 1 ≤ R.frames ∧ 8 + (n2 + 11) + R2.locals ≤ R.locals ∧ kc + R2.cells ≤ R.cells ∧ ks + R2.slots ≤ R.slots
theorem N_callI {y : MethodName} {c2 : ByteArray} {n2 : Nat} {R2 : Room} {K2 KF2 : List Nat} {av rest : List Value} {index q : Nat} {x : va_E} {Qc : va_W → Prop} (hM : Cn G y c2 n2 R2 KF2 K2 (.ref q :: av) [(q, x)] Qc) (hlink : Cond.methodLink own index y ∈ Ug) (him : Cond.instanceMethod y ∈ Ug) (hini : Cond.initialized y.cls ∈ Ug) (hcode : Cond.code y c2 n2 none ∈ Ug) (hy : y.name = "<init>") (ho : mOK y av.length) (hR : rN R R2 kc ks n2) (hsub : ∀ k ∈ K2, k ∈ K)
    (hs : st = av.reverse ++ .ref q :: rest) (hw : (rest.map fun v => v.category).sum ≤ 8) (hd : decode cc pc = .ok (.invokespecial index, 3)) (k : ∀ w1, Qc w1 → NV G own cc nL R KF (kc + R2.cells) (ks + R2.slots) (K ++ KF2) (pc + 3) lv rest (ws ++ w1) Q) : NV G own cc nL R KF kc ks K pc lv st (ws ++ [(q, x)]) Q := by
  intro p e s m args below meth c H locs ls A hC hr hK hP hD hS hl
  have hPc := hP.sub (ws' := [(q, x)]) [ws.length] (by simp)
  have hDc := hD.sub (ws' := [(q, x)]) [ws.length] (by rfl) (by simp)
  refine W_callN (va_runI (As := av) (rest := rest) hC (hM H.size) ⟨callB_of av.length hC.2.2.2.2 (good_code hcode) rfl rfl rfl (hC.2.2.2.2 _ hini) (hC.2.2.2.2 _ hlink) ho ⟨hR.1, hR.2.1⟩, hy, hC.2.2.2.2 _ him⟩ ⟨Pn_blind, fun U hU hW => ⟨rfl, by rw [hU], by rw [hU]; exact hPc, ⟨va_K_sub (HN.warm hW hK).1 (tysK_sub hsub), (HN.warm hW hK).2⟩, hDc.weaken (fun _ _ _ _ => trivial)⟩⟩ rfl rfl hl.1 hs (by show 2 * 0 + _ ≤ 8; omega) hd hR.2.2) hP hD hS.1 hS.2 (fun w1 H1 locs1 hq hP1 hD1 hS1 hK1 => ?_)
  exact k w1 hq p e s m args below meth c H1 locs1 ls A hC hr ⟨by rw [tysK_app]; exact va_K_app hK.1 hK1, hK.2⟩ hP1 hD1 ⟨hS1, hS.2⟩ hl
theorem N_callIN {host : String} {y : MethodName} {c2 : ByteArray} {n2 : Nat} {R2 : Room} {K2 KF2 : List Nat} {av rest : List Value} {index q : Nat} {x : va_E} {Qc : va_W → Prop} (hM : Cn G y c2 n2 R2 KF2 K2 (.ref q :: av) [(q, x)] Qc) (hlink : Cond.methodLinkNest own index y host ∈ nestW) (him : Cond.instanceMethod y ∈ Ug) (hini : Cond.initialized y.cls ∈ Ug) (hcode : Cond.code y c2 n2 none ∈ Ug) (hy : y.name = "<init>") (ho : mOK y av.length) (hR : rN R R2 kc ks n2) (hsub : ∀ k ∈ K2, k ∈ K)
    (hs : st = av.reverse ++ .ref q :: rest) (hw : (rest.map fun v => v.category).sum ≤ 8) (hd : decode cc pc = .ok (.invokespecial index, 3)) (k : ∀ w1, Qc w1 → NV G own cc nL R KF (kc + R2.cells) (ks + R2.slots) (K ++ KF2) (pc + 3) lv rest (ws ++ w1) Q) : NV G own cc nL R KF kc ks K pc lv st (ws ++ [(q, x)]) Q := by
  intro p e s m args below meth c H locs ls A hC hr hK hP hD hS hl
  have hPc := hP.sub (ws' := [(q, x)]) [ws.length] (by simp)
  have hDc := hD.sub (ws' := [(q, x)]) [ws.length] (by rfl) (by simp)
  refine W_callN (va_runIN (As := av) (rest := rest) hC (hM H.size) ⟨va_cnB av.length hC.2.2.2.2 (good_code hcode) rfl rfl rfl (hK.2.1 _ hlink) (hC.2.2.2.2 _ hini) ho ⟨hR.1, hR.2.1⟩, hy, hC.2.2.2.2 _ him⟩ ⟨Pn_blind, fun U hU hW => ⟨rfl, by rw [hU], by rw [hU]; exact hPc, ⟨va_K_sub (HN.warm hW hK).1 (tysK_sub hsub), (HN.warm hW hK).2⟩, hDc.weaken (fun _ _ _ _ => trivial)⟩⟩ rfl rfl hl.1 hs (by show 2 * 0 + _ ≤ 8; omega) hd hR.2.2) hP hD hS.1 hS.2 (fun w1 H1 locs1 hq hP1 hD1 hS1 hK1 => ?_)
  exact k w1 hq p e s m args below meth c H1 locs1 ls A hC hr ⟨by rw [tysK_app]; exact va_K_app hK.1 hK1, hK.2⟩ hP1 hD1 ⟨hS1, hS.2⟩ hl
end NB
