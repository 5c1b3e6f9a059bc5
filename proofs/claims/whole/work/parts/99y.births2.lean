section NB
variable {G : GE} {own : String} {cc : ByteArray} {nL : Nat} {R : Room} {KF : List Nat} {kc ks : Nat} {K : List Nat} {pc : Nat} {lv : List OV} {st : List Value} {ws : va_W} {Q : va_W → Prop}
theorem N_icmp_ge_n {a b : Nat} {off : Int} (tgt : Nat) (hd : decode cc pc = .ok (.if_icmp .ge off, 3)) (ht : (pc : Int) + off = (tgt : Int)) (ha : a < 2 ^ 31) (hb : b < 2 ^ 31) (kt : b ≤ a → NV G own cc nL R KF kc ks K tgt lv st ws Q) (kf : ¬ b ≤ a → NV G own cc nL R KF kc ks K (pc + 3) lv st ws Q) : NV G own cc nL R KF kc ks K pc lv (.int (nI b) :: .int (nI a) :: st) ws Q := N_icmp_ge tgt hd ht (fun c => kt ((nI_leI hb ha).mp c)) (fun c => kf (fun e => c ((nI_leI hb ha).mpr e)))
theorem N_iinc1_n {a0 : OV} {lr : List OV} {a : Nat} {n : Int} (d : Nat) (hd : decode cc pc = .ok (.iinc 1 n, 3)) (he : Int32.ofInt n = nI d) (hn : 1 < nL) (hp : okc a0 = true) (k : NV G own cc nL R KF kc ks K (pc + 3) (a0 :: some (.int (nI (a + d))) :: lr) st ws Q) : NV G own cc nL R KF kc ks K pc (a0 :: some (.int (nI a)) :: lr) st ws Q := N_iinc1 (nI d) hd he hn hp (by rw [nI_add]; exact k)
theorem N_ws (ws' : va_W) (h : ws = ws') (k : NV G own cc nL R KF kc ks K pc lv st ws' Q) : NV G own cc nL R KF kc ks K pc lv st ws Q := h ▸ k
theorem N_lv (lv' : List OV) (h : lv = lv') (k : NV G own cc nL R KF kc ks K pc lv' st ws Q) : NV G own cc nL R KF kc ks K pc lv st ws Q := h ▸ k
theorem N_st (st' : List Value) (h : st = st') (k : NV G own cc nL R KF kc ks K pc lv st' ws Q) : NV G own cc nL R KF kc ks K pc lv st ws Q := h ▸ k
theorem N_sub {ws' : va_W} (is : List Nat) (hn : va_nd is = true) (hs : is.map (fun i => ws[i]?) = ws'.map some) (hs2 : is.filterMap (fun i => ws[i]?) = ws') (k : NV G own cc nL R KF kc ks K pc lv st ws' Q) : NV G own cc nL R KF kc ks K pc lv st ws Q := fun p e s m args below meth c H locs ls A hC hr hK hP hD hS hl => k p e s m args below meth c H locs ls A hC hr hK (hP.sub is hs2) (hD.sub is hn hs) hS hl
theorem arrV_ext {cI : ClassId} {N : Nat} {f g : Nat → Value} (h : ∀ j, j < N → f j = g j) : arrV cI N f = arrV cI N g := by
  unfold arrV
  have : (fun j : Fin N => f j.val) = fun j : Fin N => g j.val := funext (fun j => h j.1 j.2)
  rw [this]
theorem N_cong {a n : Nat} {cA : ClassId} {f g : Nat → Option Nat} (q0 : Nat) (he : ws[q0]? = some (a, .inl (cA, n, .inr (.inr (.inr (.inr f)))))) (hf : ∀ j, j < n → f j = g j) (k : NV G own cc nL R KF kc ks K pc lv st (ws.set q0 (a, .inl (cA, n, .inr (.inr (.inr (.inr g)))))) Q) : NV G own cc nL R KF kc ks K pc lv st ws Q := by
  intro p e s m args below meth c H locs ls A hC hr hK hP hD hS hl
  refine k p e s m args below meth c H locs ls A hC hr hK (hP.set hD he ?_ (fun q hq => rfl)) (hD.set he) hS hl
  have h1 : H[a]? = some (vp_cell cA (n, .inr (.inr (.inr (.inr f))))) := hP q0 _ he
  show H[a]? = some (vp_cell cA (n, .inr (.inr (.inr (.inr g)))))
  rw [h1, vp_cell_q, vp_cell_q, arrV_ext (fun j hj => by rw [hf j hj])]
theorem N_G {ad' : Nat → Nat} (k : NV (G.1, G.2.1, G.2.2.1, ad') own cc nL R KF kc ks K pc lv st ws Q) : NV G own cc nL R KF kc ks K pc lv st ws Q := fun p e s m args below meth c H locs ls A hC hr hK hP hD hS hl => k p e s m args below meth c H locs ls A hC hr hK hP hD hS hl
theorem N_callV {y : MethodName} {C : String} {c2 : ByteArray} {n2 : Nat} {R2 : Room} {av : List Value} {Qc : Mem → Prop} {index : Nat} {rest : List Value} {b ci : Nat} {fs : List Value} {T : u_T} {N : Nat} {ids : List Nat} {h : Mem} (hM : Ct ids G y c2 n2 none R2 (.ref (ad G b) :: av) h (Qv Qc)) (hlink : Cond.methodLink own index y ∈ Ug) (hin : Cond.instanceMethod y ∈ Ug) (hsel : Cond.selects C y y ∈ Ug) (hini : Cond.initialized y.cls ∈ Ug) (hcode : Cond.code y c2 n2 none ∈ Ug) (ho : mOK y av.length) (hR : rOK R R2 n2) (hkc : kc ≤ R.cells) (hks : ks ≤ R.slots)
    (hm : b ∈ ids) (hcell : cellR G b (h b) = .inr (ci, fs)) (hc : vwCl[ci]? = some (C, T, N)) (hall : ∀ k, k < 4 → k ∈ K)
    (hs : st = av.reverse ++ .ref (ad G b) :: rest) (hw : (rest.map fun v => v.category).sum ≤ 8) (hd : decode cc pc = .ok (.invokevirtual index, 3)) (k : ∀ h', Qc h' → NV G own cc nL R KF kc ks K (pc + 3) lv rest (wsM ids G h') Q) : NV G own cc nL R KF kc ks K pc lv st (wsM ids G h) Q := by
  intro p e s m args below meth c H locs ls A hC hr hK hP hD hS hl
  have hK' : HK G s := by
    refine ⟨va_K_sub hK.1 (fun x hx => ?_), hK.2.1⟩
    have hm : ∀ k, k < 4 → (G.2.2.1 k, tyK k) ∈ tysK G K := fun k hk => List.mem_map.mpr ⟨k, hall k hk, rfl⟩
    rcases List.mem_cons.mp hx with rfl | hx
    · exact hm 0 (by decide)
    rcases List.mem_cons.mp hx with rfl | hx
    · exact hm 1 (by decide)
    rcases List.mem_cons.mp hx with rfl | hx
    · exact hm 2 (by decide)
    rcases List.mem_cons.mp hx with rfl | hx
    · exact hm 3 (by decide)
    · exact absurd hx List.not_mem_nil
  obtain ⟨q0, hq0, hwb⟩ := wsM_at (G := G) (h := h) hm
  rw [hcell] at hwb
  have run : va_Run p G.1 e R s m args below meth c H locs kc ks 0 0 (F0 m pc ls st) rest (Qx ids G (Qv Qc) A (Value.ref (ad G b) :: av).toArray) A := va_runV (C := C) (As := av) (rest := rest) hC (hM A) ⟨callB_of av.length hC.2.2.2.2 (good_code hcode) rfl hR.1 hR.2.1 (hC.2.2.2.2 _ hini) (hC.2.2.2.2 _ hlink) ho hR.2.2, hC.2.2.2.2 _ hin, hC.2.2.2.2 _ hsel⟩ ⟨Pc_blind, va_recv hK'.1 hP hc hwb, fun U hU hW => ⟨rfl, by rw [hU]; exact hP, ⟨va_K.moved hW.alike hK'.1, hK'.2.warm hW⟩, hD⟩⟩ rfl rfl hl.1 hs (by show 2 * 0 + _ ≤ 8; omega) hd ⟨hkc, hks⟩
  intro T hT X
  obtain ⟨v, st₀, t, T', L, h0, X', hL, e1, e2, ⟨⟨v', h', hv, hq, hP1, hD1⟩, hz, hk⟩, stp⟩ := run T hT X
  cases hv
  obtain ⟨rfl, hq⟩ := hq
  rw [h0] at hz hk
  obtain ⟨t2, a1, b1⟩ := k h' hq p e s m args below meth c T'.heap (locs ++ L) ls A hC hr hK (by rw [e1]; exact hP1) hD1
    ⟨⟨Nat.le_trans hS.1.1 (by rw [e1]; exact hz), fun q h1 h2 => by rw [e1, hk q (Nat.lt_of_lt_of_le h1 hS.1.1) h2]; exact hS.1.2.1 q h1 h2, fun q hq => by
      rcases List.mem_append.mp hq with h | h
      · exact hS.1.2.2 q h
      · exact hL q h⟩, hS.2⟩ hl T' rfl X'
  exact ⟨t2, stp t2 a1, b1⟩
end NB
