def hJ : Mem := fun c => if c = 102 then (upd (upd (upd (upd (upd (upd (upd (upd (fun _ => 0) 0 (-1)) 1 (-1)) 2 (-1)) 3 (-1)) 4 (-1)) 5 (-1)) 6 (-1)) 7 (-1)) else if c = 114 then (upd (upd (fun _ => 0) 0 (nI 10)) 1 (nI 3)) else fun _ => 0
theorem RB0 : RB S0 hJ := by
  refine ⟨fun i hi => Or.inl ⟨rfl, ?_⟩, ⟨rfl, rfl, fun k hk => absurd hk (Nat.not_lt_zero _), fun p hp => rfl, fun l hl => absurd hl (Nat.not_lt_zero _), fun l hl => ⟨rfl, fun k hk => absurd hk (Nat.not_lt_zero _)⟩, fun l hl s hs => ?_, rfl, rfl⟩, ⟨by decide, rfl, fun k hk => absurd hk (Nat.not_lt_zero _)⟩, rfl⟩
  · rcases (show i = 0 ∨ i = 1 ∨ i = 2 ∨ i = 3 ∨ i = 4 ∨ i = 5 ∨ i = 6 ∨ i = 7 by omega) with rfl | rfl | rfl | rfl | rfl | rfl | rfl | rfl <;> rfl
  · exact (bz_r0 (fun z => by rw [show nOn S0.2.1 l (phi s) = nOn N0 l (phi s) from rfl, on0] at z; cases z))
theorem Cn_post {G : GE} {y : MethodName} {cc : ByteArray} {nL : Nat} {R : Room} {KF K : List Nat} {av : List Value} {ws : va_W} {Q Q' : va_W → Prop} (h : Cn G y cc nL R KF K av ws Q) (hq : ∀ w, Q w → Q' w) : Cn G y cc nL R KF K av ws Q' := fun sz => Met_post (h sz) (fun a s o t x => by
  obtain ⟨⟨w, h1, h2, h3⟩, h4⟩ := x
  exact ⟨⟨w, h1, hq w h2, h3⟩, h4⟩)
set_option maxRecDepth 8000 in
theorem n_X6b (G : GE) (q : Nat) : Cn G yX6_init cX6_init 1 rX6 [0, 1] [] [.ref q] [(q, .inr (6, [.int 0, .int 0, .null, .null, .null, .null, .int 0, .null, .int 0, .null, .null, .null, .null, .null, .null, .null, .null, .null, .null, .null, .null, .int 0]))] (fun ws => ∃ (ad' : Nat → Nat) (h : Mem), ad' 100 = q ∧ RB S0 h ∧ ws = wsM idsB (G.1, G.2.1, G.2.2.1, ad') h) := by
  refine Cn_post (n_X6 G q) (fun w hw => ?_)
  obtain ⟨b7, b49, b58, b66, b74, b82, b90, b98, b107, b116, b123, b140, b148, b157, b165, b173, b181, rfl⟩ := hw
  exact ⟨(fun c => ([q, 0, b7, b49, b58, b66, 0, b74, 0, b82, b90, b98, b107, b116, b123, b140, b148, b157, b165, b173, b181] : List Nat).getD (c - 100) 0), hJ, rfl, RB0, rfl⟩
