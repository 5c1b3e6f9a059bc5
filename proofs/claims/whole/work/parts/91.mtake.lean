theorem RBn_wipe {N : Ng} {h h' : Mem} (i : Inv N) (r : RBn N h) {l : Nat} (s : same [111, 113] h h') (e1 : h' 111 l = nI 0) (e2 : ∀ t, t ≠ l → h' 111 t = h 111 t) (e3 : ∀ t, t < 180 → h' 113 (180 * l + t) = nI 0) (e4 : ∀ t, t < 180 * l ∨ 180 * l + 180 ≤ t → h' 113 t = h 113 t) : RBn (setW N l []) h' := by
  obtain ⟨r1, r2, r3, r4, r5, r6, r7, r8, r9⟩ := r
  refine ⟨?_, ?_, ?_, ?_, ?_, fun t ht => ?_, fun t ht u hu => ?_, ?_, ?_⟩
  · rw [s 100 (by decide)]; exact r1
  · rw [s 100 (by decide)]; exact r2
  · rw [s 107 (by decide)]; exact r3
  · rw [s 105 (by decide)]; exact r4
  · rw [s 109 (by decide), s 110 (by decide)]; exact r5
  · show _ = nI (va_up (nWy N) l [] t).length ∧ ∀ k, k < (va_up (nWy N) l [] t).length → _ = nI ((va_up (nWy N) l [] t).getD k 0)
    by_cases e : t = l
    · subst e
      rw [va_up_s]
      exact ⟨e1, fun k hk => absurd hk (Nat.not_lt_zero _)⟩
    · rw [va_up_ne _ _ e, e2 t e, s 112 (by decide)]
      exact r6 t ht
  · by_cases e : t = l
    · subst e
      rw [e3 u hu]
      refine bz_r0 (fun z => ?_)
      unfold nOn at z
      rw [show nWy (setW N t []) t = [] from va_up_s _ _ _] at z
      simp [sdW] at z
    · rw [e4 _ (by omega), r7 t ht u hu]
      exact bz_c (by rw [on_cong (N' := setW N l []) (N := N) (l := t) (va_up_ne _ _ e) (fun _ => rfl)])
  · rw [s 114 (by decide)]; exact r8
  · rw [s 114 (by decide)]; exact r9
set_option maxRecDepth 4000 in
theorem l_X6_wipe (G : GE) (h hc : Mem) (l : Nat) (hl : l < 12) (k : Nat) (hk : k ≤ 180) (e0 : same [111, 113] h hc) (e1 : hc 111 l = nI 0) (e2 : ∀ t, t ≠ l → hc 111 t = h 111 t) (e3 : ∀ t, t < k → hc 113 (180 * l + t) = nI 0) (e4 : ∀ t, t < 180 * l ∨ 180 * l + 180 ≤ t → hc 113 t = h 113 t) : V idsB G RX6 cX6_wipe 3 none (rmD 0) 9 [some (.ref (ad G 100)), some (.int (nI l)), some (.int (nI k))] [] hc (Qv (fun h' => same [111, 113] h h' ∧ h' 111 l = nI 0 ∧ (∀ t, t ≠ l → h' 111 t = h 111 t) ∧ (∀ t, t < 180 → h' 113 (180 * l + t) = nI 0) ∧ ∀ t, t < 180 * l ∨ 180 * l + 180 ≤ t → h' 113 t = h 113 t)) := by
  induction hz : 180 - k using Nat.strongRecOn generalizing hc k with
  | _ z ih =>
    subst hz
    refine V_iload2 dX6_wipe_9 ?_
    refine V_sipush (nI 180) dX6_wipe_10 (by decide) ?_
    first | refine V_icmp_ge_n 35 dX6_wipe_13 (by decide) (by omega) (by omega) (fun c13 => ?_) (fun c13 => ?_) | refine V_icmp_ge 35 dX6_wipe_13 (by decide) (fun c13 => ?_) (fun c13 => ?_)
    · refine V_vreti dX6_wipe_35 ?_
      obtain rfl : k = 180 := by omega
      exact ⟨e0, e1, e2, e3, e4⟩
    · refine V_aload0 dX6_wipe_16 ?_
      refine gX6_38 dX6_wipe_17 ?_
      refine V_sipush (nI 180) dX6_wipe_20 (by decide) ?_
      refine V_iload1 dX6_wipe_23 ?_
      first | refine V_imul_n dX6_wipe_24 ?_ | refine V_imul dX6_wipe_24 ?_
      refine V_iload2 dX6_wipe_25 ?_
      first | refine V_iadd_n dX6_wipe_26 ?_ | refine V_iadd dX6_wipe_26 ?_
      refine V_iconst (nI 0) dX6_wipe_27 (by decide) ?_
      refine V_bastore (by decide) aZ_113 (by decide) rfl (by first | assumption | omega) (by first | exact bz_01 | exact nI_01 (Or.inl rfl) | exact nI_01 (Or.inr rfl) | assumption) dX6_wipe_28 ?_
      first | refine V_iinc2_n 1 dX6_wipe_29 (by decide) (by decide) rfl ?_ | refine V_iinc2 (nI 1) dX6_wipe_29 (by decide) (by decide) rfl ?_
      refine V_goto 9 dX6_wipe_32 (by decide) ?_
      refine ih _ (by omega) _ (k + 1) (by omega) (e0.wr _ _ (by decide)) (by rw [wr_c _ _ _ (by decide)]; exact e1) (fun t ht => by rw [wr_c _ _ _ (by decide)]; exact e2 t ht) (fun t ht => ?_) (fun t ht => by rw [wr_j _ _ (by omega)]; exact e4 t ht) rfl
      by_cases e : t = k
      · rw [e, wr_s]
      · rw [wr_j _ _ (by omega)]; exact e3 t (by omega)
set_option maxRecDepth 4000 in
theorem m_X6_wipe (G : GE) (h : Mem) (l : Nat) (hl : l < 12) : Ct idsB G yX6_wipe cX6_wipe 3 none (rmD 0) [.ref (ad G 100), .int (nI l)] h (Qv fun h' => same [111, 113] h h' ∧ h' 111 l = nI 0 ∧ (∀ t, t ≠ l → h' 111 t = h 111 t) ∧ (∀ t, t < 180 → h' 113 (180 * l + t) = nI 0) ∧ ∀ t, t < 180 * l ∨ 180 * l + 180 ≤ t → h' 113 t = h 113 t) := by
  refine Ct.of [some (.ref (ad G 100)), some (.int (nI l)), none] (by decide) (Nat.le_of_ble_eq_true rfl) (lvE_ok 1 rfl) ?_
  refine V_aload0 dX6_wipe_0 ?_
  refine gX6_32 dX6_wipe_1 ?_
  refine V_iload1 dX6_wipe_4 ?_
  refine V_iconst (nI 0) dX6_wipe_5 (by decide) ?_
  refine V_iastore (by decide) aI_111 (by decide) rfl (by first | assumption | omega) dX6_wipe_6 ?_
  refine V_iconst (nI 0) dX6_wipe_7 (by decide) ?_
  refine V_istore2 dX6_wipe_8 (by decide) rfl ?_
  exact l_X6_wipe G h _ l hl 0 (by decide) (same.rf.wr _ _ (by decide)) (wr_s _ _ _ _) (fun t ht => wr_j _ _ ht) (fun t ht => absurd ht (Nat.not_lt_zero _)) (fun t ht => by rw [wr_c _ _ _ (by decide)])
set_option maxRecDepth 4000 in
theorem m_X6_take (G : GE) (h : Mem) (S : St) (i : Ok S) (a : RB S h) (x : Int32) : Ct idsB G yX6_take cX6_take 3 (some .int) (rmD 2) [.ref (ad G 100), .int x] h (Qi fun rv h' => rv = (O_take S x).1 ∧ RB (O_take S x).2 h') := by
  refine Ct.of [some (.ref (ad G 100)), some (.int x), none] (by decide) (Nat.le_of_ble_eq_true rfl) (lvE_ok 1 rfl) ?_
  refine V_aload0 dX6_take_0 ?_
  refine V_iconst (nI 0) dX6_take_1 (by decide) ?_
  refine pX6_62 dX6_take_2 ?_
  replace a := a.th (nI 0)
  generalize wr h 100 0 (nI 0) = g at a ⊢
  refine V_aload0 dX6_take_5 ?_
  refine V_iload1 dX6_take_6 ?_
  refine kX6_128 (m_X6_isLine _ _ S.2.1 i.1 a.2.1 _) (rOK_d (by decide) (by decide)) (Nat.le_of_ble_eq_true rfl) dX6_take_7 (fun r7 h7 hq7 => ?_)
  obtain ⟨e_, rfl⟩ := hq7
  replace e_ := e_.symm
  subst e_
  first | refine V_if_ne_z 16 dX6_take_10 (by decide) (fun c10 => ?_) (fun c10 => ?_) | refine V_if_ne_n 16 dX6_take_10 (by decide) (by omega) (fun c10 => ?_) (fun c10 => ?_) | refine V_if_ne 16 dX6_take_10 (by decide) (fun c10 => ?_) (fun c10 => ?_)
  · have hnl := i.1.nl
    have hg := c10
    obtain ⟨l, hl, rfl⟩ := (inR_iff (by omega)).mp c10
    have kl := cl_nI (show l < 2 ^ 31 by omega)
    have hlen := i.1.len (l := l)
    obtain ⟨w1, w2⟩ := a.2.1.2.2.2.2.2.1 l (by omega)
    refine V_aload0 dX6_take_16 ?_
    refine gX6_32 dX6_take_17 ?_
    refine V_iload1 dX6_take_20 ?_
    refine V_iaload (by decide) aI_111 (by decide) rfl (by first | assumption | omega) dX6_take_21 ?_
    rw [w1]
    first | refine V_if_le_n 29 dX6_take_22 (by decide) (by omega) (fun c22 => ?_) (fun c22 => ?_) | refine V_if_le 29 dX6_take_22 (by decide) (fun c22 => ?_) (fun c22 => ?_)
    · refine V_iconst (nI 0) dX6_take_29 (by decide) ?_
      refine V_istore2 dX6_take_30 (by decide) rfl ?_
      refine V_aload0 dX6_take_31 ?_
      refine V_iload1 dX6_take_32 ?_
      refine kX6_131 (m_X6_wipe _ _ l (by omega)) (rOK_d (by decide) (by decide)) (Nat.le_of_ble_eq_true rfl) dX6_take_33 (fun h33 hq33 => ?_)
      obtain ⟨t1, t2, t3, t4, t5⟩ := hq33
      refine V_iload2 dX6_take_36 ?_
      refine V_ireti dX6_take_37 ?_
      rw [O_take, ite_t hg, kl]
      exact ⟨by first | exact bz_r1 (Nat.pos_of_ne_zero c22) | exact bz_r0 (by omega), RB_net a (RBn_wipe i.1 a.2.1 t1 t2 t3 t4 t5) (t1 _ (by decide)) (t1 _ (by decide)) (t1 _ (by decide)) (t1 _ (by decide)) (by rw [t1 100 (by decide)]) (by rw [t1 100 (by decide)])⟩
    · refine V_iconst (nI 1) dX6_take_25 (by decide) ?_
      refine V_goto 30 dX6_take_26 (by decide) ?_
      refine V_istore2 dX6_take_30 (by decide) rfl ?_
      refine V_aload0 dX6_take_31 ?_
      refine V_iload1 dX6_take_32 ?_
      refine kX6_131 (m_X6_wipe _ _ l (by omega)) (rOK_d (by decide) (by decide)) (Nat.le_of_ble_eq_true rfl) dX6_take_33 (fun h33 hq33 => ?_)
      obtain ⟨t1, t2, t3, t4, t5⟩ := hq33
      refine V_iload2 dX6_take_36 ?_
      refine V_ireti dX6_take_37 ?_
      rw [O_take, ite_t hg, kl]
      exact ⟨by first | exact bz_r1 (Nat.pos_of_ne_zero c22) | exact bz_r0 (by omega), RB_net a (RBn_wipe i.1 a.2.1 t1 t2 t3 t4 t5) (t1 _ (by decide)) (t1 _ (by decide)) (t1 _ (by decide)) (t1 _ (by decide)) (by rw [t1 100 (by decide)]) (by rw [t1 100 (by decide)])⟩
  · refine V_ldc ct_X6_82 dX6_take_13 ?_
    refine V_ireti dX6_take_15 ?_
    rw [O_take, ite_f c10]
    exact ⟨rfl, a⟩
