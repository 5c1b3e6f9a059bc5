theorem mem0 (W : Nat → Bool) (col : Nat → Nat) (t : Nat) : memT W 0 col t = 0 := by
  apply ext12 (memT_lt _ _ _ _) (by decide)
  intro l hl
  rw [memT_bit hl]
  simp
set_option maxRecDepth 4000 in
theorem l_X4_gather_in (G : GE) (h hc : Mem) (M : Nat → Nat) (hM : hasM M h) (k s : Nat) (hk : k < 12) (hs : s ≤ 200) (Q : Option Value → Mem → Prop) (e1 : same [16] h hc) (e2 : hc 16 k = nI (clM M k s)) (e3 : ∀ j, j < k → hc 16 j = nI (clM M j 200)) (K : ∀ hc, same [16] h hc → (∀ j, j < k + 1 → hc 16 j = nI (clM M j 200)) → V idsA G RX4 cX4_gatherClashes 4 none (rmD 0) 58 [some (.ref (ad G 6)), some (.ref (ad G 4)), some (.int (nI k)), some (.int (nI 200))] [] hc Q) : V idsA G RX4 cX4_gatherClashes 4 none (rmD 0) 17 [some (.ref (ad G 6)), some (.ref (ad G 4)), some (.int (nI k)), some (.int (nI s))] [] hc Q := by
  induction hz : 200 - s using Nat.strongRecOn generalizing hc s with
  | _ z ih =>
    subst hz
    refine V_iload3 dX4_gatherClashes_17 ?_
    refine V_sipush (nI 200) dX4_gatherClashes_18 (by decide) ?_
    first | refine V_icmp_ge_n 58 dX4_gatherClashes_21 (by decide) (by omega) (by omega) (fun c21 => ?_) (fun c21 => ?_) | refine V_icmp_ge 58 dX4_gatherClashes_21 (by decide) (fun c21 => ?_) (fun c21 => ?_)
    · obtain rfl : s = 200 := by omega
      exact K hc e1 (lt_s e3 e2)
    · refine V_aload1 dX4_gatherClashes_24 ?_
      refine gX4_40 dX4_gatherClashes_25 ?_
      refine V_iload3 dX4_gatherClashes_28 ?_
      refine V_iaload (by decide) aI_10 (by decide) rfl (by first | assumption | omega) dX4_gatherClashes_29 ?_
      rw [(hM.same e1 (by decide)).1 s (by omega)]
      refine V_iload2 dX4_gatherClashes_30 ?_
      refine V_ishr dX4_gatherClashes_31 ?_
      refine V_iconst (nI 1) dX4_gatherClashes_32 (by decide) ?_
      refine V_iand dX4_gatherClashes_33 ?_
      rw [shr_bit (hM.2 s) (by omega)]
      first | refine V_if_eq_z 52 dX4_gatherClashes_34 (by decide) (fun c34 => ?_) (fun c34 => ?_) | refine V_if_eq_n 52 dX4_gatherClashes_34 (by decide) (by omega) (fun c34 => ?_) (fun c34 => ?_) | refine V_if_eq 52 dX4_gatherClashes_34 (by decide) (fun c34 => ?_) (fun c34 => ?_)
      · first | refine V_iinc3_n 1 dX4_gatherClashes_52 (by decide) (by decide) rfl ?_ | refine V_iinc3 (nI 1) dX4_gatherClashes_52 (by decide) (by decide) rfl ?_
        refine V_goto 17 dX4_gatherClashes_55 (by decide) ?_
        first
        | exact ih _ (by omega) _ (s + 1) (by omega) (e1.wr _ _ (by decide)) (by rw [wr_s, clM, if_pos c34]) (fun j hj => by rw [wr_j _ _ (by omega)]; exact e3 j hj) rfl
        | exact ih _ (by omega) hc (s + 1) (by omega) e1 (by rw [e2, clM, if_neg c34]) e3 rfl
      · refine V_aload0 dX4_gatherClashes_37 ?_
        refine gX4_9 dX4_gatherClashes_38 ?_
        refine V_iload2 dX4_gatherClashes_41 ?_
        refine V_dup2 dX4_gatherClashes_42 rfl rfl ?_
        refine V_iaload (by decide) aI_16 (by decide) rfl (by first | assumption | omega) dX4_gatherClashes_43 ?_
        rw [e2]
        refine V_aload1 dX4_gatherClashes_44 ?_
        refine gX4_40 dX4_gatherClashes_45 ?_
        refine V_iload3 dX4_gatherClashes_48 ?_
        refine V_iaload (by decide) aI_10 (by decide) rfl (by first | assumption | omega) dX4_gatherClashes_49 ?_
        rw [(hM.same e1 (by decide)).1 s (by omega)]
        first | refine V_ior_n dX4_gatherClashes_50 ?_ | refine V_ior dX4_gatherClashes_50 ?_
        refine V_iastore (by decide) aI_16 (by decide) rfl (by first | assumption | omega) dX4_gatherClashes_51 ?_
        first | refine V_iinc3_n 1 dX4_gatherClashes_52 (by decide) (by decide) rfl ?_ | refine V_iinc3 (nI 1) dX4_gatherClashes_52 (by decide) (by decide) rfl ?_
        refine V_goto 17 dX4_gatherClashes_55 (by decide) ?_
        first
        | exact ih _ (by omega) _ (s + 1) (by omega) (e1.wr _ _ (by decide)) (by rw [wr_s, clM, if_pos c34]) (fun j hj => by rw [wr_j _ _ (by omega)]; exact e3 j hj) rfl
        | exact ih _ (by omega) hc (s + 1) (by omega) e1 (by rw [e2, clM, if_neg c34]) e3 rfl
set_option maxRecDepth 4000 in
theorem l_X4_gather (G : GE) (h hc : Mem) (M : Nat → Nat) (hM : hasM M h) (k : Nat) (hk : k ≤ 12) (v3 : OV) (e1 : same [16] h hc) (e3 : ∀ j, j < k → hc 16 j = nI (clM M j 200)) : V idsA G RX4 cX4_gatherClashes 4 none (rmD 0) 2 [some (.ref (ad G 6)), some (.ref (ad G 4)), some (.int (nI k)), v3] [] hc (Qv (fun h' => same [16] h h' ∧ ∀ j, j < 12 → h' 16 j = nI (clM M j 200))) := by
  induction hz : 12 - k using Nat.strongRecOn generalizing hc k v3 with
  | _ z ih =>
    subst hz
    refine V_iload2 dX4_gatherClashes_2 ?_
    refine V_bipush (nI 12) dX4_gatherClashes_3 (by decide) ?_
    first | refine V_icmp_ge_n 64 dX4_gatherClashes_5 (by decide) (by omega) (by omega) (fun c5 => ?_) (fun c5 => ?_) | refine V_icmp_ge 64 dX4_gatherClashes_5 (by decide) (fun c5 => ?_) (fun c5 => ?_)
    · refine V_vreti dX4_gatherClashes_64 ?_
      obtain rfl : k = 12 := by omega
      exact ⟨e1, e3⟩
    · refine V_aload0 dX4_gatherClashes_8 ?_
      refine gX4_9 dX4_gatherClashes_9 ?_
      refine V_iload2 dX4_gatherClashes_12 ?_
      refine V_iconst (nI 0) dX4_gatherClashes_13 (by decide) ?_
      refine V_iastore (by decide) aI_16 (by decide) rfl (by first | assumption | omega) dX4_gatherClashes_14 ?_
      refine V_iconst (nI 0) dX4_gatherClashes_15 (by decide) ?_
      refine V_istore3 dX4_gatherClashes_16 (by decide) rfl ?_
      refine l_X4_gather_in G h _ M hM k 0 (by omega) (by decide) _ (e1.wr _ _ (by decide)) (wr_s _ _ _ _) (fun j hj => by rw [wr_j _ _ (by omega)]; exact e3 j hj) (fun hc2 f1 f2 => ?_)
      first | refine V_iinc2_n 1 dX4_gatherClashes_58 (by decide) (by decide) rfl ?_ | refine V_iinc2 (nI 1) dX4_gatherClashes_58 (by decide) (by decide) rfl ?_
      refine V_goto 2 dX4_gatherClashes_61 (by decide) ?_
      exact ih _ (by omega) hc2 (k + 1) (by omega) _ f1 f2 rfl
set_option maxRecDepth 4000 in
theorem m_X4_gatherClashes (G : GE) (h : Mem) (M : Nat → Nat) (hM : hasM M h) : Ct idsA G yX4_gatherClashes cX4_gatherClashes 4 none (rmD 0) [.ref (ad G 6), .ref (ad G 4)] h (Qv fun h' => same [16] h h' ∧ ∀ j, j < 12 → h' 16 j = nI (clM M j 200)) := by
  refine Ct.of [some (.ref (ad G 6)), some (.ref (ad G 4)), none, none] (by decide) (Nat.le_of_ble_eq_true rfl) (lvE_ok 2 rfl) ?_
  refine V_iconst (nI 0) dX4_gatherClashes_0 (by decide) ?_
  refine V_istore2 dX4_gatherClashes_1 (by decide) rfl ?_
  exact l_X4_gather G h h M hM 0 (by decide) _ same.rf (fun _ z => absurd z (Nat.not_lt_zero _))
set_option maxRecDepth 4000 in
theorem l_X4_tintAll_1 (G : GE) (h hc : Mem) (N : Ng) (k : Nat) (hk : k ≤ 12) (Q : Option Value → Mem → Prop) (e1 : same [6, 16, 17, 18] h hc) (e2 : ∀ j, j < 12 → hc 16 j = nI (nCl N j)) (e3 : ∀ l, l < k → hc 17 l = -1000000 ∧ hc 18 l = nI 0) (K : ∀ hc, same [6, 16, 17, 18] h hc → (∀ j, j < 12 → hc 16 j = nI (nCl N j)) → (∀ l, l < 12 → hc 17 l = -1000000 ∧ hc 18 l = nI 0) → V idsA G RX4 cX4_tintAll 4 none (rmD 14) 34 [some (.ref (ad G 6)), some (.ref (ad G 4)), some (.int (nI (msk (wmF N) 12))), some (.int (nI 12))] [] hc Q) : V idsA G RX4 cX4_tintAll 4 none (rmD 14) 7 [some (.ref (ad G 6)), some (.ref (ad G 4)), some (.int (nI (msk (wmF N) 12))), some (.int (nI k))] [] hc Q := by
  induction hz : 12 - k using Nat.strongRecOn generalizing hc k with
  | _ z ih =>
    subst hz
    refine V_iload3 dX4_tintAll_7 ?_
    refine V_bipush (nI 12) dX4_tintAll_8 (by decide) ?_
    first | refine V_icmp_ge_n 34 dX4_tintAll_10 (by decide) (by omega) (by omega) (fun c10 => ?_) (fun c10 => ?_) | refine V_icmp_ge 34 dX4_tintAll_10 (by decide) (fun c10 => ?_) (fun c10 => ?_)
    · obtain rfl : k = 12 := by omega
      exact K hc e1 e2 e3
    · refine V_aload0 dX4_tintAll_13 ?_
      refine gX4_15 dX4_tintAll_14 ?_
      refine V_iload3 dX4_tintAll_17 ?_
      refine V_ldc ct_X4_25 dX4_tintAll_18 ?_
      refine V_iastore (by decide) aI_17 (by decide) rfl (by first | assumption | omega) dX4_tintAll_20 ?_
      refine V_aload0 dX4_tintAll_21 ?_
      refine gX4_18 dX4_tintAll_22 ?_
      refine V_iload3 dX4_tintAll_25 ?_
      refine V_iconst (nI 0) dX4_tintAll_26 (by decide) ?_
      refine V_iastore (by decide) aI_18 (by decide) rfl (by first | assumption | omega) dX4_tintAll_27 ?_
      first | refine V_iinc3_n 1 dX4_tintAll_28 (by decide) (by decide) rfl ?_ | refine V_iinc3 (nI 1) dX4_tintAll_28 (by decide) (by decide) rfl ?_
      refine V_goto 7 dX4_tintAll_31 (by decide) ?_
      refine ih _ (by omega) _ (k + 1) (by omega) ((e1.wr _ _ (by decide)).wr _ _ (by decide)) (fun j hj => by rw [wr_c _ _ _ (by decide), wr_c _ _ _ (by decide)]; exact e2 j hj) (lt_s (fun l hl => ?_) ⟨by rw [wr_c _ _ _ (by decide), wr_s], wr_s _ _ _ _⟩) rfl
      rw [wr_c _ _ _ (by decide), wr_j _ _ (show l ≠ k by omega), wr_j _ _ (show l ≠ k by omega), wr_c _ _ _ (by decide)]
      exact e3 l hl
set_option maxRecDepth 4000 in
theorem l_X4_tintAll (G : GE) (h hc : Mem) (N : Ng) (i : Inv N) (m : Nat) (hm : m ≤ tnN N) (e1 : same [6, 16, 17, 18] h hc) (hT : TS (wmF N) (nCl N) m 0 (fun _ => 0) hc) : V idsA G RX4 cX4_tintAll 4 none (rmD 14) 42 [some (.ref (ad G 6)), some (.ref (ad G 4)), some (.int (nI (msk (wmF N) 12))), some (.int (nI 12))] [] hc (Qv (fun h' => same [6, 16, 17, 18] h h' ∧ TS (wmF N) (nCl N) (tnN N) 12 (tcN N) h')) := by
  induction hz : tnN N - m using Nat.strongRecOn generalizing hc m with
  | _ z ih =>
    subst hz
    obtain ⟨-, k2, k3⟩ := tnN_ok N
    refine V_aload0 dX4_tintAll_42 ?_
    refine V_iload2 dX4_tintAll_43 ?_
    refine V_iconst (nI 0) dX4_tintAll_44 (by decide) ?_
    refine V_iconst (nI 0) dX4_tintAll_45 (by decide) ?_
    rw [show (nI 0 : Int32) = nI (0 : Nat) from rfl]
    refine kX4_36 (m_X4_tintFrom G (wmF N) (nCl N) (fun j => clM_lt (mk_lt N) j 200) m (by omega) 12 0 (by decide) hc (fun _ => 0) 0 (by decide) hT) (rOK_d (by decide) (by decide)) (Nat.le_of_ble_eq_true rfl) dX4_tintAll_46 (fun r46 h46 hq46 => ?_)
    obtain ⟨t1, t2⟩ := hq46
    have s2 : same [6, 16, 17, 18] h h46 := e1.tr (t1.mono (by simp))
    rcases t2 with ⟨rfl, col', hd1, hT3⟩ | ⟨rfl, hd1, hT3⟩
    · have hmt : m = tnN N := by
        rcases (show m < tnN N ∨ m = tnN N by omega) with z | z
        · have := k2 m z
          rw [nDf, hd1] at this
          cases this
        · exact z
      have hcol : col' = tcN N := by
        have := tcN_ok N
        rw [nDf, ← hmt, hd1] at this
        exact Option.some.inj this
      refine V_if_ne 74 dX4_tintAll_49 (by decide) (fun c49 => ?_) (fun c49 => absurd c49 (by decide))
      refine V_vreti dX4_tintAll_74 ?_
      rw [← hmt, ← hcol]
      exact ⟨s2, hT3⟩
    · have hmt : m < tnN N := by
        rcases (show m < tnN N ∨ m = tnN N by omega) with z | z
        · exact z
        · have := tcN_ok N
          rw [nDf, ← z, hd1] at this
          cases this
      refine V_if_ne 74 dX4_tintAll_49 (by decide) (fun c49 => absurd rfl c49) (fun c49 => ?_)
      refine V_aload0 dX4_tintAll_52 ?_
      refine gX4_32 dX4_tintAll_53 ?_
      rw [hT3.1]
      refine V_bipush (nI 12) dX4_tintAll_56 (by decide) ?_
      first | refine V_icmp_ge_n 74 dX4_tintAll_58 (by decide) (by omega) (by omega) (fun c58 => ?_) (fun c58 => ?_) | refine V_icmp_ge 74 dX4_tintAll_58 (by decide) (fun c58 => ?_) (fun c58 => ?_)
      · exact absurd c58 (by omega) --end
      · refine V_aload0 dX4_tintAll_61 ?_
        refine V_dup dX4_tintAll_62 rfl ?_
        refine gX4_32 dX4_tintAll_63 ?_
        rw [hT3.1]
        refine V_iconst (nI 1) dX4_tintAll_66 (by decide) ?_
        first | refine V_iadd_n dX4_tintAll_67 ?_ | refine V_iadd dX4_tintAll_67 ?_
        refine pX4_32 dX4_tintAll_68 ?_
        refine V_goto 42 dX4_tintAll_71 (by decide) ?_
        refine ih _ (by omega) _ (m + 1) (by omega) (s2.wr _ _ (by decide)) ?_ rfl
        exact ⟨wr_s _ _ _ _, fun t ht => by rw [wr_c _ _ _ (by decide)]; exact hT3.2.1 t ht, fun j hj => by rw [wr_c _ _ _ (by decide)]; exact hT3.2.2.1 j hj, fun l hl hw => by rw [wr_c _ _ _ (by decide)]; exact hT3.2.2.2.1 l hl hw, fun l hl => absurd hl (Nat.not_lt_zero _)⟩
set_option maxRecDepth 4000 in
theorem m_X4_tintAll (G : GE) (h : Mem) (N : Ng) (i : Inv N) (r : RAn N h) : Ct idsA G yX4_tintAll cX4_tintAll 4 none (rmD 14) [.ref (ad G 6), .ref (ad G 4), .int (nI (msk (wmF N) 12))] h (Qv fun h' => same [6, 16, 17, 18] h h' ∧ TS (wmF N) (nCl N) (tnN N) 12 (tcN N) h') := by
  refine Ct.of [some (.ref (ad G 6)), some (.ref (ad G 4)), some (.int (nI (msk (wmF N) 12))), none] (by decide) (Nat.le_of_ble_eq_true rfl) (lvE_ok 1 rfl) ?_
  refine V_aload0 dX4_tintAll_0 ?_
  refine V_aload1 dX4_tintAll_1 ?_
  refine kX4_21 (m_X4_gatherClashes _ _ (nMk N) r.M) (rOK_d (by decide) (by decide)) (Nat.le_of_ble_eq_true rfl) dX4_tintAll_2 (fun h2 hq2 => ?_)
  obtain ⟨t1, t2⟩ := hq2
  refine V_iconst (nI 0) dX4_tintAll_5 (by decide) ?_
  refine V_istore3 dX4_tintAll_6 (by decide) rfl ?_
  refine l_X4_tintAll_1 G h _ N 0 (by decide) _ (t1.mono (by simp)) t2 (fun _ z => absurd z (Nat.not_lt_zero _)) (fun hc f1 f2 f3 => ?_)
  refine V_aload0 dX4_tintAll_34 ?_
  refine V_aload1 dX4_tintAll_35 ?_
  refine kX4_26 (m_X2_greatestWidth _ _ (nMk N) (r.M.same f1 (by decide))) (rOK_d (by decide) (by decide)) (Nat.le_of_ble_eq_true rfl) dX4_tintAll_36 (fun r36 h36 hq36 => ?_)
  obtain ⟨e_, rfl⟩ := hq36
  replace e_ := e_.symm
  subst e_
  refine pX4_32 dX4_tintAll_39 ?_
  refine l_X4_tintAll G h _ N i (mxW (nMk N) 200) (tn_ge N) (f1.wr _ _ (by decide)) ?_
  exact ⟨wr_s _ _ _ _, fun t ht => by rw [wr_c _ _ _ (by decide), (f3 t ht).2, mem0], fun j hj => by rw [wr_c _ _ _ (by decide)]; exact f2 j hj, fun l hl hw => by rw [wr_c _ _ _ (by decide)]; exact (f3 l hl).1, fun l hl => absurd hl (Nat.not_lt_zero _)⟩
set_option maxRecDepth 4000 in
theorem m_X5_tint (G : GE) (h : Mem) (S : St) (i : Ok S) (a : RA S h) (x : Int32) : Ct idsA G yX5_tint cX5_tint 2 (some .int) (rmD 15) [.ref (ad G 0), .int x] h (Qi fun rv h' => rv = (O_tint S x).1 ∧ RA (O_tint S x).2 h') := by
  refine Ct.of [some (.ref (ad G 0)), some (.int x)] (by decide) (Nat.le_of_ble_eq_true rfl) (lvE_ok 0 rfl) ?_
  refine V_iload1 dX5_tint_0 ?_
  refine V_ldc ct_X5_113 dX5_tint_1 ?_
  first | refine V_icmp_eq_n 17 dX5_tint_3 (by decide) (by omega) (by omega) (fun c3 => ?_) (fun c3 => ?_) | refine V_icmp_eq 17 dX5_tint_3 (by decide) (fun c3 => ?_) (fun c3 => ?_)
  · refine V_aload0 dX5_tint_17 ?_
    refine gX5_42 dX5_tint_18 ?_
    refine V_aload0 dX5_tint_21 ?_
    refine gX5_28 dX5_tint_22 ?_
    refine V_aload0 dX5_tint_25 ?_
    refine kX5_212 (m_X5_waysMask _ _ S.2.1 i.1 a.2.1) (rOK_d (by decide) (by decide)) (Nat.le_of_ble_eq_true rfl) dX5_tint_26 (fun r26 h26 hq26 => ?_)
    obtain ⟨e_, rfl⟩ := hq26
    replace e_ := e_.symm
    subst e_
    refine kX5_215 (m_X4_tintAll _ _ S.2.1 i.1 a.2.1) (rOK_d (by decide) (by decide)) (Nat.le_of_ble_eq_true rfl) dX5_tint_29 (fun h29 hq29 => ?_)
    obtain ⟨t1, t2⟩ := hq29
    have hnl := i.1.nl
    have a2 : RA S h29 := ⟨a.1.same t1 (by simp), a.2.1.same t1 (by unfold offN; decide), a.2.2.1.same t1 (by decide) (by decide), by rw [t1 0 (by decide)]; exact a.2.2.2⟩
    refine V_iload1 dX5_tint_32 ?_
    refine V_ldc ct_X5_113 dX5_tint_33 ?_
    refine V_icmp_ne 48 dX5_tint_35 (by decide) (fun c35 => ?_) (fun c35 => ?_)
    · have hin : inR x (nNl S.2.1) := by first | exact c11 | exact absurd c3 c35
      obtain ⟨l, hl, rfl⟩ := (inR_iff (by omega)).mp hin
      have kl := cl_nI (show l < 2 ^ 31 by omega)
      refine V_aload0 dX5_tint_48 ?_
      refine gX5_42 dX5_tint_49 ?_
      refine gX5_222 dX5_tint_52 ?_
      refine V_iload1 dX5_tint_55 ?_
      refine V_iaload (by decide) aI_17 (by decide) rfl (by first | assumption | omega) dX5_tint_56 ?_
      refine V_ireti dX5_tint_57 ?_
      first
      | (rw [O_tint, vTint, ite_t c35]; exact ⟨rfl, a2⟩)
      | (rw [O_tint, vTint, ite_f c35, ite_t hin, kl]
         by_cases z : nWy S.2.1 l = []
         · rw [ite_t z, t2.2.2.2.1 l (by omega) (decide_eq_false (fun y => y z))]; exact ⟨rfl, a2⟩
         · rw [ite_f z, t2.2.2.2.2 l (by omega) (decide_eq_true z)]; exact ⟨rfl, a2⟩)
    · skip
      refine V_aload0 dX5_tint_38 ?_
      refine gX5_42 dX5_tint_39 ?_
      refine gX5_219 dX5_tint_42 ?_
      rw [t2.1]
      refine V_goto 57 dX5_tint_45 (by decide) ?_
      refine V_ireti dX5_tint_57 ?_
      first
      | (rw [O_tint, vTint, ite_t c35]; exact ⟨rfl, a2⟩)
      | (rw [O_tint, vTint, ite_f c35, ite_t hin, kl]
         by_cases z : nWy S.2.1 l = []
         · rw [ite_t z, t2.2.2.2.1 l (by omega) (decide_eq_false (fun y => y z))]; exact ⟨rfl, a2⟩
         · rw [ite_f z, t2.2.2.2.2 l (by omega) (decide_eq_true z)]; exact ⟨rfl, a2⟩)
  · refine V_aload0 dX5_tint_6 ?_
    refine V_iload1 dX5_tint_7 ?_
    refine kX5_141 (m_X5_isLine _ _ S.2.1 i.1 a.2.1 _) (rOK_d (by decide) (by decide)) (Nat.le_of_ble_eq_true rfl) dX5_tint_8 (fun r8 h8 hq8 => ?_)
    obtain ⟨e_, rfl⟩ := hq8
    replace e_ := e_.symm
    subst e_
    first | refine V_if_ne_z 17 dX5_tint_11 (by decide) (fun c11 => ?_) (fun c11 => ?_) | refine V_if_ne_n 17 dX5_tint_11 (by decide) (by omega) (fun c11 => ?_) (fun c11 => ?_) | refine V_if_ne 17 dX5_tint_11 (by decide) (fun c11 => ?_) (fun c11 => ?_)
    · refine V_aload0 dX5_tint_17 ?_
      refine gX5_42 dX5_tint_18 ?_
      refine V_aload0 dX5_tint_21 ?_
      refine gX5_28 dX5_tint_22 ?_
      refine V_aload0 dX5_tint_25 ?_
      refine kX5_212 (m_X5_waysMask _ _ S.2.1 i.1 a.2.1) (rOK_d (by decide) (by decide)) (Nat.le_of_ble_eq_true rfl) dX5_tint_26 (fun r26 h26 hq26 => ?_)
      obtain ⟨e_, rfl⟩ := hq26
      replace e_ := e_.symm
      subst e_
      refine kX5_215 (m_X4_tintAll _ _ S.2.1 i.1 a.2.1) (rOK_d (by decide) (by decide)) (Nat.le_of_ble_eq_true rfl) dX5_tint_29 (fun h29 hq29 => ?_)
      obtain ⟨t1, t2⟩ := hq29
      have hnl := i.1.nl
      have a2 : RA S h29 := ⟨a.1.same t1 (by simp), a.2.1.same t1 (by unfold offN; decide), a.2.2.1.same t1 (by decide) (by decide), by rw [t1 0 (by decide)]; exact a.2.2.2⟩
      refine V_iload1 dX5_tint_32 ?_
      refine V_ldc ct_X5_113 dX5_tint_33 ?_
      refine V_icmp_ne 48 dX5_tint_35 (by decide) (fun c35 => ?_) (fun c35 => ?_)
      · have hin : inR x (nNl S.2.1) := by first | exact c11 | exact absurd c3 c35
        obtain ⟨l, hl, rfl⟩ := (inR_iff (by omega)).mp hin
        have kl := cl_nI (show l < 2 ^ 31 by omega)
        refine V_aload0 dX5_tint_48 ?_
        refine gX5_42 dX5_tint_49 ?_
        refine gX5_222 dX5_tint_52 ?_
        refine V_iload1 dX5_tint_55 ?_
        refine V_iaload (by decide) aI_17 (by decide) rfl (by first | assumption | omega) dX5_tint_56 ?_
        refine V_ireti dX5_tint_57 ?_
        first
        | (rw [O_tint, vTint, ite_t c35]; exact ⟨rfl, a2⟩)
        | (rw [O_tint, vTint, ite_f c35, ite_t hin, kl]
           by_cases z : nWy S.2.1 l = []
           · rw [ite_t z, t2.2.2.2.1 l (by omega) (decide_eq_false (fun y => y z))]; exact ⟨rfl, a2⟩
           · rw [ite_f z, t2.2.2.2.2 l (by omega) (decide_eq_true z)]; exact ⟨rfl, a2⟩)
      · skip
        refine V_aload0 dX5_tint_38 ?_
        refine gX5_42 dX5_tint_39 ?_
        refine gX5_219 dX5_tint_42 ?_
        rw [t2.1]
        refine V_goto 57 dX5_tint_45 (by decide) ?_
        refine V_ireti dX5_tint_57 ?_
        first
        | (rw [O_tint, vTint, ite_t c35]; exact ⟨rfl, a2⟩)
        | (rw [O_tint, vTint, ite_f c35, ite_t hin, kl]
           by_cases z : nWy S.2.1 l = []
           · rw [ite_t z, t2.2.2.2.1 l (by omega) (decide_eq_false (fun y => y z))]; exact ⟨rfl, a2⟩
           · rw [ite_f z, t2.2.2.2.2 l (by omega) (decide_eq_true z)]; exact ⟨rfl, a2⟩)
    · refine V_ldc ct_X5_57 dX5_tint_14 ?_
      refine V_ireti dX5_tint_16 ?_
      rw [O_tint, vTint, ite_f c3, ite_f c11]
      exact ⟨rfl, a⟩
