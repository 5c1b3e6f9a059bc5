def lvS (S : St) (b : Nat) : St := (S.1, S.2.1, lvT S.2.2.1 b, S.2.2.2)
theorem RB_tr {S : St} {h h' : Mem} {T : Nat × (Nat → Nat)} (a : RB S h) (s : same [100, 120] h h') (e : ∀ j, j ≠ 21 → h' 100 j = h 100 j) (t : RBt T h') : RB (S.1, S.2.1, T, S.2.2.2) h' := by
  refine ⟨?_, ?_, t, ?_⟩
  · unfold RBs
    rw [s 102 (by decide), s 103 (by decide), s 104 (by decide)]
    exact a.1
  · unfold RBn
    rw [e 6 (by decide), e 8 (by decide), s 107 (by decide), s 105 (by decide), s 109 (by decide), s 110 (by decide), s 111 (by decide), s 112 (by decide), s 113 (by decide), s 114 (by decide)]
    exact a.2.1
  · rw [e 1 (by decide)]
    exact a.2.2.2
set_option maxRecDepth 4000 in
theorem m_X6_began (G : GE) (h : Mem) (S : St) (a : RB S h) (b : Nat) : Ct idsB G yX6_began cX6_began 2 none (rmD 0) [.ref (ad G 100), .int (nI b)] h (Qv fun h' => RB (lvS S b) h') := by
  refine Ct.of [some (.ref (ad G 100)), some (.int (nI b))] (by decide) (Nat.le_of_ble_eq_true rfl) (lvE_ok 0 rfl) ?_
  obtain ⟨t1, t2, t3⟩ := a.2.2.1
  refine V_aload0 dX6_began_0 ?_
  refine gX6_187 dX6_began_1 ?_
  rw [t2]
  refine V_bipush (nI 16) dX6_began_4 (by decide) ?_
  first | refine V_icmp_ge_n 29 dX6_began_6 (by decide) (by omega) (by omega) (fun c6 => ?_) (fun c6 => ?_) | refine V_icmp_ge 29 dX6_began_6 (by decide) (fun c6 => ?_) (fun c6 => ?_)
  · refine V_vreti dX6_began_29 ?_
    first
    | (rw [lvS, lvT, if_neg (Nat.not_lt_of_le c6)]; exact a)
    | (rw [lvS, lvT, if_pos (Nat.lt_of_not_le c6)]; exact RB_tr a ((same.rf.wr _ _ (by decide)).wr _ _ (by decide)) (fun j hj => by rw [wr_j _ _ hj, wr_c _ _ _ (by decide)]) ⟨Nat.lt_of_not_le c6, wr_s _ _ _ _, fun k hk => by
         rw [wr_c _ _ _ (by decide)]
         have hk2 : k < S.2.2.1.1 + 1 := hk
         by_cases e : k = S.2.2.1.1
         · rw [e, wr_s]; show nI b = nI (va_up S.2.2.1.2 S.2.2.1.1 b S.2.2.1.1); rw [va_up_s]
         · rw [wr_j _ _ e]; show _ = nI (va_up S.2.2.1.2 S.2.2.1.1 b k); rw [va_up_ne _ _ e]; exact t3 k (by omega)⟩)
  · refine V_aload0 dX6_began_9 ?_
    refine gX6_59 dX6_began_10 ?_
    refine V_aload0 dX6_began_13 ?_
    refine gX6_187 dX6_began_14 ?_
    rw [t2]
    refine V_iload1 dX6_began_17 ?_
    refine V_iastore (by decide) aI_120 (by decide) rfl (by first | assumption | omega) dX6_began_18 ?_
    refine V_aload0 dX6_began_19 ?_
    refine V_dup dX6_began_20 rfl ?_
    refine gX6_187 dX6_began_21 ?_
    rw [wr_c _ _ _ (by decide), t2]
    refine V_iconst (nI 1) dX6_began_24 (by decide) ?_
    first | refine V_iadd_n dX6_began_25 ?_ | refine V_iadd dX6_began_25 ?_
    refine pX6_187 dX6_began_26 ?_
    refine V_vreti dX6_began_29 ?_
    first
    | (rw [lvS, lvT, if_neg (Nat.not_lt_of_le c6)]; exact a)
    | (rw [lvS, lvT, if_pos (Nat.lt_of_not_le c6)]; exact RB_tr a ((same.rf.wr _ _ (by decide)).wr _ _ (by decide)) (fun j hj => by rw [wr_j _ _ hj, wr_c _ _ _ (by decide)]) ⟨Nat.lt_of_not_le c6, wr_s _ _ _ _, fun k hk => by
         rw [wr_c _ _ _ (by decide)]
         have hk2 : k < S.2.2.1.1 + 1 := hk
         by_cases e : k = S.2.2.1.1
         · rw [e, wr_s]; show nI b = nI (va_up S.2.2.1.2 S.2.2.1.1 b S.2.2.1.1); rw [va_up_s]
         · rw [wr_j _ _ e]; show _ = nI (va_up S.2.2.1.2 S.2.2.1.1 b k); rw [va_up_ne _ _ e]; exact t3 k (by omega)⟩)
