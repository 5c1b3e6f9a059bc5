set_option maxRecDepth 4000 in
theorem l_X5_rest (G : GE) (h hc : Mem) (N : Ng) (i : Inv N) (k : Nat) (hk : k ≤ rsK N) (r2 : RAn (psI N k) hc) (s2 : smW h hc) : V idsA G RX5 cX5_rest 2 (some .int) (rmD 8) 2 [some (.ref (ad G 0)), some (.int (nI k))] [] hc (Qi (fun v h' => v = nI (rsK N) ∧ RAn (psI N (rsK N + 1)) h' ∧ smW h h')) := by
  induction hm : rsK N - k using Nat.strongRecOn generalizing hc k with
  | _ m ih =>
    subst hm
    obtain ⟨z1, z2, z3⟩ := rsK_ok i
    obtain ⟨j1, j2⟩ := psI_ok i k
    have hps := (psF_ok j1 (nNl (psI N k)) (Nat.le_refl _)).2.2
    have hpb : (o_pass (psI N k)).1 ≤ 12 := Nat.le_trans hps j1.nl
    refine V_iload1 dX5_rest_2 ?_
    refine V_ldc ct_X5_176 dX5_rest_3 ?_
    first | refine V_icmp_ge_n 21 dX5_rest_5 (by decide) (by omega) (by omega) (fun c5 => ?_) (fun c5 => ?_) | refine V_icmp_ge 21 dX5_rest_5 (by decide) (fun c5 => ?_) (fun c5 => ?_)
    · exact absurd c5 (by omega) --end
    · refine V_aload0 dX5_rest_8 ?_
      refine kX5_172 (m_X5_goThroughLines _ _ (psI N k) j1 r2) (rOK_d (by decide) (by decide)) (Nat.le_of_ble_eq_true rfl) dX5_rest_9 (fun r9 h9 hq9 => ?_)
      obtain ⟨rfl, t1, t2⟩ := hq9
      first | refine V_if_le_n 21 dX5_rest_12 (by decide) (by omega) (fun c12 => ?_) (fun c12 => ?_) | refine V_if_le 21 dX5_rest_12 (by decide) (fun c12 => ?_) (fun c12 => ?_)
      · refine V_iload1 dX5_rest_21 ?_
        refine V_ireti dX5_rest_22 ?_
        have he : k = rsK N := by
          rcases (show k < rsK N ∨ k = rsK N by omega) with y | y
          · exact absurd c12 (z2 k y)
          · exact y
        rw [← he]
        exact ⟨rfl, t1, s2.tr t2⟩
      · first | refine V_iinc1_n 1 dX5_rest_15 (by decide) (by decide) rfl ?_ | refine V_iinc1 (nI 1) dX5_rest_15 (by decide) (by decide) rfl ?_
        refine V_goto 2 dX5_rest_18 (by decide) ?_
        have hlt : k < rsK N := by
          rcases (show k < rsK N ∨ k = rsK N by omega) with y | y
          · exact y
          · rw [y] at c12; exact absurd z1 c12
        exact ih _ (by omega) _ (k + 1) (by omega) t1 (s2.tr t2) rfl
set_option maxRecDepth 4000 in
theorem m_X5_rest (G : GE) (h : Mem) (N : Ng) (i : Inv N) (r : RAn N h) : Ct idsA G yX5_rest cX5_rest 2 (some .int) (rmD 8) [.ref (ad G 0)] h (Qi fun v h' => v = nI (rsK N) ∧ RAn (psI N (rsK N + 1)) h' ∧ smW h h') := by
  refine Ct.of [some (.ref (ad G 0)), none] (by decide) (Nat.le_of_ble_eq_true rfl) (lvE_ok 1 rfl) ?_
  refine V_iconst (nI 0) dX5_rest_0 (by decide) ?_
  refine V_istore1 dX5_rest_1 (by decide) rfl ?_
  exact l_X5_rest G h h N i 0 (Nat.zero_le _) r smW.rf
