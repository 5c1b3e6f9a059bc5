set_option maxRecDepth 4000 in
theorem l_X6_isOfWay (G : GE) (h : Mem) (N : Ng) (i : Inv N) (r : RBn N h) (p : Nat) (hp : p < 100) (k : Nat) (hk : k ≤ 4) : V idsB G RX6 cX6_isOfWay 4 (some .boolean) (rmD 3) 4 [some (.ref (ad G 100)), some (.int (nI p)), some (.int (bz (¬ orL (nMk N) p k = 0))), some (.int (nI k))] [] h (Qi (fun v h' => h' = h ∧ v = bz (¬ orL (nMk N) p 4 = 0))) := by
  induction hn : 4 - k using Nat.strongRecOn generalizing k with
  | _ n ih =>
    subst hn
    refine V_iload3 dX6_isOfWay_4 ?_
    refine V_iconst (nI 4) dX6_isOfWay_5 (by decide) ?_
    first | refine V_icmp_ge_n 47 dX6_isOfWay_6 (by decide) (by omega) (by omega) (fun c6 => ?_) (fun c6 => ?_) | refine V_icmp_ge 47 dX6_isOfWay_6 (by decide) (fun c6 => ?_) (fun c6 => ?_)
    · refine V_iload2 dX6_isOfWay_47 ?_
      refine V_zreti dX6_isOfWay_48 (by first | exact bz_01 | exact nI_01 (Or.inl rfl) | exact nI_01 (Or.inr rfl) | assumption) ?_
      obtain rfl : k = 4 := by omega
      exact ⟨rfl, rfl⟩
    · refine V_iload2 dX6_isOfWay_9 ?_
      first | refine V_if_ne_z 35 dX6_isOfWay_10 (by decide) (fun c10 => ?_) (fun c10 => ?_) | refine V_if_ne_n 35 dX6_isOfWay_10 (by decide) (by omega) (fun c10 => ?_) (fun c10 => ?_) | refine V_if_ne 35 dX6_isOfWay_10 (by decide) (fun c10 => ?_) (fun c10 => ?_)
      · refine V_iconst (nI 1) dX6_isOfWay_35 (by decide) ?_
        refine V_goto 40 dX6_isOfWay_36 (by decide) ?_
        first
        | rw [show nI 1 = bz (¬ orL (nMk N) p (k + 1) = 0) from bz_r1 (fun z => c10 (or_0.mp z).1)]
        | rw [show nI 1 = bz (¬ orL (nMk N) p (k + 1) = 0) from bz_r1 (fun z => c32 ((popc_zero (mk_lt N _)).mpr (hlf ▸ (or_0.mp z).2)))]
        | rw [show nI 0 = bz (¬ orL (nMk N) p (k + 1) = 0) from bz_r0 (fun z => z (or_0.mpr ⟨Classical.not_not.mp c10, hlf.trans ((popc_zero (mk_lt N _)).mp c32)⟩))]
        | rw [show nI 0 = bz (¬ orL (nMk N) p (k + 1) = 0) from bz_r0 (fun z => z (or_0.mpr ⟨Classical.not_not.mp c10, hlf⟩))]
        refine V_istore2 dX6_isOfWay_40 (by decide) rfl ?_
        first | refine V_iinc3_n 1 dX6_isOfWay_41 (by decide) (by decide) rfl ?_ | refine V_iinc3 (nI 1) dX6_isOfWay_41 (by decide) (by decide) rfl ?_
        refine V_goto 4 dX6_isOfWay_44 (by decide) ?_
        exact ih _ (by omega) (k + 1) (by omega) rfl
      · refine V_iload1 dX6_isOfWay_13 ?_
        refine V_iload3 dX6_isOfWay_14 ?_
        refine kX6_105 (m_X6_go _ _ _ _ (by first | assumption | omega) (by first | assumption | omega)) (rOK_d (by decide) (by decide)) (Nat.le_of_ble_eq_true rfl) dX6_isOfWay_15 (fun r15 h15 hq15 => ?_)
        obtain ⟨e_, rfl⟩ := hq15
        replace e_ := e_.symm
        subst e_
        cases e : nb p k with
        | none =>
          rw [oI_n]
          have hlf : lfM (nMk N) p k = 0 := by simp [lfM, e]
          refine V_ldc ct_X6_93 dX6_isOfWay_18 ?_
          refine V_icmp_eq 39 dX6_isOfWay_20 (by decide) (fun c20 => ?_) (fun c20 => absurd rfl c20)
          refine V_iconst (nI 0) dX6_isOfWay_39 (by decide) ?_
          first
          | rw [show nI 1 = bz (¬ orL (nMk N) p (k + 1) = 0) from bz_r1 (fun z => c10 (or_0.mp z).1)]
          | rw [show nI 1 = bz (¬ orL (nMk N) p (k + 1) = 0) from bz_r1 (fun z => c32 ((popc_zero (mk_lt N _)).mpr (hlf ▸ (or_0.mp z).2)))]
          | rw [show nI 0 = bz (¬ orL (nMk N) p (k + 1) = 0) from bz_r0 (fun z => z (or_0.mpr ⟨Classical.not_not.mp c10, hlf.trans ((popc_zero (mk_lt N _)).mp c32)⟩))]
          | rw [show nI 0 = bz (¬ orL (nMk N) p (k + 1) = 0) from bz_r0 (fun z => z (or_0.mpr ⟨Classical.not_not.mp c10, hlf⟩))]
          refine V_istore2 dX6_isOfWay_40 (by decide) rfl ?_
          first | refine V_iinc3_n 1 dX6_isOfWay_41 (by decide) (by decide) rfl ?_ | refine V_iinc3 (nI 1) dX6_isOfWay_41 (by decide) (by decide) rfl ?_
          refine V_goto 4 dX6_isOfWay_44 (by decide) ?_
          exact ih _ (by omega) (k + 1) (by omega) rfl
        | some q =>
          rw [oI_s]
          have hq := nb_lt hp e
          have hlf : lfM (nMk N) p k = nMk N (sA p q k) := by simp [lfM, e]
          have hps := phi_sB hp (show k < 4 by omega) e
          have hpl := popc_le (nMk N (sA p q k))
          refine V_ldc ct_X6_93 dX6_isOfWay_18 ?_
          refine V_icmp_eq 39 dX6_isOfWay_20 (by decide) (fun c20 => absurd c20 (nI_m (by omega))) (fun c20 => ?_)
          refine V_aload0 dX6_isOfWay_23 ?_
          refine V_iload1 dX6_isOfWay_24 ?_
          refine V_iload3 dX6_isOfWay_25 ?_
          refine kX6_109 (m_X6_side _ _ _ _ hp (by omega) (nb_h3 e) (nb_h0 e)) (rOK_d (by decide) (by decide)) (Nat.le_of_ble_eq_true rfl) dX6_isOfWay_26 (fun r26 h26 hq26 => ?_)
          obtain ⟨e_, rfl⟩ := hq26
          replace e_ := e_.symm
          subst e_
          refine kX6_112 (m_X6_widthOf _ _ N i r _ hps.1) (rOK_d (by decide) (by decide)) (Nat.le_of_ble_eq_true rfl) dX6_isOfWay_29 (fun r29 h29 hq29 => ?_)
          obtain ⟨e_, rfl⟩ := hq29
          replace e_ := e_.symm
          subst e_
          rw [hps.2]
          first | refine V_if_le_n 39 dX6_isOfWay_32 (by decide) (by omega) (fun c32 => ?_) (fun c32 => ?_) | refine V_if_le 39 dX6_isOfWay_32 (by decide) (fun c32 => ?_) (fun c32 => ?_)
          · refine V_iconst (nI 0) dX6_isOfWay_39 (by decide) ?_
            first
            | rw [show nI 1 = bz (¬ orL (nMk N) p (k + 1) = 0) from bz_r1 (fun z => c10 (or_0.mp z).1)]
            | rw [show nI 1 = bz (¬ orL (nMk N) p (k + 1) = 0) from bz_r1 (fun z => c32 ((popc_zero (mk_lt N _)).mpr (hlf ▸ (or_0.mp z).2)))]
            | rw [show nI 0 = bz (¬ orL (nMk N) p (k + 1) = 0) from bz_r0 (fun z => z (or_0.mpr ⟨Classical.not_not.mp c10, hlf.trans ((popc_zero (mk_lt N _)).mp c32)⟩))]
            | rw [show nI 0 = bz (¬ orL (nMk N) p (k + 1) = 0) from bz_r0 (fun z => z (or_0.mpr ⟨Classical.not_not.mp c10, hlf⟩))]
            refine V_istore2 dX6_isOfWay_40 (by decide) rfl ?_
            first | refine V_iinc3_n 1 dX6_isOfWay_41 (by decide) (by decide) rfl ?_ | refine V_iinc3 (nI 1) dX6_isOfWay_41 (by decide) (by decide) rfl ?_
            refine V_goto 4 dX6_isOfWay_44 (by decide) ?_
            exact ih _ (by omega) (k + 1) (by omega) rfl
          · refine V_iconst (nI 1) dX6_isOfWay_35 (by decide) ?_
            refine V_goto 40 dX6_isOfWay_36 (by decide) ?_
            first
            | rw [show nI 1 = bz (¬ orL (nMk N) p (k + 1) = 0) from bz_r1 (fun z => c10 (or_0.mp z).1)]
            | rw [show nI 1 = bz (¬ orL (nMk N) p (k + 1) = 0) from bz_r1 (fun z => c32 ((popc_zero (mk_lt N _)).mpr (hlf ▸ (or_0.mp z).2)))]
            | rw [show nI 0 = bz (¬ orL (nMk N) p (k + 1) = 0) from bz_r0 (fun z => z (or_0.mpr ⟨Classical.not_not.mp c10, hlf.trans ((popc_zero (mk_lt N _)).mp c32)⟩))]
            | rw [show nI 0 = bz (¬ orL (nMk N) p (k + 1) = 0) from bz_r0 (fun z => z (or_0.mpr ⟨Classical.not_not.mp c10, hlf⟩))]
            refine V_istore2 dX6_isOfWay_40 (by decide) rfl ?_
            first | refine V_iinc3_n 1 dX6_isOfWay_41 (by decide) (by decide) rfl ?_ | refine V_iinc3 (nI 1) dX6_isOfWay_41 (by decide) (by decide) rfl ?_
            refine V_goto 4 dX6_isOfWay_44 (by decide) ?_
            exact ih _ (by omega) (k + 1) (by omega) rfl
set_option maxRecDepth 4000 in
theorem m_X6_isOfWay (G : GE) (h : Mem) (N : Ng) (i : Inv N) (r : RBn N h) (p : Nat) (hp : p < 100) : Ct idsB G yX6_isOfWay cX6_isOfWay 4 (some .boolean) (rmD 3) [.ref (ad G 100), .int (nI p)] h (Qi fun v h' => h' = h ∧ v = bz (¬ orL (nMk N) p 4 = 0)) := by
  refine Ct.of [some (.ref (ad G 100)), some (.int (nI p)), none, none] (by decide) (Nat.le_of_ble_eq_true rfl) (lvE_ok 2 rfl) ?_
  refine V_iconst (nI 0) dX6_isOfWay_0 (by decide) ?_
  refine V_istore2 dX6_isOfWay_1 (by decide) rfl ?_
  refine V_iconst (nI 0) dX6_isOfWay_2 (by decide) ?_
  refine V_istore3 dX6_isOfWay_3 (by decide) rfl ?_
  rw [show nI 0 = bz (¬ orL (nMk N) p 0 = 0) from bz_r0 (fun z => z rfl)]
  exact l_X6_isOfWay G h N i r p hp 0 (by decide)
