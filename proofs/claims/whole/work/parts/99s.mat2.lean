set_option maxRecDepth 4000 in
theorem l_X6_at (G : GE) (h : Mem) (N : Ng) (i : Inv N) (r : RBn N h) (l p : Nat) (hl : l < 12) (hp : p < 100) (d : Nat) (hd : d ≤ 4) : V idsB G RX6 cX6_at 5 (some .int) (rmD 3) 5 [some (.ref (ad G 100)), some (.int (nI l)), some (.int (nI p)), some (.int (nI (msk (atB N l p) d))), some (.int (nI d))] [] h (Qi (fun v h' => h' = h ∧ v = nI (atM N l p))) := by
  induction hn : 4 - d using Nat.strongRecOn generalizing d with
  | _ n ih =>
    subst hn
    refine V_iload4 dX6_at_5 ?_
    refine V_iconst (nI 4) dX6_at_7 (by decide) ?_
    first | refine V_icmp_ge_n 59 dX6_at_8 (by decide) (by omega) (by omega) (fun c8 => ?_) (fun c8 => ?_) | refine V_icmp_ge 59 dX6_at_8 (by decide) (fun c8 => ?_) (fun c8 => ?_)
    · refine V_iload3 dX6_at_59 ?_
      refine V_ireti dX6_at_60 ?_
      obtain rfl : d = 4 := by omega
      exact ⟨rfl, rfl⟩
    · refine V_iload3 dX6_at_11 ?_
      refine V_iload2 dX6_at_12 ?_
      refine V_iload4 dX6_at_13 ?_
      refine kX6_105 (m_X6_go _ _ _ _ hp (by omega)) (rOK_d (by decide) (by decide)) (Nat.le_of_ble_eq_true rfl) dX6_at_15 (fun r15 h15 hq15 => ?_)
      obtain ⟨e_, rfl⟩ := hq15
      replace e_ := e_.symm
      subst e_
      cases e : nb p d with
      | none =>
        rw [oI_n]
        have hat : atB N l p d = false := by unfold atB; rw [e]
        refine V_ldc ct_X6_93 dX6_at_18 ?_
        refine V_icmp_eq 50 dX6_at_20 (by decide) (fun c20 => ?_) (fun c20 => absurd rfl c20)
        refine V_iconst (nI 0) dX6_at_50 (by decide) ?_
        refine V_ior dX6_at_51 ?_
        rw [fa_or]
        first
        | rw [msk_or (f := atB N l p) (k := d) hat]
        | rw [Nat.or_zero, msk_no (f := atB N l p) (k := d) hat]
        refine V_istore3 dX6_at_52 (by decide) rfl ?_
        first | refine V_iinc4_n 1 dX6_at_53 (by decide) (by decide) rfl ?_ | refine V_iinc4 (nI 1) dX6_at_53 (by decide) (by decide) rfl ?_
        refine V_goto 5 dX6_at_56 (by decide) ?_
        exact ih _ (by omega) (d + 1) (by omega) rfl
      | some q =>
        rw [oI_s]
        have hat0 : atB N l p d = nOn N l (sA p q d) := by unfold atB; rw [e]
        have hq := nb_lt hp e
        have hps := phi_sB hp (show d < 4 by omega) e
        refine V_ldc ct_X6_93 dX6_at_18 ?_
        refine V_icmp_eq 50 dX6_at_20 (by decide) (fun c20 => absurd c20 (nI_m (show q < 2 ^ 31 by omega))) (fun c20 => ?_)
        refine V_aload0 dX6_at_23 ?_
        refine gX6_38 dX6_at_24 ?_
        refine V_sipush (nI 180) dX6_at_27 (by decide) ?_
        refine V_iload1 dX6_at_30 ?_
        first | refine V_imul_n dX6_at_31 ?_ | refine V_imul dX6_at_31 ?_
        refine V_iload2 dX6_at_32 ?_
        refine V_iload4 dX6_at_33 ?_
        refine kX6_109 (m_X6_side _ _ _ _ hp (by omega) (nb_h3 e) (nb_h0 e)) (rOK_d (by decide) (by decide)) (Nat.le_of_ble_eq_true rfl) dX6_at_35 (fun r35 h35 hq35 => ?_)
        obtain ⟨e_, rfl⟩ := hq35
        replace e_ := e_.symm
        subst e_
        first | refine V_iadd_n dX6_at_38 ?_ | refine V_iadd dX6_at_38 ?_
        refine V_baload (by decide) aZ_113 (by decide) rfl (by omega) dX6_at_39 ?_
        rw [r.2.2.2.2.2.2.1 l hl _ hps.1, hps.2]
        first | refine V_if_eq_z 50 dX6_at_40 (by decide) (fun c40 => ?_) (fun c40 => ?_) | refine V_if_eq_n 50 dX6_at_40 (by decide) (by omega) (fun c40 => ?_) (fun c40 => ?_) | refine V_if_eq 50 dX6_at_40 (by decide) (fun c40 => ?_) (fun c40 => ?_)
        · have hat : atB N l p d = false := by rw [hat0]; exact Bool.eq_false_iff.mpr c40
          refine V_iconst (nI 0) dX6_at_50 (by decide) ?_
          refine V_ior dX6_at_51 ?_
          rw [fa_or]
          first
          | rw [msk_or (f := atB N l p) (k := d) hat]
          | rw [Nat.or_zero, msk_no (f := atB N l p) (k := d) hat]
          refine V_istore3 dX6_at_52 (by decide) rfl ?_
          first | refine V_iinc4_n 1 dX6_at_53 (by decide) (by decide) rfl ?_ | refine V_iinc4 (nI 1) dX6_at_53 (by decide) (by decide) rfl ?_
          refine V_goto 5 dX6_at_56 (by decide) ?_
          exact ih _ (by omega) (d + 1) (by omega) rfl
        · have hat : atB N l p d = true := by rw [hat0]; exact c40
          refine V_iconst (nI 1) dX6_at_43 (by decide) ?_
          refine V_iload4 dX6_at_44 ?_
          refine V_ishl dX6_at_46 ?_
          rw [shl_1 d (by omega)]
          refine V_goto 51 dX6_at_47 (by decide) ?_
          refine V_ior dX6_at_51 ?_
          rw [fa_or]
          first
          | rw [msk_or (f := atB N l p) (k := d) hat]
          | rw [Nat.or_zero, msk_no (f := atB N l p) (k := d) hat]
          refine V_istore3 dX6_at_52 (by decide) rfl ?_
          first | refine V_iinc4_n 1 dX6_at_53 (by decide) (by decide) rfl ?_ | refine V_iinc4 (nI 1) dX6_at_53 (by decide) (by decide) rfl ?_
          refine V_goto 5 dX6_at_56 (by decide) ?_
          exact ih _ (by omega) (d + 1) (by omega) rfl
set_option maxRecDepth 4000 in
theorem m_X6_at (G : GE) (h : Mem) (N : Ng) (i : Inv N) (r : RBn N h) (l p : Nat) (hl : l < 12) (hp : p < 100) : Ct idsB G yX6_at cX6_at 5 (some .int) (rmD 3) [.ref (ad G 100), .int (nI l), .int (nI p)] h (Qi fun v h' => h' = h ∧ v = nI (atM N l p)) := by
  refine Ct.of [some (.ref (ad G 100)), some (.int (nI l)), some (.int (nI p)), none, none] (by decide) (Nat.le_of_ble_eq_true rfl) (lvE_ok 2 rfl) ?_
  refine V_iconst (nI 0) dX6_at_0 (by decide) ?_
  refine V_istore3 dX6_at_1 (by decide) rfl ?_
  refine V_iconst (nI 0) dX6_at_2 (by decide) ?_
  refine V_istore4 dX6_at_3 (by decide) rfl ?_
  exact l_X6_at G h N i r l p hl hp 0 (by decide)
