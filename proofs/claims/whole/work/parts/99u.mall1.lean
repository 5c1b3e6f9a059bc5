set_option maxRecDepth 4000 in
theorem l_X6_all_c (G : GE) (h : Mem) (N : Ng) (i : Inv N) (r : RBn N h) (c s W : Nat) (hW : W ≤ 12) (Q : Option Value → Mem → Prop) (K : V idsB G RX6 cX6_all 9 (some .int) (rmD 4) 67 [some (.ref (ad G 100)), some (.int (nI 0)), some (.int (nI (c + fb_sm (nPr N) W))), some (.int (nI s)), some (.int (nI W)), some (.int (nI W)), none, none, none] [] h Q) (j : Nat) (hj : j ≤ W) : V idsB G RX6 cX6_all 9 (some .int) (rmD 4) 41 [some (.ref (ad G 100)), some (.int (nI 0)), some (.int (nI (c + fb_sm (nPr N) j))), some (.int (nI s)), some (.int (nI W)), some (.int (nI j)), none, none, none] [] h Q := by
  induction hm : W - j using Nat.strongRecOn generalizing j with
  | _ m ih =>
    subst hm
    refine V_iload5 dX6_all_41 ?_
    refine V_iload4 dX6_all_43 ?_
    first | refine V_icmp_ge_n 67 dX6_all_45 (by decide) (by omega) (by omega) (fun c45 => ?_) (fun c45 => ?_) | refine V_icmp_ge 67 dX6_all_45 (by decide) (fun c45 => ?_) (fun c45 => ?_)
    · obtain rfl : j = W := by omega
      exact K
    · refine V_iload1 dX6_all_48 ?_
      first | refine V_if_ne_z 67 dX6_all_49 (by decide) (fun c49 => ?_) (fun c49 => ?_) | refine V_if_ne_n 67 dX6_all_49 (by decide) (by omega) (fun c49 => ?_) (fun c49 => ?_) | refine V_if_ne 67 dX6_all_49 (by decide) (fun c49 => ?_) (fun c49 => ?_)
      · exact absurd rfl c49 --end
      · refine V_iload2 dX6_all_52 ?_
        refine V_aload0 dX6_all_53 ?_
        refine V_iload5 dX6_all_54 ?_
        refine kX6_125 (m_X6_costOf _ _ N i r j (by omega)) (rOK_d (by decide) (by decide)) (Nat.le_of_ble_eq_true rfl) dX6_all_56 (fun r56 h56 hq56 => ?_)
        obtain ⟨e_, rfl⟩ := hq56
        replace e_ := e_.symm
        subst e_
        first | refine V_iadd_n dX6_all_59 ?_ | refine V_iadd dX6_all_59 ?_
        refine V_istore2 dX6_all_60 (by decide) rfl ?_
        first | refine V_iinc5_n 1 dX6_all_61 (by decide) (by decide) rfl ?_ | refine V_iinc5 (nI 1) dX6_all_61 (by decide) (by decide) rfl ?_
        refine V_goto 41 dX6_all_64 (by decide) ?_
        rw [Nat.add_assoc, ← fb_sm_succ (nPr N)]
        exact ih _ (by omega) (j + 1) (by omega) rfl
set_option maxRecDepth 4000 in
theorem l_X6_all_10 (G : GE) (h : Mem) (N : Ng) (i : Inv N) (r : RBn N h) (Q : Option Value → Mem → Prop) (K : ∀ o4 o5, V idsB G RX6 cX6_all 9 (some .int) (rmD 4) 119 [some (.ref (ad G 100)), some (.int (nI 0)), some (.int (nI (fb_sm (fun s => fb_sm (nPr N) (popc (nMk N (phi s)))) 180))), some (.int (nI 180)), o4, o5, none, none, none] [] h Q) (s : Nat) (hs : s ≤ 180) (o4 o5 : OV) : V idsB G RX6 cX6_all 9 (some .int) (rmD 4) 24 [some (.ref (ad G 100)), some (.int (nI 0)), some (.int (nI (fb_sm (fun s => fb_sm (nPr N) (popc (nMk N (phi s)))) s))), some (.int (nI s)), o4, o5, none, none, none] [] h Q := by
  induction hm : 180 - s using Nat.strongRecOn generalizing s o4 o5 with
  | _ m ih =>
    subst hm
    refine V_iload3 dX6_all_24 ?_
    refine V_sipush (nI 180) dX6_all_25 (by decide) ?_
    first | refine V_icmp_ge_n 119 dX6_all_28 (by decide) (by omega) (by omega) (fun c28 => ?_) (fun c28 => ?_) | refine V_icmp_ge 119 dX6_all_28 (by decide) (fun c28 => ?_) (fun c28 => ?_)
    · obtain rfl : s = 180 := by omega
      exact K _ _
    · refine V_aload0 dX6_all_31 ?_
      refine V_iload3 dX6_all_32 ?_
      refine kX6_112 (m_X6_widthOf _ _ N i r s (by omega)) (rOK_d (by decide) (by decide)) (Nat.le_of_ble_eq_true rfl) dX6_all_33 (fun r33 h33 hq33 => ?_)
      obtain ⟨e_, rfl⟩ := hq33
      replace e_ := e_.symm
      subst e_
      have hpc := popc_le (nMk N (phi s))
      refine V_istore4 dX6_all_36 (by decide) rfl ?_
      refine V_iconst (nI 0) dX6_all_38 (by decide) ?_
      refine V_istore5 dX6_all_39 (by decide) rfl ?_
      refine l_X6_all_c G h N i r (fb_sm (fun s => fb_sm (nPr N) (popc (nMk N (phi s)))) s) s (popc (nMk N (phi s))) hpc _ ?_ 0 (Nat.zero_le _)
      refine V_iload2 dX6_all_67 ?_
      refine V_iload1 dX6_all_68 ?_
      refine V_iconst (nI 1) dX6_all_69 (by decide) ?_
      first | refine V_icmp_ne_n 82 dX6_all_70 (by decide) (by omega) (by omega) (fun c70 => ?_) (fun c70 => ?_) | refine V_icmp_ne 82 dX6_all_70 (by decide) (fun c70 => ?_) (fun c70 => ?_)
      · refine V_iload1 dX6_all_82 ?_
        refine V_iconst (nI 5) dX6_all_83 (by decide) ?_
        first | refine V_icmp_ne_n 92 dX6_all_84 (by decide) (by omega) (by omega) (fun c84 => ?_) (fun c84 => ?_) | refine V_icmp_ne 92 dX6_all_84 (by decide) (fun c84 => ?_) (fun c84 => ?_)
        · refine V_iconst (nI 0) dX6_all_92 (by decide) ?_
          first | refine V_iadd_n dX6_all_93 ?_ | refine V_iadd dX6_all_93 ?_
          refine V_istore2 dX6_all_94 (by decide) rfl ?_
          refine V_iload1 dX6_all_95 ?_
          refine V_iconst (nI 2) dX6_all_96 (by decide) ?_
          first | refine V_icmp_ne_n 111 dX6_all_97 (by decide) (by omega) (by omega) (fun c97 => ?_) (fun c97 => ?_) | refine V_icmp_ne 111 dX6_all_97 (by decide) (fun c97 => ?_) (fun c97 => ?_)
          · refine V_iload2 dX6_all_111 ?_
            refine V_istore2 dX6_all_112 (by decide) rfl ?_
            first | refine V_iinc3_n 1 dX6_all_113 (by decide) (by decide) rfl ?_ | refine V_iinc3 (nI 1) dX6_all_113 (by decide) (by decide) rfl ?_
            refine V_goto 24 dX6_all_116 (by decide) ?_
            rw [Nat.add_zero, ← fb_sm_succ (fun s => fb_sm (nPr N) (popc (nMk N (phi s))))]
            exact ih _ (by omega) (s + 1) (by omega) _ _ rfl
          · exact absurd c97 (by decide) --end
        · exact absurd c84 (by decide) --end
      · exact absurd c70 (by decide) --end
set_option maxRecDepth 4000 in
theorem l_X6_all_11 (G : GE) (h : Mem) (N : Ng) (i : Inv N) (r : RBn N h) (Q : Option Value → Mem → Prop) (K : ∀ o4 o5, V idsB G RX6 cX6_all 9 (some .int) (rmD 4) 119 [some (.ref (ad G 100)), some (.int (nI 1)), some (.int (nI (fb_ct (fun s => decide (¬ nMk N (phi s) = 0)) 180))), some (.int (nI 180)), o4, o5, none, none, none] [] h Q) (s : Nat) (hs : s ≤ 180) (o4 o5 : OV) : V idsB G RX6 cX6_all 9 (some .int) (rmD 4) 24 [some (.ref (ad G 100)), some (.int (nI 1)), some (.int (nI (fb_ct (fun s => decide (¬ nMk N (phi s) = 0)) s))), some (.int (nI s)), o4, o5, none, none, none] [] h Q := by
  induction hm : 180 - s using Nat.strongRecOn generalizing s o4 o5 with
  | _ m ih =>
    subst hm
    refine V_iload3 dX6_all_24 ?_
    refine V_sipush (nI 180) dX6_all_25 (by decide) ?_
    first | refine V_icmp_ge_n 119 dX6_all_28 (by decide) (by omega) (by omega) (fun c28 => ?_) (fun c28 => ?_) | refine V_icmp_ge 119 dX6_all_28 (by decide) (fun c28 => ?_) (fun c28 => ?_)
    · obtain rfl : s = 180 := by omega
      exact K _ _
    · refine V_aload0 dX6_all_31 ?_
      refine V_iload3 dX6_all_32 ?_
      refine kX6_112 (m_X6_widthOf _ _ N i r s (by omega)) (rOK_d (by decide) (by decide)) (Nat.le_of_ble_eq_true rfl) dX6_all_33 (fun r33 h33 hq33 => ?_)
      obtain ⟨e_, rfl⟩ := hq33
      replace e_ := e_.symm
      subst e_
      have hpc := popc_le (nMk N (phi s))
      refine V_istore4 dX6_all_36 (by decide) rfl ?_
      refine V_iconst (nI 0) dX6_all_38 (by decide) ?_
      refine V_istore5 dX6_all_39 (by decide) rfl ?_
      refine V_iload5 dX6_all_41 ?_
      refine V_iload4 dX6_all_43 ?_
      first | refine V_icmp_ge_n 67 dX6_all_45 (by decide) (by omega) (by omega) (fun c45 => ?_) (fun c45 => ?_) | refine V_icmp_ge 67 dX6_all_45 (by decide) (fun c45 => ?_) (fun c45 => ?_)
      · refine V_iload2 dX6_all_67 ?_
        refine V_iload1 dX6_all_68 ?_
        refine V_iconst (nI 1) dX6_all_69 (by decide) ?_
        first | refine V_icmp_ne_n 82 dX6_all_70 (by decide) (by omega) (by omega) (fun c70 => ?_) (fun c70 => ?_) | refine V_icmp_ne 82 dX6_all_70 (by decide) (fun c70 => ?_) (fun c70 => ?_)
        · exact absurd rfl c70 --end
        · refine V_iload4 dX6_all_73 ?_
          first | refine V_if_le_n 82 dX6_all_75 (by decide) (by omega) (fun c75 => ?_) (fun c75 => ?_) | refine V_if_le 82 dX6_all_75 (by decide) (fun c75 => ?_) (fun c75 => ?_)
          · refine V_iload1 dX6_all_82 ?_
            refine V_iconst (nI 5) dX6_all_83 (by decide) ?_
            first | refine V_icmp_ne_n 92 dX6_all_84 (by decide) (by omega) (by omega) (fun c84 => ?_) (fun c84 => ?_) | refine V_icmp_ne 92 dX6_all_84 (by decide) (fun c84 => ?_) (fun c84 => ?_)
            · refine V_iconst (nI 0) dX6_all_92 (by decide) ?_
              first | refine V_iadd_n dX6_all_93 ?_ | refine V_iadd dX6_all_93 ?_
              refine V_istore2 dX6_all_94 (by decide) rfl ?_
              refine V_iload1 dX6_all_95 ?_
              refine V_iconst (nI 2) dX6_all_96 (by decide) ?_
              first | refine V_icmp_ne_n 111 dX6_all_97 (by decide) (by omega) (by omega) (fun c97 => ?_) (fun c97 => ?_) | refine V_icmp_ne 111 dX6_all_97 (by decide) (fun c97 => ?_) (fun c97 => ?_)
              · refine V_iload2 dX6_all_111 ?_
                refine V_istore2 dX6_all_112 (by decide) rfl ?_
                first | refine V_iinc3_n 1 dX6_all_113 (by decide) (by decide) rfl ?_ | refine V_iinc3 (nI 1) dX6_all_113 (by decide) (by decide) rfl ?_
                refine V_goto 24 dX6_all_116 (by decide) ?_
                first
                | rw [ct_t (p := (fun s => decide (¬ nMk N (phi s) = 0))) (n := s) (decide_eq_true (fun z => c75 ((popc_zero (mk_lt N _)).mpr z)))]
                | rw [Nat.add_zero, ct_f (p := (fun s => decide (¬ nMk N (phi s) = 0))) (n := s) (decide_eq_false (fun z => z ((popc_zero (mk_lt N _)).mp c75)))]
                exact ih _ (by omega) (s + 1) (by omega) _ _ rfl
              · exact absurd c97 (by decide) --end
            · exact absurd c84 (by decide) --end
          · refine V_iconst (nI 1) dX6_all_78 (by decide) ?_
            refine V_goto 93 dX6_all_79 (by decide) ?_
            first | refine V_iadd_n dX6_all_93 ?_ | refine V_iadd dX6_all_93 ?_
            refine V_istore2 dX6_all_94 (by decide) rfl ?_
            refine V_iload1 dX6_all_95 ?_
            refine V_iconst (nI 2) dX6_all_96 (by decide) ?_
            first | refine V_icmp_ne_n 111 dX6_all_97 (by decide) (by omega) (by omega) (fun c97 => ?_) (fun c97 => ?_) | refine V_icmp_ne 111 dX6_all_97 (by decide) (fun c97 => ?_) (fun c97 => ?_)
            · refine V_iload2 dX6_all_111 ?_
              refine V_istore2 dX6_all_112 (by decide) rfl ?_
              first | refine V_iinc3_n 1 dX6_all_113 (by decide) (by decide) rfl ?_ | refine V_iinc3 (nI 1) dX6_all_113 (by decide) (by decide) rfl ?_
              refine V_goto 24 dX6_all_116 (by decide) ?_
              first
              | rw [ct_t (p := (fun s => decide (¬ nMk N (phi s) = 0))) (n := s) (decide_eq_true (fun z => c75 ((popc_zero (mk_lt N _)).mpr z)))]
              | rw [Nat.add_zero, ct_f (p := (fun s => decide (¬ nMk N (phi s) = 0))) (n := s) (decide_eq_false (fun z => z ((popc_zero (mk_lt N _)).mp c75)))]
              exact ih _ (by omega) (s + 1) (by omega) _ _ rfl
            · exact absurd c97 (by decide) --end
      · refine V_iload1 dX6_all_48 ?_
        first | refine V_if_ne_z 67 dX6_all_49 (by decide) (fun c49 => ?_) (fun c49 => ?_) | refine V_if_ne_n 67 dX6_all_49 (by decide) (by omega) (fun c49 => ?_) (fun c49 => ?_) | refine V_if_ne 67 dX6_all_49 (by decide) (fun c49 => ?_) (fun c49 => ?_)
        · refine V_iload2 dX6_all_67 ?_
          refine V_iload1 dX6_all_68 ?_
          refine V_iconst (nI 1) dX6_all_69 (by decide) ?_
          first | refine V_icmp_ne_n 82 dX6_all_70 (by decide) (by omega) (by omega) (fun c70 => ?_) (fun c70 => ?_) | refine V_icmp_ne 82 dX6_all_70 (by decide) (fun c70 => ?_) (fun c70 => ?_)
          · exact absurd rfl c70 --end
          · refine V_iload4 dX6_all_73 ?_
            first | refine V_if_le_n 82 dX6_all_75 (by decide) (by omega) (fun c75 => ?_) (fun c75 => ?_) | refine V_if_le 82 dX6_all_75 (by decide) (fun c75 => ?_) (fun c75 => ?_)
            · refine V_iload1 dX6_all_82 ?_
              refine V_iconst (nI 5) dX6_all_83 (by decide) ?_
              first | refine V_icmp_ne_n 92 dX6_all_84 (by decide) (by omega) (by omega) (fun c84 => ?_) (fun c84 => ?_) | refine V_icmp_ne 92 dX6_all_84 (by decide) (fun c84 => ?_) (fun c84 => ?_)
              · refine V_iconst (nI 0) dX6_all_92 (by decide) ?_
                first | refine V_iadd_n dX6_all_93 ?_ | refine V_iadd dX6_all_93 ?_
                refine V_istore2 dX6_all_94 (by decide) rfl ?_
                refine V_iload1 dX6_all_95 ?_
                refine V_iconst (nI 2) dX6_all_96 (by decide) ?_
                first | refine V_icmp_ne_n 111 dX6_all_97 (by decide) (by omega) (by omega) (fun c97 => ?_) (fun c97 => ?_) | refine V_icmp_ne 111 dX6_all_97 (by decide) (fun c97 => ?_) (fun c97 => ?_)
                · refine V_iload2 dX6_all_111 ?_
                  refine V_istore2 dX6_all_112 (by decide) rfl ?_
                  first | refine V_iinc3_n 1 dX6_all_113 (by decide) (by decide) rfl ?_ | refine V_iinc3 (nI 1) dX6_all_113 (by decide) (by decide) rfl ?_
                  refine V_goto 24 dX6_all_116 (by decide) ?_
                  first
                  | rw [ct_t (p := (fun s => decide (¬ nMk N (phi s) = 0))) (n := s) (decide_eq_true (fun z => c75 ((popc_zero (mk_lt N _)).mpr z)))]
                  | rw [Nat.add_zero, ct_f (p := (fun s => decide (¬ nMk N (phi s) = 0))) (n := s) (decide_eq_false (fun z => z ((popc_zero (mk_lt N _)).mp c75)))]
                  exact ih _ (by omega) (s + 1) (by omega) _ _ rfl
                · exact absurd c97 (by decide) --end
              · exact absurd c84 (by decide) --end
            · refine V_iconst (nI 1) dX6_all_78 (by decide) ?_
              refine V_goto 93 dX6_all_79 (by decide) ?_
              first | refine V_iadd_n dX6_all_93 ?_ | refine V_iadd dX6_all_93 ?_
              refine V_istore2 dX6_all_94 (by decide) rfl ?_
              refine V_iload1 dX6_all_95 ?_
              refine V_iconst (nI 2) dX6_all_96 (by decide) ?_
              first | refine V_icmp_ne_n 111 dX6_all_97 (by decide) (by omega) (by omega) (fun c97 => ?_) (fun c97 => ?_) | refine V_icmp_ne 111 dX6_all_97 (by decide) (fun c97 => ?_) (fun c97 => ?_)
              · refine V_iload2 dX6_all_111 ?_
                refine V_istore2 dX6_all_112 (by decide) rfl ?_
                first | refine V_iinc3_n 1 dX6_all_113 (by decide) (by decide) rfl ?_ | refine V_iinc3 (nI 1) dX6_all_113 (by decide) (by decide) rfl ?_
                refine V_goto 24 dX6_all_116 (by decide) ?_
                first
                | rw [ct_t (p := (fun s => decide (¬ nMk N (phi s) = 0))) (n := s) (decide_eq_true (fun z => c75 ((popc_zero (mk_lt N _)).mpr z)))]
                | rw [Nat.add_zero, ct_f (p := (fun s => decide (¬ nMk N (phi s) = 0))) (n := s) (decide_eq_false (fun z => z ((popc_zero (mk_lt N _)).mp c75)))]
                exact ih _ (by omega) (s + 1) (by omega) _ _ rfl
              · exact absurd c97 (by decide) --end
        · exact absurd c49 (by decide) --end
set_option maxRecDepth 4000 in
theorem l_X6_all_12 (G : GE) (h : Mem) (N : Ng) (i : Inv N) (r : RBn N h) (Q : Option Value → Mem → Prop) (K : ∀ o4 o5, V idsB G RX6 cX6_all 9 (some .int) (rmD 4) 119 [some (.ref (ad G 100)), some (.int (nI 2)), some (.int (nI (mxP N 180))), some (.int (nI 180)), o4, o5, none, none, none] [] h Q) (s : Nat) (hs : s ≤ 180) (o4 o5 : OV) : V idsB G RX6 cX6_all 9 (some .int) (rmD 4) 24 [some (.ref (ad G 100)), some (.int (nI 2)), some (.int (nI (mxP N s))), some (.int (nI s)), o4, o5, none, none, none] [] h Q := by
  induction hm : 180 - s using Nat.strongRecOn generalizing s o4 o5 with
  | _ m ih =>
    subst hm
    refine V_iload3 dX6_all_24 ?_
    refine V_sipush (nI 180) dX6_all_25 (by decide) ?_
    first | refine V_icmp_ge_n 119 dX6_all_28 (by decide) (by omega) (by omega) (fun c28 => ?_) (fun c28 => ?_) | refine V_icmp_ge 119 dX6_all_28 (by decide) (fun c28 => ?_) (fun c28 => ?_)
    · obtain rfl : s = 180 := by omega
      exact K _ _
    · refine V_aload0 dX6_all_31 ?_
      refine V_iload3 dX6_all_32 ?_
      refine kX6_112 (m_X6_widthOf _ _ N i r s (by omega)) (rOK_d (by decide) (by decide)) (Nat.le_of_ble_eq_true rfl) dX6_all_33 (fun r33 h33 hq33 => ?_)
      obtain ⟨e_, rfl⟩ := hq33
      replace e_ := e_.symm
      subst e_
      have hpc := popc_le (nMk N (phi s))
      refine V_istore4 dX6_all_36 (by decide) rfl ?_
      refine V_iconst (nI 0) dX6_all_38 (by decide) ?_
      refine V_istore5 dX6_all_39 (by decide) rfl ?_
      refine V_iload5 dX6_all_41 ?_
      refine V_iload4 dX6_all_43 ?_
      first | refine V_icmp_ge_n 67 dX6_all_45 (by decide) (by omega) (by omega) (fun c45 => ?_) (fun c45 => ?_) | refine V_icmp_ge 67 dX6_all_45 (by decide) (fun c45 => ?_) (fun c45 => ?_)
      · refine V_iload2 dX6_all_67 ?_
        refine V_iload1 dX6_all_68 ?_
        refine V_iconst (nI 1) dX6_all_69 (by decide) ?_
        first | refine V_icmp_ne_n 82 dX6_all_70 (by decide) (by omega) (by omega) (fun c70 => ?_) (fun c70 => ?_) | refine V_icmp_ne 82 dX6_all_70 (by decide) (fun c70 => ?_) (fun c70 => ?_)
        · refine V_iload1 dX6_all_82 ?_
          refine V_iconst (nI 5) dX6_all_83 (by decide) ?_
          first | refine V_icmp_ne_n 92 dX6_all_84 (by decide) (by omega) (by omega) (fun c84 => ?_) (fun c84 => ?_) | refine V_icmp_ne 92 dX6_all_84 (by decide) (fun c84 => ?_) (fun c84 => ?_)
          · refine V_iconst (nI 0) dX6_all_92 (by decide) ?_
            first | refine V_iadd_n dX6_all_93 ?_ | refine V_iadd dX6_all_93 ?_
            refine V_istore2 dX6_all_94 (by decide) rfl ?_
            refine V_iload1 dX6_all_95 ?_
            refine V_iconst (nI 2) dX6_all_96 (by decide) ?_
            have hmx := mxP_le N s
            rw [Nat.add_zero]
            first | refine V_icmp_ne_n 111 dX6_all_97 (by decide) (by omega) (by omega) (fun c97 => ?_) (fun c97 => ?_) | refine V_icmp_ne 111 dX6_all_97 (by decide) (fun c97 => ?_) (fun c97 => ?_)
            · exact absurd rfl c97 --end
            · refine V_iload4 dX6_all_100 ?_
              refine V_iload2 dX6_all_102 ?_
              first | refine V_icmp_le_n 111 dX6_all_103 (by decide) (by omega) (by omega) (fun c103 => ?_) (fun c103 => ?_) | refine V_icmp_le 111 dX6_all_103 (by decide) (fun c103 => ?_) (fun c103 => ?_)
              · refine V_iload2 dX6_all_111 ?_
                refine V_istore2 dX6_all_112 (by decide) rfl ?_
                first | refine V_iinc3_n 1 dX6_all_113 (by decide) (by decide) rfl ?_ | refine V_iinc3 (nI 1) dX6_all_113 (by decide) (by decide) rfl ?_
                refine V_goto 24 dX6_all_116 (by decide) ?_
                have hz := ih _ (by omega) (s + 1) (by omega) (some (.int (nI (popc (nMk N (phi s)))))) (some (.int (nI 0))) rfl
                rw [mxP] at hz
                first
                | (rw [Nat.max_eq_left (by omega)] at hz; exact hz)
                | (rw [Nat.max_eq_right (by omega)] at hz; exact hz)
              · refine V_iload4 dX6_all_106 ?_
                refine V_goto 112 dX6_all_108 (by decide) ?_
                refine V_istore2 dX6_all_112 (by decide) rfl ?_
                first | refine V_iinc3_n 1 dX6_all_113 (by decide) (by decide) rfl ?_ | refine V_iinc3 (nI 1) dX6_all_113 (by decide) (by decide) rfl ?_
                refine V_goto 24 dX6_all_116 (by decide) ?_
                have hz := ih _ (by omega) (s + 1) (by omega) (some (.int (nI (popc (nMk N (phi s)))))) (some (.int (nI 0))) rfl
                rw [mxP] at hz
                first
                | (rw [Nat.max_eq_left (by omega)] at hz; exact hz)
                | (rw [Nat.max_eq_right (by omega)] at hz; exact hz)
          · exact absurd c84 (by decide) --end
        · exact absurd c70 (by decide) --end
      · refine V_iload1 dX6_all_48 ?_
        first | refine V_if_ne_z 67 dX6_all_49 (by decide) (fun c49 => ?_) (fun c49 => ?_) | refine V_if_ne_n 67 dX6_all_49 (by decide) (by omega) (fun c49 => ?_) (fun c49 => ?_) | refine V_if_ne 67 dX6_all_49 (by decide) (fun c49 => ?_) (fun c49 => ?_)
        · refine V_iload2 dX6_all_67 ?_
          refine V_iload1 dX6_all_68 ?_
          refine V_iconst (nI 1) dX6_all_69 (by decide) ?_
          first | refine V_icmp_ne_n 82 dX6_all_70 (by decide) (by omega) (by omega) (fun c70 => ?_) (fun c70 => ?_) | refine V_icmp_ne 82 dX6_all_70 (by decide) (fun c70 => ?_) (fun c70 => ?_)
          · refine V_iload1 dX6_all_82 ?_
            refine V_iconst (nI 5) dX6_all_83 (by decide) ?_
            first | refine V_icmp_ne_n 92 dX6_all_84 (by decide) (by omega) (by omega) (fun c84 => ?_) (fun c84 => ?_) | refine V_icmp_ne 92 dX6_all_84 (by decide) (fun c84 => ?_) (fun c84 => ?_)
            · refine V_iconst (nI 0) dX6_all_92 (by decide) ?_
              first | refine V_iadd_n dX6_all_93 ?_ | refine V_iadd dX6_all_93 ?_
              refine V_istore2 dX6_all_94 (by decide) rfl ?_
              refine V_iload1 dX6_all_95 ?_
              refine V_iconst (nI 2) dX6_all_96 (by decide) ?_
              have hmx := mxP_le N s
              rw [Nat.add_zero]
              first | refine V_icmp_ne_n 111 dX6_all_97 (by decide) (by omega) (by omega) (fun c97 => ?_) (fun c97 => ?_) | refine V_icmp_ne 111 dX6_all_97 (by decide) (fun c97 => ?_) (fun c97 => ?_)
              · exact absurd rfl c97 --end
              · refine V_iload4 dX6_all_100 ?_
                refine V_iload2 dX6_all_102 ?_
                first | refine V_icmp_le_n 111 dX6_all_103 (by decide) (by omega) (by omega) (fun c103 => ?_) (fun c103 => ?_) | refine V_icmp_le 111 dX6_all_103 (by decide) (fun c103 => ?_) (fun c103 => ?_)
                · refine V_iload2 dX6_all_111 ?_
                  refine V_istore2 dX6_all_112 (by decide) rfl ?_
                  first | refine V_iinc3_n 1 dX6_all_113 (by decide) (by decide) rfl ?_ | refine V_iinc3 (nI 1) dX6_all_113 (by decide) (by decide) rfl ?_
                  refine V_goto 24 dX6_all_116 (by decide) ?_
                  have hz := ih _ (by omega) (s + 1) (by omega) (some (.int (nI (popc (nMk N (phi s)))))) (some (.int (nI 0))) rfl
                  rw [mxP] at hz
                  first
                  | (rw [Nat.max_eq_left (by omega)] at hz; exact hz)
                  | (rw [Nat.max_eq_right (by omega)] at hz; exact hz)
                · refine V_iload4 dX6_all_106 ?_
                  refine V_goto 112 dX6_all_108 (by decide) ?_
                  refine V_istore2 dX6_all_112 (by decide) rfl ?_
                  first | refine V_iinc3_n 1 dX6_all_113 (by decide) (by decide) rfl ?_ | refine V_iinc3 (nI 1) dX6_all_113 (by decide) (by decide) rfl ?_
                  refine V_goto 24 dX6_all_116 (by decide) ?_
                  have hz := ih _ (by omega) (s + 1) (by omega) (some (.int (nI (popc (nMk N (phi s)))))) (some (.int (nI 0))) rfl
                  rw [mxP] at hz
                  first
                  | (rw [Nat.max_eq_left (by omega)] at hz; exact hz)
                  | (rw [Nat.max_eq_right (by omega)] at hz; exact hz)
            · exact absurd c84 (by decide) --end
          · exact absurd c70 (by decide) --end
        · exact absurd c49 (by decide) --end
set_option maxRecDepth 4000 in
theorem l_X6_all_13 (G : GE) (h : Mem) (N : Ng) (i : Inv N) (r : RBn N h) (Q : Option Value → Mem → Prop) (K : ∀ o4 o5, V idsB G RX6 cX6_all 9 (some .int) (rmD 4) 119 [some (.ref (ad G 100)), some (.int (nI 3)), some (.int (nI (0))), some (.int (nI 180)), o4, o5, none, none, none] [] h Q) (s : Nat) (hs : s ≤ 180) (o4 o5 : OV) : V idsB G RX6 cX6_all 9 (some .int) (rmD 4) 24 [some (.ref (ad G 100)), some (.int (nI 3)), some (.int (nI (0))), some (.int (nI s)), o4, o5, none, none, none] [] h Q := by
  induction hm : 180 - s using Nat.strongRecOn generalizing s o4 o5 with
  | _ m ih =>
    subst hm
    refine V_iload3 dX6_all_24 ?_
    refine V_sipush (nI 180) dX6_all_25 (by decide) ?_
    first | refine V_icmp_ge_n 119 dX6_all_28 (by decide) (by omega) (by omega) (fun c28 => ?_) (fun c28 => ?_) | refine V_icmp_ge 119 dX6_all_28 (by decide) (fun c28 => ?_) (fun c28 => ?_)
    · obtain rfl : s = 180 := by omega
      exact K _ _
    · refine V_aload0 dX6_all_31 ?_
      refine V_iload3 dX6_all_32 ?_
      refine kX6_112 (m_X6_widthOf _ _ N i r s (by omega)) (rOK_d (by decide) (by decide)) (Nat.le_of_ble_eq_true rfl) dX6_all_33 (fun r33 h33 hq33 => ?_)
      obtain ⟨e_, rfl⟩ := hq33
      replace e_ := e_.symm
      subst e_
      have hpc := popc_le (nMk N (phi s))
      refine V_istore4 dX6_all_36 (by decide) rfl ?_
      refine V_iconst (nI 0) dX6_all_38 (by decide) ?_
      refine V_istore5 dX6_all_39 (by decide) rfl ?_
      refine V_iload5 dX6_all_41 ?_
      refine V_iload4 dX6_all_43 ?_
      first | refine V_icmp_ge_n 67 dX6_all_45 (by decide) (by omega) (by omega) (fun c45 => ?_) (fun c45 => ?_) | refine V_icmp_ge 67 dX6_all_45 (by decide) (fun c45 => ?_) (fun c45 => ?_)
      · refine V_iload2 dX6_all_67 ?_
        refine V_iload1 dX6_all_68 ?_
        refine V_iconst (nI 1) dX6_all_69 (by decide) ?_
        first | refine V_icmp_ne_n 82 dX6_all_70 (by decide) (by omega) (by omega) (fun c70 => ?_) (fun c70 => ?_) | refine V_icmp_ne 82 dX6_all_70 (by decide) (fun c70 => ?_) (fun c70 => ?_)
        · refine V_iload1 dX6_all_82 ?_
          refine V_iconst (nI 5) dX6_all_83 (by decide) ?_
          first | refine V_icmp_ne_n 92 dX6_all_84 (by decide) (by omega) (by omega) (fun c84 => ?_) (fun c84 => ?_) | refine V_icmp_ne 92 dX6_all_84 (by decide) (fun c84 => ?_) (fun c84 => ?_)
          · refine V_iconst (nI 0) dX6_all_92 (by decide) ?_
            first | refine V_iadd_n dX6_all_93 ?_ | refine V_iadd dX6_all_93 ?_
            refine V_istore2 dX6_all_94 (by decide) rfl ?_
            refine V_iload1 dX6_all_95 ?_
            refine V_iconst (nI 2) dX6_all_96 (by decide) ?_
            first | refine V_icmp_ne_n 111 dX6_all_97 (by decide) (by omega) (by omega) (fun c97 => ?_) (fun c97 => ?_) | refine V_icmp_ne 111 dX6_all_97 (by decide) (fun c97 => ?_) (fun c97 => ?_)
            · refine V_iload2 dX6_all_111 ?_
              refine V_istore2 dX6_all_112 (by decide) rfl ?_
              first | refine V_iinc3_n 1 dX6_all_113 (by decide) (by decide) rfl ?_ | refine V_iinc3 (nI 1) dX6_all_113 (by decide) (by decide) rfl ?_
              refine V_goto 24 dX6_all_116 (by decide) ?_
              rw [Nat.add_zero]
              exact ih _ (by omega) (s + 1) (by omega) _ _ rfl
            · exact absurd c97 (by decide) --end
          · exact absurd c84 (by decide) --end
        · exact absurd c70 (by decide) --end
      · refine V_iload1 dX6_all_48 ?_
        first | refine V_if_ne_z 67 dX6_all_49 (by decide) (fun c49 => ?_) (fun c49 => ?_) | refine V_if_ne_n 67 dX6_all_49 (by decide) (by omega) (fun c49 => ?_) (fun c49 => ?_) | refine V_if_ne 67 dX6_all_49 (by decide) (fun c49 => ?_) (fun c49 => ?_)
        · refine V_iload2 dX6_all_67 ?_
          refine V_iload1 dX6_all_68 ?_
          refine V_iconst (nI 1) dX6_all_69 (by decide) ?_
          first | refine V_icmp_ne_n 82 dX6_all_70 (by decide) (by omega) (by omega) (fun c70 => ?_) (fun c70 => ?_) | refine V_icmp_ne 82 dX6_all_70 (by decide) (fun c70 => ?_) (fun c70 => ?_)
          · refine V_iload1 dX6_all_82 ?_
            refine V_iconst (nI 5) dX6_all_83 (by decide) ?_
            first | refine V_icmp_ne_n 92 dX6_all_84 (by decide) (by omega) (by omega) (fun c84 => ?_) (fun c84 => ?_) | refine V_icmp_ne 92 dX6_all_84 (by decide) (fun c84 => ?_) (fun c84 => ?_)
            · refine V_iconst (nI 0) dX6_all_92 (by decide) ?_
              first | refine V_iadd_n dX6_all_93 ?_ | refine V_iadd dX6_all_93 ?_
              refine V_istore2 dX6_all_94 (by decide) rfl ?_
              refine V_iload1 dX6_all_95 ?_
              refine V_iconst (nI 2) dX6_all_96 (by decide) ?_
              first | refine V_icmp_ne_n 111 dX6_all_97 (by decide) (by omega) (by omega) (fun c97 => ?_) (fun c97 => ?_) | refine V_icmp_ne 111 dX6_all_97 (by decide) (fun c97 => ?_) (fun c97 => ?_)
              · refine V_iload2 dX6_all_111 ?_
                refine V_istore2 dX6_all_112 (by decide) rfl ?_
                first | refine V_iinc3_n 1 dX6_all_113 (by decide) (by decide) rfl ?_ | refine V_iinc3 (nI 1) dX6_all_113 (by decide) (by decide) rfl ?_
                refine V_goto 24 dX6_all_116 (by decide) ?_
                rw [Nat.add_zero]
                exact ih _ (by omega) (s + 1) (by omega) _ _ rfl
              · exact absurd c97 (by decide) --end
            · exact absurd c84 (by decide) --end
          · exact absurd c70 (by decide) --end
        · exact absurd c49 (by decide) --end
set_option maxRecDepth 4000 in
theorem l_X6_all_14 (G : GE) (h : Mem) (N : Ng) (i : Inv N) (r : RBn N h) (Q : Option Value → Mem → Prop) (K : ∀ o4 o5, V idsB G RX6 cX6_all 9 (some .int) (rmD 4) 119 [some (.ref (ad G 100)), some (.int (nI 4)), some (.int (nI (0))), some (.int (nI 180)), o4, o5, none, none, none] [] h Q) (s : Nat) (hs : s ≤ 180) (o4 o5 : OV) : V idsB G RX6 cX6_all 9 (some .int) (rmD 4) 24 [some (.ref (ad G 100)), some (.int (nI 4)), some (.int (nI (0))), some (.int (nI s)), o4, o5, none, none, none] [] h Q := by
  induction hm : 180 - s using Nat.strongRecOn generalizing s o4 o5 with
  | _ m ih =>
    subst hm
    refine V_iload3 dX6_all_24 ?_
    refine V_sipush (nI 180) dX6_all_25 (by decide) ?_
    first | refine V_icmp_ge_n 119 dX6_all_28 (by decide) (by omega) (by omega) (fun c28 => ?_) (fun c28 => ?_) | refine V_icmp_ge 119 dX6_all_28 (by decide) (fun c28 => ?_) (fun c28 => ?_)
    · obtain rfl : s = 180 := by omega
      exact K _ _
    · refine V_aload0 dX6_all_31 ?_
      refine V_iload3 dX6_all_32 ?_
      refine kX6_112 (m_X6_widthOf _ _ N i r s (by omega)) (rOK_d (by decide) (by decide)) (Nat.le_of_ble_eq_true rfl) dX6_all_33 (fun r33 h33 hq33 => ?_)
      obtain ⟨e_, rfl⟩ := hq33
      replace e_ := e_.symm
      subst e_
      have hpc := popc_le (nMk N (phi s))
      refine V_istore4 dX6_all_36 (by decide) rfl ?_
      refine V_iconst (nI 0) dX6_all_38 (by decide) ?_
      refine V_istore5 dX6_all_39 (by decide) rfl ?_
      refine V_iload5 dX6_all_41 ?_
      refine V_iload4 dX6_all_43 ?_
      first | refine V_icmp_ge_n 67 dX6_all_45 (by decide) (by omega) (by omega) (fun c45 => ?_) (fun c45 => ?_) | refine V_icmp_ge 67 dX6_all_45 (by decide) (fun c45 => ?_) (fun c45 => ?_)
      · refine V_iload2 dX6_all_67 ?_
        refine V_iload1 dX6_all_68 ?_
        refine V_iconst (nI 1) dX6_all_69 (by decide) ?_
        first | refine V_icmp_ne_n 82 dX6_all_70 (by decide) (by omega) (by omega) (fun c70 => ?_) (fun c70 => ?_) | refine V_icmp_ne 82 dX6_all_70 (by decide) (fun c70 => ?_) (fun c70 => ?_)
        · refine V_iload1 dX6_all_82 ?_
          refine V_iconst (nI 5) dX6_all_83 (by decide) ?_
          first | refine V_icmp_ne_n 92 dX6_all_84 (by decide) (by omega) (by omega) (fun c84 => ?_) (fun c84 => ?_) | refine V_icmp_ne 92 dX6_all_84 (by decide) (fun c84 => ?_) (fun c84 => ?_)
          · refine V_iconst (nI 0) dX6_all_92 (by decide) ?_
            first | refine V_iadd_n dX6_all_93 ?_ | refine V_iadd dX6_all_93 ?_
            refine V_istore2 dX6_all_94 (by decide) rfl ?_
            refine V_iload1 dX6_all_95 ?_
            refine V_iconst (nI 2) dX6_all_96 (by decide) ?_
            first | refine V_icmp_ne_n 111 dX6_all_97 (by decide) (by omega) (by omega) (fun c97 => ?_) (fun c97 => ?_) | refine V_icmp_ne 111 dX6_all_97 (by decide) (fun c97 => ?_) (fun c97 => ?_)
            · refine V_iload2 dX6_all_111 ?_
              refine V_istore2 dX6_all_112 (by decide) rfl ?_
              first | refine V_iinc3_n 1 dX6_all_113 (by decide) (by decide) rfl ?_ | refine V_iinc3 (nI 1) dX6_all_113 (by decide) (by decide) rfl ?_
              refine V_goto 24 dX6_all_116 (by decide) ?_
              rw [Nat.add_zero]
              exact ih _ (by omega) (s + 1) (by omega) _ _ rfl
            · exact absurd c97 (by decide) --end
          · exact absurd c84 (by decide) --end
        · exact absurd c70 (by decide) --end
      · refine V_iload1 dX6_all_48 ?_
        first | refine V_if_ne_z 67 dX6_all_49 (by decide) (fun c49 => ?_) (fun c49 => ?_) | refine V_if_ne_n 67 dX6_all_49 (by decide) (by omega) (fun c49 => ?_) (fun c49 => ?_) | refine V_if_ne 67 dX6_all_49 (by decide) (fun c49 => ?_) (fun c49 => ?_)
        · refine V_iload2 dX6_all_67 ?_
          refine V_iload1 dX6_all_68 ?_
          refine V_iconst (nI 1) dX6_all_69 (by decide) ?_
          first | refine V_icmp_ne_n 82 dX6_all_70 (by decide) (by omega) (by omega) (fun c70 => ?_) (fun c70 => ?_) | refine V_icmp_ne 82 dX6_all_70 (by decide) (fun c70 => ?_) (fun c70 => ?_)
          · refine V_iload1 dX6_all_82 ?_
            refine V_iconst (nI 5) dX6_all_83 (by decide) ?_
            first | refine V_icmp_ne_n 92 dX6_all_84 (by decide) (by omega) (by omega) (fun c84 => ?_) (fun c84 => ?_) | refine V_icmp_ne 92 dX6_all_84 (by decide) (fun c84 => ?_) (fun c84 => ?_)
            · refine V_iconst (nI 0) dX6_all_92 (by decide) ?_
              first | refine V_iadd_n dX6_all_93 ?_ | refine V_iadd dX6_all_93 ?_
              refine V_istore2 dX6_all_94 (by decide) rfl ?_
              refine V_iload1 dX6_all_95 ?_
              refine V_iconst (nI 2) dX6_all_96 (by decide) ?_
              first | refine V_icmp_ne_n 111 dX6_all_97 (by decide) (by omega) (by omega) (fun c97 => ?_) (fun c97 => ?_) | refine V_icmp_ne 111 dX6_all_97 (by decide) (fun c97 => ?_) (fun c97 => ?_)
              · refine V_iload2 dX6_all_111 ?_
                refine V_istore2 dX6_all_112 (by decide) rfl ?_
                first | refine V_iinc3_n 1 dX6_all_113 (by decide) (by decide) rfl ?_ | refine V_iinc3 (nI 1) dX6_all_113 (by decide) (by decide) rfl ?_
                refine V_goto 24 dX6_all_116 (by decide) ?_
                rw [Nat.add_zero]
                exact ih _ (by omega) (s + 1) (by omega) _ _ rfl
              · exact absurd c97 (by decide) --end
            · exact absurd c84 (by decide) --end
          · exact absurd c70 (by decide) --end
        · exact absurd c49 (by decide) --end
set_option maxRecDepth 4000 in
theorem l_X6_all_15 (G : GE) (h : Mem) (N : Ng) (i : Inv N) (r : RBn N h) (Q : Option Value → Mem → Prop) (K : ∀ o4 o5, V idsB G RX6 cX6_all 9 (some .int) (rmD 4) 119 [some (.ref (ad G 100)), some (.int (nI 5)), some (.int (nI (fb_sm (fun s => popc (nMk N (phi s))) 180))), some (.int (nI 180)), o4, o5, none, none, none] [] h Q) (s : Nat) (hs : s ≤ 180) (o4 o5 : OV) : V idsB G RX6 cX6_all 9 (some .int) (rmD 4) 24 [some (.ref (ad G 100)), some (.int (nI 5)), some (.int (nI (fb_sm (fun s => popc (nMk N (phi s))) s))), some (.int (nI s)), o4, o5, none, none, none] [] h Q := by
  induction hm : 180 - s using Nat.strongRecOn generalizing s o4 o5 with
  | _ m ih =>
    subst hm
    refine V_iload3 dX6_all_24 ?_
    refine V_sipush (nI 180) dX6_all_25 (by decide) ?_
    first | refine V_icmp_ge_n 119 dX6_all_28 (by decide) (by omega) (by omega) (fun c28 => ?_) (fun c28 => ?_) | refine V_icmp_ge 119 dX6_all_28 (by decide) (fun c28 => ?_) (fun c28 => ?_)
    · obtain rfl : s = 180 := by omega
      exact K _ _
    · refine V_aload0 dX6_all_31 ?_
      refine V_iload3 dX6_all_32 ?_
      refine kX6_112 (m_X6_widthOf _ _ N i r s (by omega)) (rOK_d (by decide) (by decide)) (Nat.le_of_ble_eq_true rfl) dX6_all_33 (fun r33 h33 hq33 => ?_)
      obtain ⟨e_, rfl⟩ := hq33
      replace e_ := e_.symm
      subst e_
      have hpc := popc_le (nMk N (phi s))
      refine V_istore4 dX6_all_36 (by decide) rfl ?_
      refine V_iconst (nI 0) dX6_all_38 (by decide) ?_
      refine V_istore5 dX6_all_39 (by decide) rfl ?_
      refine V_iload5 dX6_all_41 ?_
      refine V_iload4 dX6_all_43 ?_
      first | refine V_icmp_ge_n 67 dX6_all_45 (by decide) (by omega) (by omega) (fun c45 => ?_) (fun c45 => ?_) | refine V_icmp_ge 67 dX6_all_45 (by decide) (fun c45 => ?_) (fun c45 => ?_)
      · refine V_iload2 dX6_all_67 ?_
        refine V_iload1 dX6_all_68 ?_
        refine V_iconst (nI 1) dX6_all_69 (by decide) ?_
        first | refine V_icmp_ne_n 82 dX6_all_70 (by decide) (by omega) (by omega) (fun c70 => ?_) (fun c70 => ?_) | refine V_icmp_ne 82 dX6_all_70 (by decide) (fun c70 => ?_) (fun c70 => ?_)
        · refine V_iload1 dX6_all_82 ?_
          refine V_iconst (nI 5) dX6_all_83 (by decide) ?_
          first | refine V_icmp_ne_n 92 dX6_all_84 (by decide) (by omega) (by omega) (fun c84 => ?_) (fun c84 => ?_) | refine V_icmp_ne 92 dX6_all_84 (by decide) (fun c84 => ?_) (fun c84 => ?_)
          · exact absurd rfl c84 --end
          · refine V_iload4 dX6_all_87 ?_
            refine V_goto 93 dX6_all_89 (by decide) ?_
            first | refine V_iadd_n dX6_all_93 ?_ | refine V_iadd dX6_all_93 ?_
            refine V_istore2 dX6_all_94 (by decide) rfl ?_
            refine V_iload1 dX6_all_95 ?_
            refine V_iconst (nI 2) dX6_all_96 (by decide) ?_
            first | refine V_icmp_ne_n 111 dX6_all_97 (by decide) (by omega) (by omega) (fun c97 => ?_) (fun c97 => ?_) | refine V_icmp_ne 111 dX6_all_97 (by decide) (fun c97 => ?_) (fun c97 => ?_)
            · refine V_iload2 dX6_all_111 ?_
              refine V_istore2 dX6_all_112 (by decide) rfl ?_
              first | refine V_iinc3_n 1 dX6_all_113 (by decide) (by decide) rfl ?_ | refine V_iinc3 (nI 1) dX6_all_113 (by decide) (by decide) rfl ?_
              refine V_goto 24 dX6_all_116 (by decide) ?_
              rw [← fb_sm_succ (fun s => popc (nMk N (phi s)))]
              exact ih _ (by omega) (s + 1) (by omega) _ _ rfl
            · exact absurd c97 (by decide) --end
        · exact absurd c70 (by decide) --end
      · refine V_iload1 dX6_all_48 ?_
        first | refine V_if_ne_z 67 dX6_all_49 (by decide) (fun c49 => ?_) (fun c49 => ?_) | refine V_if_ne_n 67 dX6_all_49 (by decide) (by omega) (fun c49 => ?_) (fun c49 => ?_) | refine V_if_ne 67 dX6_all_49 (by decide) (fun c49 => ?_) (fun c49 => ?_)
        · refine V_iload2 dX6_all_67 ?_
          refine V_iload1 dX6_all_68 ?_
          refine V_iconst (nI 1) dX6_all_69 (by decide) ?_
          first | refine V_icmp_ne_n 82 dX6_all_70 (by decide) (by omega) (by omega) (fun c70 => ?_) (fun c70 => ?_) | refine V_icmp_ne 82 dX6_all_70 (by decide) (fun c70 => ?_) (fun c70 => ?_)
          · refine V_iload1 dX6_all_82 ?_
            refine V_iconst (nI 5) dX6_all_83 (by decide) ?_
            first | refine V_icmp_ne_n 92 dX6_all_84 (by decide) (by omega) (by omega) (fun c84 => ?_) (fun c84 => ?_) | refine V_icmp_ne 92 dX6_all_84 (by decide) (fun c84 => ?_) (fun c84 => ?_)
            · exact absurd rfl c84 --end
            · refine V_iload4 dX6_all_87 ?_
              refine V_goto 93 dX6_all_89 (by decide) ?_
              first | refine V_iadd_n dX6_all_93 ?_ | refine V_iadd dX6_all_93 ?_
              refine V_istore2 dX6_all_94 (by decide) rfl ?_
              refine V_iload1 dX6_all_95 ?_
              refine V_iconst (nI 2) dX6_all_96 (by decide) ?_
              first | refine V_icmp_ne_n 111 dX6_all_97 (by decide) (by omega) (by omega) (fun c97 => ?_) (fun c97 => ?_) | refine V_icmp_ne 111 dX6_all_97 (by decide) (fun c97 => ?_) (fun c97 => ?_)
              · refine V_iload2 dX6_all_111 ?_
                refine V_istore2 dX6_all_112 (by decide) rfl ?_
                first | refine V_iinc3_n 1 dX6_all_113 (by decide) (by decide) rfl ?_ | refine V_iinc3 (nI 1) dX6_all_113 (by decide) (by decide) rfl ?_
                refine V_goto 24 dX6_all_116 (by decide) ?_
                rw [← fb_sm_succ (fun s => popc (nMk N (phi s)))]
                exact ih _ (by omega) (s + 1) (by omega) _ _ rfl
              · exact absurd c97 (by decide) --end
          · exact absurd c70 (by decide) --end
        · exact absurd c49 (by decide) --end
