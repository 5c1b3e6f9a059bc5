set_option maxRecDepth 4000 in
theorem l_X6_ways (G : GE) (h : Mem) (N : Ng) (i : Inv N) (r : RBn N h) (k : Nat) (hk : k ≤ nNl N) : V idsB G RX6 cX6_ways 3 (some .int) (rmD 0) 4 [some (.ref (ad G 100)), some (.int (nI (fb_ct (wmF N) k))), some (.int (nI k))] [] h (Qi (fun v h' => h' = h ∧ v = nI (fb_ct (wmF N) (nNl N)))) := by
  induction hn : nNl N - k using Nat.strongRecOn generalizing k with
  | _ n ih =>
    subst hn
    have hnl := i.nl
    refine V_iload2 dX6_ways_4 ?_
    refine V_aload0 dX6_ways_5 ?_
    refine gX6_102 dX6_ways_6 ?_
    rw [r.2.1]
    first | refine V_icmp_ge_n 35 dX6_ways_9 (by decide) (by omega) (by omega) (fun c9 => ?_) (fun c9 => ?_) | refine V_icmp_ge 35 dX6_ways_9 (by decide) (fun c9 => ?_) (fun c9 => ?_)
    · refine V_iload1 dX6_ways_35 ?_
      refine V_ireti dX6_ways_36 ?_
      obtain rfl : k = nNl N := by omega
      exact ⟨rfl, rfl⟩
    · refine V_iload1 dX6_ways_12 ?_
      refine V_aload0 dX6_ways_13 ?_
      refine gX6_32 dX6_ways_14 ?_
      refine V_iload2 dX6_ways_17 ?_
      refine V_iaload (by decide) aI_111 (by decide) rfl (by first | assumption | omega) dX6_ways_18 ?_
      rw [(r.2.2.2.2.2.1 k (by omega)).1]
      have hlen := i.len (l := k)
      first | refine V_if_le_n 26 dX6_ways_19 (by decide) (by omega) (fun c19 => ?_) (fun c19 => ?_) | refine V_if_le 26 dX6_ways_19 (by decide) (fun c19 => ?_) (fun c19 => ?_)
      · refine V_iconst (nI 0) dX6_ways_26 (by decide) ?_
        first | refine V_iadd_n dX6_ways_27 ?_ | refine V_iadd dX6_ways_27 ?_
        refine V_istore1 dX6_ways_28 (by decide) rfl ?_
        first | refine V_iinc2_n 1 dX6_ways_29 (by decide) (by decide) rfl ?_ | refine V_iinc2 (nI 1) dX6_ways_29 (by decide) (by decide) rfl ?_
        refine V_goto 4 dX6_ways_32 (by decide) ?_
        first
        | rw [ct_t (p := wmF N) (n := k) (decide_eq_true (fun z => c19 (by rw [z]; rfl)))]
        | rw [Nat.add_zero, ct_f (p := wmF N) (n := k) (decide_eq_false (fun z => z (List.length_eq_zero_iff.mp c19)))]
        exact ih _ (by omega) (k + 1) (by omega) rfl
      · refine V_iconst (nI 1) dX6_ways_22 (by decide) ?_
        refine V_goto 27 dX6_ways_23 (by decide) ?_
        first | refine V_iadd_n dX6_ways_27 ?_ | refine V_iadd dX6_ways_27 ?_
        refine V_istore1 dX6_ways_28 (by decide) rfl ?_
        first | refine V_iinc2_n 1 dX6_ways_29 (by decide) (by decide) rfl ?_ | refine V_iinc2 (nI 1) dX6_ways_29 (by decide) (by decide) rfl ?_
        refine V_goto 4 dX6_ways_32 (by decide) ?_
        first
        | rw [ct_t (p := wmF N) (n := k) (decide_eq_true (fun z => c19 (by rw [z]; rfl)))]
        | rw [Nat.add_zero, ct_f (p := wmF N) (n := k) (decide_eq_false (fun z => z (List.length_eq_zero_iff.mp c19)))]
        exact ih _ (by omega) (k + 1) (by omega) rfl
set_option maxRecDepth 4000 in
theorem m_X6_ways (G : GE) (h : Mem) (N : Ng) (i : Inv N) (r : RBn N h) : Ct idsB G yX6_ways cX6_ways 3 (some .int) (rmD 0) [.ref (ad G 100)] h (Qi fun v h' => h' = h ∧ v = nI (fb_ct (wmF N) (nNl N))) := by
  refine Ct.of [some (.ref (ad G 100)), none, none] (by decide) (Nat.le_of_ble_eq_true rfl) (lvE_ok 2 rfl) ?_
  refine V_iconst (nI 0) dX6_ways_0 (by decide) ?_
  refine V_istore1 dX6_ways_1 (by decide) rfl ?_
  refine V_iconst (nI 0) dX6_ways_2 (by decide) ?_
  refine V_istore2 dX6_ways_3 (by decide) rfl ?_
  exact l_X6_ways G h N i r 0 (Nat.zero_le _)
set_option maxRecDepth 4000 in
theorem m_X6_isWide (G : GE) (h : Mem) (N : Ng) (i : Inv N) (r : RBn N h) (p d : Nat) (hp : p < 100) (hd : d < 4) : Ct idsB G yX6_isWide cX6_isWide 3 (some .boolean) (rmD 3) [.ref (ad G 100), .int (nI p), .int (nI d)] h (Qi fun v h' => h' = h ∧ v = bz (¬ lfM (nMk N) p d = 0)) := by
  refine Ct.of [some (.ref (ad G 100)), some (.int (nI p)), some (.int (nI d))] (by decide) (Nat.le_of_ble_eq_true rfl) (lvE_ok 0 rfl) ?_
  refine V_iload1 dX6_isWide_0 ?_
  refine V_iload2 dX6_isWide_1 ?_
  refine kX6_105 (m_X6_go _ _ _ _ (by first | assumption | omega) (by first | assumption | omega)) (rOK_d (by decide) (by decide)) (Nat.le_of_ble_eq_true rfl) dX6_isWide_2 (fun r2 h2 hq2 => ?_)
  obtain ⟨e_, rfl⟩ := hq2
  replace e_ := e_.symm
  subst e_
  cases e : nb p d with
  | none =>
    rw [oI_n]
    have hlf : lfM (nMk N) p d = 0 := by simp [lfM, e]
    refine V_ldc ct_X6_93 dX6_isWide_5 ?_
    refine V_icmp_eq 26 dX6_isWide_7 (by decide) (fun c7 => ?_) (fun c7 => absurd rfl c7)
    refine V_iconst (nI 0) dX6_isWide_26 (by decide) ?_
    refine V_zreti dX6_isWide_27 (by first | exact bz_01 | exact nI_01 (Or.inl rfl) | exact nI_01 (Or.inr rfl) | assumption) ?_
    exact ⟨rfl, bz_r0 (fun z => z hlf)⟩
  | some q =>
    rw [oI_s]
    have hq := nb_lt hp e
    have hlf : lfM (nMk N) p d = nMk N (sA p q d) := by simp [lfM, e]
    have hps := phi_sB hp hd e
    have hpl := popc_le (nMk N (sA p q d))
    refine V_ldc ct_X6_93 dX6_isWide_5 ?_
    refine V_icmp_eq 26 dX6_isWide_7 (by decide) (fun c7 => absurd c7 (nI_m (show q < 2 ^ 31 by omega))) (fun c7 => ?_)
    refine V_aload0 dX6_isWide_10 ?_
    refine V_iload1 dX6_isWide_11 ?_
    refine V_iload2 dX6_isWide_12 ?_
    refine kX6_109 (m_X6_side _ _ _ _ hp hd (nb_h3 e) (nb_h0 e)) (rOK_d (by decide) (by decide)) (Nat.le_of_ble_eq_true rfl) dX6_isWide_13 (fun r13 h13 hq13 => ?_)
    obtain ⟨e_, rfl⟩ := hq13
    replace e_ := e_.symm
    subst e_
    refine kX6_112 (m_X6_widthOf _ _ N i r _ hps.1) (rOK_d (by decide) (by decide)) (Nat.le_of_ble_eq_true rfl) dX6_isWide_16 (fun r16 h16 hq16 => ?_)
    obtain ⟨e_, rfl⟩ := hq16
    replace e_ := e_.symm
    subst e_
    rw [hps.2]
    first | refine V_if_le_n 26 dX6_isWide_19 (by decide) (by omega) (fun c19 => ?_) (fun c19 => ?_) | refine V_if_le 26 dX6_isWide_19 (by decide) (fun c19 => ?_) (fun c19 => ?_)
    · refine V_iconst (nI 0) dX6_isWide_26 (by decide) ?_
      refine V_zreti dX6_isWide_27 (by first | exact bz_01 | exact nI_01 (Or.inl rfl) | exact nI_01 (Or.inr rfl) | assumption) ?_
      rw [hlf]
      first
      | exact ⟨rfl, bz_r1 (fun z => c19 ((popc_zero (mk_lt N _)).mpr z))⟩
      | exact ⟨rfl, bz_r0 (fun z => z ((popc_zero (mk_lt N _)).mp c19))⟩
    · refine V_iconst (nI 1) dX6_isWide_22 (by decide) ?_
      refine V_goto 27 dX6_isWide_23 (by decide) ?_
      refine V_zreti dX6_isWide_27 (by first | exact bz_01 | exact nI_01 (Or.inl rfl) | exact nI_01 (Or.inr rfl) | assumption) ?_
      rw [hlf]
      first
      | exact ⟨rfl, bz_r1 (fun z => c19 ((popc_zero (mk_lt N _)).mpr z))⟩
      | exact ⟨rfl, bz_r0 (fun z => z ((popc_zero (mk_lt N _)).mp c19))⟩
noncomputable def enB (N : Ng) (q j : Nat) : Bool := @decide (∃ l, l < j ∧ endP N q l) (Classical.propDecidable _)
theorem enB_t {N : Ng} {q j : Nat} : enB N q j = true ↔ ∃ l, l < j ∧ endP N q l := by
  unfold enB
  exact @decide_eq_true_iff _ (Classical.propDecidable _)
theorem enB_s {N : Ng} {q j : Nat} : enB N q (j + 1) = true ↔ enB N q j = true ∨ endP N q j := by
  rw [enB_t, enB_t]
  constructor
  · rintro ⟨l, h1, h2⟩
    by_cases e : l = j
    · exact Or.inr (e ▸ h2)
    · exact Or.inl ⟨l, by omega, h2⟩
  · rintro (⟨l, h1, h2⟩ | h)
    · exact ⟨l, by omega, h2⟩
    · exact ⟨j, by omega, h⟩
theorem end_pt {N : Ng} (i : Inv N) {l k : Nat} (hl : l < nNl N) (hk : k < nNp N) : endP N (nPp N k) l ↔ nWy N l ≠ [] ∧ (nLa N l = k ∨ nLb N l = k) := by
  have hab := i.ab hl
  unfold endP nSt nGl
  refine and_congr Iff.rfl (or_congr ⟨fun z => i.2.2.2.1 _ _ hab.1 hk z, fun z => by rw [z]⟩ ⟨fun z => i.2.2.2.1 _ _ hab.2.1 hk z, fun z => by rw [z]⟩)
set_option maxRecDepth 4000 in
theorem l_X6_isEnd (G : GE) (h : Mem) (N : Ng) (i : Inv N) (r : RBn N h) (p : Nat) (hp : p < nNp N) (k : Nat) (hk : k ≤ nNl N) : V idsB G RX6 cX6_isEnd 4 (some .boolean) (rmD 0) 4 [some (.ref (ad G 100)), some (.int (nI p)), some (.int (bz (enB N (nPp N p) k = true))), some (.int (nI k))] [] h (Qi (fun v h' => h' = h ∧ v = bz (endB N (nPp N p) = true))) := by
  induction hn : nNl N - k using Nat.strongRecOn generalizing k with
  | _ n ih =>
    subst hn
    have hnl := i.nl
    have hnp := i.np
    refine V_iload3 dX6_isEnd_4 ?_
    refine V_aload0 dX6_isEnd_5 ?_
    refine gX6_102 dX6_isEnd_6 ?_
    rw [r.2.1]
    first | refine V_icmp_ge_n 57 dX6_isEnd_9 (by decide) (by omega) (by omega) (fun c9 => ?_) (fun c9 => ?_) | refine V_icmp_ge 57 dX6_isEnd_9 (by decide) (fun c9 => ?_) (fun c9 => ?_)
    · refine V_iload2 dX6_isEnd_57 ?_
      refine V_zreti dX6_isEnd_58 (by first | exact bz_01 | exact nI_01 (Or.inl rfl) | exact nI_01 (Or.inr rfl) | assumption) ?_
      obtain rfl : k = nNl N := by omega
      exact ⟨rfl, rfl⟩
    · refine V_iload2 dX6_isEnd_12 ?_
      first | refine V_if_ne_z 45 dX6_isEnd_13 (by decide) (fun c13 => ?_) (fun c13 => ?_) | refine V_if_ne_n 45 dX6_isEnd_13 (by decide) (by omega) (fun c13 => ?_) (fun c13 => ?_) | refine V_if_ne 45 dX6_isEnd_13 (by decide) (fun c13 => ?_) (fun c13 => ?_)
      · refine V_iconst (nI 1) dX6_isEnd_45 (by decide) ?_
        refine V_goto 50 dX6_isEnd_46 (by decide) ?_
        first
        | rw [show nI 1 = bz (enB N (nPp N p) (k + 1) = true) from bz_r1 (enB_s.mpr (Or.inl c13))]
        | rw [show nI 1 = bz (enB N (nPp N p) (k + 1) = true) from bz_r1 (enB_s.mpr (Or.inr (hep.mpr ⟨fun z => c22 (by rw [z]; rfl), Or.inl c32⟩)))]
        | rw [show nI 1 = bz (enB N (nPp N p) (k + 1) = true) from bz_r1 (enB_s.mpr (Or.inr (hep.mpr ⟨fun z => c22 (by rw [z]; rfl), Or.inr c42⟩)))]
        | rw [show nI 0 = bz (enB N (nPp N p) (k + 1) = true) from bz_r0 (fun z => (enB_s.mp z).elim c13 (fun y => (hep.mp y).1 (List.length_eq_zero_iff.mp c22)))]
        | rw [show nI 0 = bz (enB N (nPp N p) (k + 1) = true) from bz_r0 (fun z => (enB_s.mp z).elim c13 (fun y => (hep.mp y).2.elim c32 c42))]
        refine V_istore2 dX6_isEnd_50 (by decide) rfl ?_
        first | refine V_iinc3_n 1 dX6_isEnd_51 (by decide) (by decide) rfl ?_ | refine V_iinc3 (nI 1) dX6_isEnd_51 (by decide) (by decide) rfl ?_
        refine V_goto 4 dX6_isEnd_54 (by decide) ?_
        exact ih _ (by omega) (k + 1) (by omega) rfl
      · refine V_aload0 dX6_isEnd_16 ?_
        refine gX6_32 dX6_isEnd_17 ?_
        refine V_iload3 dX6_isEnd_20 ?_
        refine V_iaload (by decide) aI_111 (by decide) rfl (by first | assumption | omega) dX6_isEnd_21 ?_
        rw [(r.2.2.2.2.2.1 k (by omega)).1]
        have hlen := i.len (l := k)
        obtain ⟨f1, f2⟩ := r.2.2.2.2.1 k (by omega)
        have hab := i.ab (l := k) (by omega)
        have hep := end_pt i (l := k) (k := p) (by omega) hp
        first | refine V_if_le_n 49 dX6_isEnd_22 (by decide) (by omega) (fun c22 => ?_) (fun c22 => ?_) | refine V_if_le 49 dX6_isEnd_22 (by decide) (fun c22 => ?_) (fun c22 => ?_)
        · refine V_iconst (nI 0) dX6_isEnd_49 (by decide) ?_
          first
          | rw [show nI 1 = bz (enB N (nPp N p) (k + 1) = true) from bz_r1 (enB_s.mpr (Or.inl c13))]
          | rw [show nI 1 = bz (enB N (nPp N p) (k + 1) = true) from bz_r1 (enB_s.mpr (Or.inr (hep.mpr ⟨fun z => c22 (by rw [z]; rfl), Or.inl c32⟩)))]
          | rw [show nI 1 = bz (enB N (nPp N p) (k + 1) = true) from bz_r1 (enB_s.mpr (Or.inr (hep.mpr ⟨fun z => c22 (by rw [z]; rfl), Or.inr c42⟩)))]
          | rw [show nI 0 = bz (enB N (nPp N p) (k + 1) = true) from bz_r0 (fun z => (enB_s.mp z).elim c13 (fun y => (hep.mp y).1 (List.length_eq_zero_iff.mp c22)))]
          | rw [show nI 0 = bz (enB N (nPp N p) (k + 1) = true) from bz_r0 (fun z => (enB_s.mp z).elim c13 (fun y => (hep.mp y).2.elim c32 c42))]
          refine V_istore2 dX6_isEnd_50 (by decide) rfl ?_
          first | refine V_iinc3_n 1 dX6_isEnd_51 (by decide) (by decide) rfl ?_ | refine V_iinc3 (nI 1) dX6_isEnd_51 (by decide) (by decide) rfl ?_
          refine V_goto 4 dX6_isEnd_54 (by decide) ?_
          exact ih _ (by omega) (k + 1) (by omega) rfl
        · refine V_aload0 dX6_isEnd_25 ?_
          refine gX6_26 dX6_isEnd_26 ?_
          refine V_iload3 dX6_isEnd_29 ?_
          refine V_iaload (by decide) aI_109 (by decide) rfl (by first | assumption | omega) dX6_isEnd_30 ?_
          rw [f1]
          refine V_iload1 dX6_isEnd_31 ?_
          first | refine V_icmp_eq_n 45 dX6_isEnd_32 (by decide) (by omega) (by omega) (fun c32 => ?_) (fun c32 => ?_) | refine V_icmp_eq 45 dX6_isEnd_32 (by decide) (fun c32 => ?_) (fun c32 => ?_)
          · refine V_iconst (nI 1) dX6_isEnd_45 (by decide) ?_
            refine V_goto 50 dX6_isEnd_46 (by decide) ?_
            first
            | rw [show nI 1 = bz (enB N (nPp N p) (k + 1) = true) from bz_r1 (enB_s.mpr (Or.inl c13))]
            | rw [show nI 1 = bz (enB N (nPp N p) (k + 1) = true) from bz_r1 (enB_s.mpr (Or.inr (hep.mpr ⟨fun z => c22 (by rw [z]; rfl), Or.inl c32⟩)))]
            | rw [show nI 1 = bz (enB N (nPp N p) (k + 1) = true) from bz_r1 (enB_s.mpr (Or.inr (hep.mpr ⟨fun z => c22 (by rw [z]; rfl), Or.inr c42⟩)))]
            | rw [show nI 0 = bz (enB N (nPp N p) (k + 1) = true) from bz_r0 (fun z => (enB_s.mp z).elim c13 (fun y => (hep.mp y).1 (List.length_eq_zero_iff.mp c22)))]
            | rw [show nI 0 = bz (enB N (nPp N p) (k + 1) = true) from bz_r0 (fun z => (enB_s.mp z).elim c13 (fun y => (hep.mp y).2.elim c32 c42))]
            refine V_istore2 dX6_isEnd_50 (by decide) rfl ?_
            first | refine V_iinc3_n 1 dX6_isEnd_51 (by decide) (by decide) rfl ?_ | refine V_iinc3 (nI 1) dX6_isEnd_51 (by decide) (by decide) rfl ?_
            refine V_goto 4 dX6_isEnd_54 (by decide) ?_
            exact ih _ (by omega) (k + 1) (by omega) rfl
          · refine V_aload0 dX6_isEnd_35 ?_
            refine gX6_29 dX6_isEnd_36 ?_
            refine V_iload3 dX6_isEnd_39 ?_
            refine V_iaload (by decide) aI_110 (by decide) rfl (by first | assumption | omega) dX6_isEnd_40 ?_
            rw [f2]
            refine V_iload1 dX6_isEnd_41 ?_
            first | refine V_icmp_ne_n 49 dX6_isEnd_42 (by decide) (by omega) (by omega) (fun c42 => ?_) (fun c42 => ?_) | refine V_icmp_ne 49 dX6_isEnd_42 (by decide) (fun c42 => ?_) (fun c42 => ?_)
            · refine V_iconst (nI 0) dX6_isEnd_49 (by decide) ?_
              first
              | rw [show nI 1 = bz (enB N (nPp N p) (k + 1) = true) from bz_r1 (enB_s.mpr (Or.inl c13))]
              | rw [show nI 1 = bz (enB N (nPp N p) (k + 1) = true) from bz_r1 (enB_s.mpr (Or.inr (hep.mpr ⟨fun z => c22 (by rw [z]; rfl), Or.inl c32⟩)))]
              | rw [show nI 1 = bz (enB N (nPp N p) (k + 1) = true) from bz_r1 (enB_s.mpr (Or.inr (hep.mpr ⟨fun z => c22 (by rw [z]; rfl), Or.inr c42⟩)))]
              | rw [show nI 0 = bz (enB N (nPp N p) (k + 1) = true) from bz_r0 (fun z => (enB_s.mp z).elim c13 (fun y => (hep.mp y).1 (List.length_eq_zero_iff.mp c22)))]
              | rw [show nI 0 = bz (enB N (nPp N p) (k + 1) = true) from bz_r0 (fun z => (enB_s.mp z).elim c13 (fun y => (hep.mp y).2.elim c32 c42))]
              refine V_istore2 dX6_isEnd_50 (by decide) rfl ?_
              first | refine V_iinc3_n 1 dX6_isEnd_51 (by decide) (by decide) rfl ?_ | refine V_iinc3 (nI 1) dX6_isEnd_51 (by decide) (by decide) rfl ?_
              refine V_goto 4 dX6_isEnd_54 (by decide) ?_
              exact ih _ (by omega) (k + 1) (by omega) rfl
            · refine V_iconst (nI 1) dX6_isEnd_45 (by decide) ?_
              refine V_goto 50 dX6_isEnd_46 (by decide) ?_
              first
              | rw [show nI 1 = bz (enB N (nPp N p) (k + 1) = true) from bz_r1 (enB_s.mpr (Or.inl c13))]
              | rw [show nI 1 = bz (enB N (nPp N p) (k + 1) = true) from bz_r1 (enB_s.mpr (Or.inr (hep.mpr ⟨fun z => c22 (by rw [z]; rfl), Or.inl c32⟩)))]
              | rw [show nI 1 = bz (enB N (nPp N p) (k + 1) = true) from bz_r1 (enB_s.mpr (Or.inr (hep.mpr ⟨fun z => c22 (by rw [z]; rfl), Or.inr c42⟩)))]
              | rw [show nI 0 = bz (enB N (nPp N p) (k + 1) = true) from bz_r0 (fun z => (enB_s.mp z).elim c13 (fun y => (hep.mp y).1 (List.length_eq_zero_iff.mp c22)))]
              | rw [show nI 0 = bz (enB N (nPp N p) (k + 1) = true) from bz_r0 (fun z => (enB_s.mp z).elim c13 (fun y => (hep.mp y).2.elim c32 c42))]
              refine V_istore2 dX6_isEnd_50 (by decide) rfl ?_
              first | refine V_iinc3_n 1 dX6_isEnd_51 (by decide) (by decide) rfl ?_ | refine V_iinc3 (nI 1) dX6_isEnd_51 (by decide) (by decide) rfl ?_
              refine V_goto 4 dX6_isEnd_54 (by decide) ?_
              exact ih _ (by omega) (k + 1) (by omega) rfl
set_option maxRecDepth 4000 in
theorem m_X6_isEnd (G : GE) (h : Mem) (N : Ng) (i : Inv N) (r : RBn N h) (p : Nat) (hp : p < nNp N) : Ct idsB G yX6_isEnd cX6_isEnd 4 (some .boolean) (rmD 0) [.ref (ad G 100), .int (nI p)] h (Qi fun v h' => h' = h ∧ v = bz (endB N (nPp N p) = true)) := by
  refine Ct.of [some (.ref (ad G 100)), some (.int (nI p)), none, none] (by decide) (Nat.le_of_ble_eq_true rfl) (lvE_ok 2 rfl) ?_
  refine V_iconst (nI 0) dX6_isEnd_0 (by decide) ?_
  refine V_istore2 dX6_isEnd_1 (by decide) rfl ?_
  refine V_iconst (nI 0) dX6_isEnd_2 (by decide) ?_
  refine V_istore3 dX6_isEnd_3 (by decide) rfl ?_
  have e0 : nI 0 = bz (enB N (nPp N p) 0 = true) := bz_r0 (fun z => by obtain ⟨l, hl, -⟩ := enB_t.mp z; exact absurd hl (Nat.not_lt_zero _))
  have z := l_X6_isEnd G h N i r p hp 0 (Nat.zero_le _)
  rw [← e0] at z
  exact z
