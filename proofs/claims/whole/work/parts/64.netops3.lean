theorem RAn_addP {N : Ng} {h : Mem} (i : Inv N) (r : RAn N h) {p : Nat} (hp : p < 100) : RAn (addP N p) (wr (wr (wr h 2 (nNp N) (nI p)) 9 p (nI (nNp N))) 0 7 (nI (nNp N + 1))) := by
  obtain ⟨r1, r2, r3, r4, r5, r6, r7, r8, r9, r10, r11⟩ := r
  have b : same [0, 2, 9] h (wr (wr (wr h 2 (nNp N) (nI p)) 9 p (nI (nNp N))) 0 7 (nI (nNp N + 1))) := ((same.rf.wr _ _ (by decide)).wr _ _ (by decide)).wr _ _ (by decide)
  have no : ∀ c, c ≠ 0 ∧ c ≠ 2 ∧ c ≠ 9 → c ∉ [0, 2, 9] := fun c hc => by simpa using hc
  refine ⟨wr_s _ _ _ _, by rw [wr_j _ _ (by decide), wr_c _ _ _ (by decide), wr_c _ _ _ (by decide)]; exact r2, fun k hk => ?_, fun q hq => by rw [b 8 (by decide)]; exact r4 q hq, fun q hq => ?_, fun l hl => ?_, fun l hl hn => by rw [b (40 + l) (no _ (by omega))]; exact r7 l hl hn, by rw [Mk_addP i]; exact r8.same b (by decide), r9.same b (by decide), by rw [b 4 (by decide)]; exact r10, by rw [b 4 (by decide)]; exact r11⟩
  · have hk2 : k < nNp N + 1 := hk
    show _ = nI (va_up (nPp N) (nNp N) p k)
    rw [wr_c _ _ _ (by decide), wr_c _ _ _ (by decide)]
    by_cases e : k = nNp N
    · rw [e, wr_s, va_up_s]
    · rw [wr_j _ _ e, va_up_ne _ _ e]; exact r3 k (by omega)
  · show _ = oI (ptF (va_up (nPp N) (nNp N) p) (nNp N + 1) q) (-1000000)
    rw [ptF_add, wr_c _ _ _ (by decide)]
    by_cases e : q = p
    · rw [e, wr_s, if_pos rfl]; rfl
    · rw [wr_j _ _ e, if_neg e, wr_c _ _ _ (by decide)]; exact r5 q hq
  · rw [(i.st_addP p hl).1, (i.st_addP p hl).2]
    exact (r6 l hl).same b (no _ (by omega)) (no _ (by omega))
theorem RAn_addL {N : Ng} {h : Mem} (i : Inv N) (r : RAn N h) {a b : Nat} (h12 : nNl N < 12) : RAn (addL N a b) (wr (wr (wr (wr h (40 + nNl N) 2 (nI (nPp N a))) (40 + nNl N) 3 (nI (nPp N b))) (40 + nNl N) 4 (nI 0)) 0 8 (nI (nNl N + 1))) := by
  obtain ⟨r1, r2, r3, r4, r5, r6, r7, r8, r9, r10, r11⟩ := r
  have s : same [0, 40 + nNl N] h (wr (wr (wr (wr h (40 + nNl N) 2 (nI (nPp N a))) (40 + nNl N) 3 (nI (nPp N b))) (40 + nNl N) 4 (nI 0)) 0 8 (nI (nNl N + 1))) := (((same.rf.wr _ _ (by simp)).wr _ _ (by simp)).wr _ _ (by simp)).wr _ _ (by simp)
  have no : ∀ c, c ≠ 0 ∧ c ≠ 40 + nNl N → c ∉ [0, 40 + nNl N] := fun c hc => by simpa using hc
  refine ⟨by rw [wr_j _ _ (by decide), wr_c _ _ _ (by omega), wr_c _ _ _ (by omega), wr_c _ _ _ (by omega)]; exact r1, wr_s _ _ _ _, fun k hk => by rw [s 2 (no _ (by omega))]; exact r3 k hk, fun q hq => by rw [s 8 (no _ (by omega))]; exact r4 q hq, fun q hq => by rw [s 9 (no _ (by omega))]; exact r5 q hq, fun l hl => ?_, fun l hl hn => ?_, by rw [Mk_addL i]; exact r8.same s (no _ (by omega)), r9.same s (no _ (by omega)), by rw [s 4 (no _ (by omega))]; exact r10, by rw [s 4 (no _ (by omega))]; exact r11⟩
  · have hl2 : l < nNl N + 1 := hl
    show hasL l (nPp N (va_up (nLa N) (nNl N) a l)) (nPp N (va_up (nLb N) (nNl N) b l)) (nWy N l) _
    by_cases e : l = nNl N
    · subst e
      rw [va_up_s, va_up_s, i.off (Nat.le_refl _)]
      refine ⟨?_, ?_, ?_, ?_, fun k hk => absurd hk (Nat.not_lt_zero _)⟩
      · rw [wr_c _ _ _ (by omega), wr_j _ _ (by decide), wr_j _ _ (by decide), wr_j _ _ (by decide)]; exact (r7 _ h12 (Nat.le_refl _)).1
      · rw [wr_c _ _ _ (by omega), wr_j _ _ (by decide), wr_j _ _ (by decide), wr_s]
      · rw [wr_c _ _ _ (by omega), wr_j _ _ (by decide), wr_s]
      · rw [wr_c _ _ _ (by omega), wr_s]; rfl
    · rw [va_up_ne _ _ e, va_up_ne _ _ e]
      exact (r6 l (by omega)).same s (no _ (by omega)) (no _ (by omega))
  · have hn2 : nNl N + 1 ≤ l := hn
    rw [s (40 + l) (no _ (by omega))]
    exact r7 l hl (by omega)
theorem RAn_setR {N : Ng} {h h' : Mem} (r : RAn N h) {b s : Nat} (t1 : same [4] h h') (t2 : h' 4 4 = nI b) (t3 : h' 4 5 = nI s) (hb : b ≤ 100) (hs : s ≤ 50) : RAn (setR N b s) h' := by
  obtain ⟨r1, r2, r3, r4, r5, r6, r7, r8, r9, r10, r11⟩ := r
  have no : ∀ c, c ≠ 4 → c ∉ [4] := fun c hc => by simpa using hc
  exact ⟨by rw [t1 0 (by decide)]; exact r1, by rw [t1 0 (by decide)]; exact r2, fun k hk => by rw [t1 2 (by decide)]; exact r3 k hk, fun q hq => by rw [t1 8 (by decide)]; exact r4 q hq, fun q hq => by rw [t1 9 (by decide)]; exact r5 q hq, fun l hl => (r6 l hl).same t1 (no _ (by omega)) (no _ (by omega)), fun l hl hn => by rw [t1 (40 + l) (no _ (by omega))]; exact r7 l hl hn, r8.same t1 (by decide), ⟨b, s, hb, hs, t2, t3, fun _ _ => rfl⟩, t2, t3⟩
set_option maxRecDepth 4000 in
theorem m_X5_point (G : GE) (h : Mem) (S : St) (i : Ok S) (a : RA S h) (x y : Int32) : Ct idsA G yX5_point cX5_point 4 (some .int) (rmD 1) [.ref (ad G 0), .int x, .int y] h (Qi fun rv h' => rv = (O_point S x y).1 ∧ RA (O_point S x y).2 h') := by
  refine Ct.of [some (.ref (ad G 0)), some (.int x), some (.int y), none] (by decide) (Nat.le_of_ble_eq_true rfl) (lvE_ok 1 rfl) ?_
  refine V_iload1 dX5_point_0 ?_
  refine V_iload2 dX5_point_1 ?_
  refine kX5_100 (m_X5_isPlace _ _ _ _) (rOK_d (by decide) (by decide)) (Nat.le_of_ble_eq_true rfl) dX5_point_2 (fun r2 h2 hq2 => ?_)
  obtain ⟨e_, rfl⟩ := hq2
  replace e_ := e_.symm
  subst e_
  first | refine V_if_ne_z 11 dX5_point_5 (by decide) (fun c5 => ?_) (fun c5 => ?_) | refine V_if_ne_n 11 dX5_point_5 (by decide) (by omega) (fun c5 => ?_) (fun c5 => ?_) | refine V_if_ne 11 dX5_point_5 (by decide) (fun c5 => ?_) (fun c5 => ?_)
  · obtain ⟨x', hx', rfl⟩ := (inR_iff (by decide)).mp c5.1
    obtain ⟨y', hy', rfl⟩ := (inR_iff (by decide)).mp c5.2
    have kx := cl_nI (show x' < 2 ^ 31 by omega)
    have ky := cl_nI (show y' < 2 ^ 31 by omega)
    have hp : y' * 10 + x' < 100 := by omega
    have i1 := i.1
    have hnp := i1.np
    refine V_iload1 dX5_point_11 ?_
    refine V_iload2 dX5_point_12 ?_
    refine kX5_103 (m_X5_placeAt _ _ _ _) (rOK_d (by decide) (by decide)) (Nat.le_of_ble_eq_true rfl) dX5_point_13 (fun r13 h13 hq13 => ?_)
    obtain ⟨e_, rfl⟩ := hq13
    replace e_ := e_.symm
    subst e_
    refine V_istore3 dX5_point_16 (by decide) rfl ?_
    refine V_aload0 dX5_point_17 ?_
    refine gX5_28 dX5_point_18 ?_
    refine gX5_106 dX5_point_21 ?_
    refine V_iload3 dX5_point_24 ?_
    refine V_baload (by decide) aZ_8 (by decide) rfl (by first | assumption | omega) dX5_point_25 ?_
    rw [a.2.1.2.2.2.1 _ hp]
    first | refine V_if_ne_z 43 dX5_point_26 (by decide) (fun c26 => ?_) (fun c26 => ?_) | refine V_if_ne_n 43 dX5_point_26 (by decide) (by omega) (fun c26 => ?_) (fun c26 => ?_) | refine V_if_ne 43 dX5_point_26 (by decide) (fun c26 => ?_) (fun c26 => ?_)
    · refine V_ldc ct_X5_114 dX5_point_43 ?_
      refine V_ireti dX5_point_45 ?_
      rw [O_point, ite_t c5, kx, ky, ite_t (by first | exact Or.inl c26 | exact Or.inr hpt)]
      exact ⟨rfl, a⟩
    · refine V_aload0 dX5_point_29 ?_
      refine gX5_28 dX5_point_30 ?_
      refine gX5_110 dX5_point_33 ?_
      refine V_iload3 dX5_point_36 ?_
      refine V_iaload (by decide) aI_9 (by decide) rfl (by first | assumption | omega) dX5_point_37 ?_
      rw [a.2.1.2.2.2.2.1 _ hp]
      refine V_ldc ct_X5_113 dX5_point_38 ?_
      refine V_icmp_eq 46 dX5_point_40 (by decide) (fun c40 => ?_) (fun c40 => ?_)
      · have hpn : ptF (nPp S.2.1) (nNp S.2.1) (y' * 10 + x') = none := (oI_ne (fun k hk => ptF_lt i1 hk)).mp c40
        refine V_aload0 dX5_point_46 ?_
        refine gX5_115 dX5_point_47 ?_
        rw [a.2.1.1]
        refine V_bipush (nI 12) dX5_point_50 (by decide) ?_
        first | refine V_icmp_lt_n 58 dX5_point_52 (by decide) (by omega) (by omega) (fun c52 => ?_) (fun c52 => ?_) | refine V_icmp_lt 58 dX5_point_52 (by decide) (fun c52 => ?_) (fun c52 => ?_)
        · refine V_aload0 dX5_point_58 ?_
          refine gX5_15 dX5_point_59 ?_
          refine V_aload0 dX5_point_62 ?_
          refine gX5_115 dX5_point_63 ?_
          rw [a.2.1.1]
          refine V_iload3 dX5_point_66 ?_
          refine V_iastore (by decide) aI_2 (by decide) rfl (by first | assumption | omega) dX5_point_67 ?_
          refine V_aload0 dX5_point_68 ?_
          refine gX5_28 dX5_point_69 ?_
          refine gX5_110 dX5_point_72 ?_
          refine V_iload3 dX5_point_75 ?_
          refine V_aload0 dX5_point_76 ?_
          refine gX5_115 dX5_point_77 ?_
          rw [wr_c _ _ _ (by decide), a.2.1.1]
          refine V_iastore (by decide) aI_9 (by decide) rfl (by first | assumption | omega) dX5_point_80 ?_
          refine V_aload0 dX5_point_81 ?_
          refine V_dup dX5_point_82 rfl ?_
          refine gX5_115 dX5_point_83 ?_
          rw [wr_c _ _ _ (by decide), wr_c _ _ _ (by decide), a.2.1.1]
          refine V_dup_x1 dX5_point_86 rfl rfl ?_
          refine V_iconst (nI 1) dX5_point_87 (by decide) ?_
          first | refine V_iadd_n dX5_point_88 ?_ | refine V_iadd dX5_point_88 ?_
          refine pX5_115 dX5_point_89 ?_
          refine V_ireti dX5_point_92 ?_
          rw [O_point, ite_t c5, kx, ky, ite_f (fun z => z.elim c26 (fun y => y hpn)), ite_f (Nat.not_le_of_lt c52)]
          exact ⟨rfl, RA_setN a (RAn_addP i1 a.2.1 hp) (fun c h1 h2 => by rw [wr_c _ _ _ (by omega), wr_c _ _ _ (by omega), wr_c _ _ _ (by omega)]) (by rw [wr_c _ _ _ (by omega), wr_c _ _ _ (by omega), wr_c _ _ _ (by omega)]) (by rw [wr_j _ _ (by decide), wr_c _ _ _ (by decide), wr_c _ _ _ (by decide)]) (by rw [wr_j _ _ (by decide), wr_c _ _ _ (by decide), wr_c _ _ _ (by decide)])⟩
        · refine V_ldc ct_X5_118 dX5_point_55 ?_
          refine V_ireti dX5_point_57 ?_
          rw [O_point, ite_t c5, kx, ky, ite_f (fun z => z.elim c26 (fun y => y hpn)), ite_t (Nat.le_of_not_lt c52)]
          exact ⟨rfl, a⟩
      · have hpt : ptF (nPp S.2.1) (nNp S.2.1) (y' * 10 + x') ≠ none := fun e => c40 ((oI_ne (fun k hk => ptF_lt i1 hk)).mpr e)
        refine V_ldc ct_X5_114 dX5_point_43 ?_
        refine V_ireti dX5_point_45 ?_
        rw [O_point, ite_t c5, kx, ky, ite_t (by first | exact Or.inl c26 | exact Or.inr hpt)]
        exact ⟨rfl, a⟩
  · refine V_ldc ct_X5_57 dX5_point_8 ?_
    refine V_ireti dX5_point_10 ?_
    rw [O_point, ite_f c5]
    exact ⟨rfl, a⟩
set_option maxRecDepth 4000 in
theorem m_X5_line (G : GE) (h : Mem) (S : St) (i : Ok S) (a : RA S h) (x y : Int32) : Ct idsA G yX5_line cX5_line 3 (some .int) (rmD 1) [.ref (ad G 0), .int x, .int y] h (Qi fun rv h' => rv = (O_line S x y).1 ∧ RA (O_line S x y).2 h') := by
  refine Ct.of [some (.ref (ad G 0)), some (.int x), some (.int y)] (by decide) (Nat.le_of_ble_eq_true rfl) (lvE_ok 0 rfl) ?_
  refine V_aload0 dX5_line_0 ?_
  refine V_iload1 dX5_line_1 ?_
  refine kX5_126 (m_X5_isPoint _ _ S.2.1 i.1 a.2.1 _) (rOK_d (by decide) (by decide)) (Nat.le_of_ble_eq_true rfl) dX5_line_2 (fun r2 h2 hq2 => ?_)
  obtain ⟨e_, rfl⟩ := hq2
  replace e_ := e_.symm
  subst e_
  first | refine V_if_eq_z 21 dX5_line_5 (by decide) (fun c5 => ?_) (fun c5 => ?_) | refine V_if_eq_n 21 dX5_line_5 (by decide) (by omega) (fun c5 => ?_) (fun c5 => ?_) | refine V_if_eq 21 dX5_line_5 (by decide) (fun c5 => ?_) (fun c5 => ?_)
  · refine V_ldc ct_X5_57 dX5_line_21 ?_
    refine V_ireti dX5_line_23 ?_
    first | rw [O_line, ite_f (show ¬ (inR x (nNp S.2.1) ∧ inR y (nNp S.2.1) ∧ x ≠ y) from fun z => c5 z.1)] | rw [O_line, ite_f (show ¬ (inR x (nNp S.2.1) ∧ inR y (nNp S.2.1) ∧ x ≠ y) from fun z => c13 z.2.1)] | rw [O_line, ite_f (show ¬ (inR x (nNp S.2.1) ∧ inR y (nNp S.2.1) ∧ x ≠ y) from fun z => z.2.2 c18)]
    exact ⟨rfl, a⟩
  · refine V_aload0 dX5_line_8 ?_
    refine V_iload2 dX5_line_9 ?_
    refine kX5_126 (m_X5_isPoint _ _ S.2.1 i.1 a.2.1 _) (rOK_d (by decide) (by decide)) (Nat.le_of_ble_eq_true rfl) dX5_line_10 (fun r10 h10 hq10 => ?_)
    obtain ⟨e_, rfl⟩ := hq10
    replace e_ := e_.symm
    subst e_
    first | refine V_if_eq_z 21 dX5_line_13 (by decide) (fun c13 => ?_) (fun c13 => ?_) | refine V_if_eq_n 21 dX5_line_13 (by decide) (by omega) (fun c13 => ?_) (fun c13 => ?_) | refine V_if_eq 21 dX5_line_13 (by decide) (fun c13 => ?_) (fun c13 => ?_)
    · refine V_ldc ct_X5_57 dX5_line_21 ?_
      refine V_ireti dX5_line_23 ?_
      first | rw [O_line, ite_f (show ¬ (inR x (nNp S.2.1) ∧ inR y (nNp S.2.1) ∧ x ≠ y) from fun z => c5 z.1)] | rw [O_line, ite_f (show ¬ (inR x (nNp S.2.1) ∧ inR y (nNp S.2.1) ∧ x ≠ y) from fun z => c13 z.2.1)] | rw [O_line, ite_f (show ¬ (inR x (nNp S.2.1) ∧ inR y (nNp S.2.1) ∧ x ≠ y) from fun z => z.2.2 c18)]
      exact ⟨rfl, a⟩
    · refine V_iload1 dX5_line_16 ?_
      refine V_iload2 dX5_line_17 ?_
      first | refine V_icmp_ne_n 24 dX5_line_18 (by decide) (by omega) (by omega) (fun c18 => ?_) (fun c18 => ?_) | refine V_icmp_ne 24 dX5_line_18 (by decide) (fun c18 => ?_) (fun c18 => ?_)
      · have hg : inR x (nNp S.2.1) ∧ inR y (nNp S.2.1) ∧ x ≠ y := ⟨c5, c13, c18⟩
        have i1 := i.1
        have hnp := i1.np
        have hnl := i1.nl
        obtain ⟨x', hx', rfl⟩ := (inR_iff (by omega)).mp c5
        obtain ⟨y', hy', rfl⟩ := (inR_iff (by omega)).mp c13
        have kx := cl_nI (show x' < 2 ^ 31 by omega)
        have ky := cl_nI (show y' < 2 ^ 31 by omega)
        refine V_aload0 dX5_line_24 ?_
        refine gX5_129 dX5_line_25 ?_
        rw [a.2.1.2.1]
        refine V_bipush (nI 12) dX5_line_28 (by decide) ?_
        first | refine V_icmp_lt_n 36 dX5_line_30 (by decide) (by omega) (by omega) (fun c30 => ?_) (fun c30 => ?_) | refine V_icmp_lt 36 dX5_line_30 (by decide) (fun c30 => ?_) (fun c30 => ?_)
        · refine V_aload0 dX5_line_36 ?_
          refine gX5_21 dX5_line_37 ?_
          refine V_aload0 dX5_line_40 ?_
          refine gX5_129 dX5_line_41 ?_
          rw [a.2.1.2.1]
          refine V_aaloadL (by decide) rfl (by first | assumption | omega) dX5_line_44 ?_
          refine V_aload0 dX5_line_45 ?_
          refine gX5_15 dX5_line_46 ?_
          refine V_iload1 dX5_line_49 ?_
          refine V_iaload (by decide) aI_2 (by decide) rfl (by first | assumption | omega) dX5_line_50 ?_
          rw [a.2.1.2.2.1 _ hx']
          refine V_aload0 dX5_line_51 ?_
          refine gX5_15 dX5_line_52 ?_
          refine V_iload2 dX5_line_55 ?_
          refine V_iaload (by decide) aI_2 (by decide) rfl (by first | assumption | omega) dX5_line_56 ?_
          rw [a.2.1.2.2.1 _ hy']
          refine kX5_132 (by first | assumption | omega) (m_X1_join _ _ _ (by first | assumption | omega) _ _) (rOK_d (by decide) (by decide)) (Nat.le_of_ble_eq_true rfl) dX5_line_57 (fun h57 hq57 => ?_)
          replace hq57 := hq57.symm
          subst hq57
          refine V_aload0 dX5_line_60 ?_
          refine V_dup dX5_line_61 rfl ?_
          refine gX5_129 dX5_line_62 ?_
          rw [wr_c _ _ _ (by omega), wr_c _ _ _ (by omega), wr_c _ _ _ (by omega), a.2.1.2.1]
          refine V_dup_x1 dX5_line_65 rfl rfl ?_
          refine V_iconst (nI 1) dX5_line_66 (by decide) ?_
          first | refine V_iadd_n dX5_line_67 ?_ | refine V_iadd dX5_line_67 ?_
          refine pX5_129 dX5_line_68 ?_
          refine V_ireti dX5_line_71 ?_
          rw [O_line, ite_t hg, ite_f (Nat.not_le_of_lt c30), kx, ky]
          exact ⟨rfl, RA_setN a (RAn_addL i1 a.2.1 c30) (fun c h1 h2 => by rw [wr_c _ _ _ (by omega), wr_c _ _ _ (by omega), wr_c _ _ _ (by omega), wr_c _ _ _ (by omega)]) (by rw [wr_c _ _ _ (by omega), wr_c _ _ _ (by omega), wr_c _ _ _ (by omega), wr_c _ _ _ (by omega)]) (by rw [wr_j _ _ (by decide), wr_c _ _ _ (by omega), wr_c _ _ _ (by omega), wr_c _ _ _ (by omega)]) (by rw [wr_j _ _ (by decide), wr_c _ _ _ (by omega), wr_c _ _ _ (by omega), wr_c _ _ _ (by omega)])⟩
        · refine V_ldc ct_X5_118 dX5_line_33 ?_
          refine V_ireti dX5_line_35 ?_
          rw [O_line, ite_t hg, ite_t (Nat.le_of_not_lt c30)]
          exact ⟨rfl, a⟩
      · refine V_ldc ct_X5_57 dX5_line_21 ?_
        refine V_ireti dX5_line_23 ?_
        first | rw [O_line, ite_f (show ¬ (inR x (nNp S.2.1) ∧ inR y (nNp S.2.1) ∧ x ≠ y) from fun z => c5 z.1)] | rw [O_line, ite_f (show ¬ (inR x (nNp S.2.1) ∧ inR y (nNp S.2.1) ∧ x ≠ y) from fun z => c13 z.2.1)] | rw [O_line, ite_f (show ¬ (inR x (nNp S.2.1) ∧ inR y (nNp S.2.1) ∧ x ≠ y) from fun z => z.2.2 c18)]
        exact ⟨rfl, a⟩
set_option maxRecDepth 4000 in
theorem m_X5_rule (G : GE) (h : Mem) (S : St) (i : Ok S) (a : RA S h) (x v : Int32) : Ct idsA G yX5_rule cX5_rule 4 (some .int) (rmD 2) [.ref (ad G 0), .int x, .int v] h (Qi fun rv h' => rv = (O_rule S x v).1 ∧ RA (O_rule S x v).2 h') := by
  refine Ct.of [some (.ref (ad G 0)), some (.int x), some (.int v), none] (by decide) (Nat.le_of_ble_eq_true rfl) (lvE_ok 1 rfl) ?_
  refine V_ldc ct_X5_57 dX5_rule_0 ?_
  refine V_istore3 dX5_rule_2 (by decide) rfl ?_
  refine V_iload1 dX5_rule_3 ?_
  first | refine V_if_ne_z 37 dX5_rule_4 (by decide) (fun c4 => ?_) (fun c4 => ?_) | refine V_if_ne_n 37 dX5_rule_4 (by decide) (by omega) (fun c4 => ?_) (fun c4 => ?_) | refine V_if_ne 37 dX5_rule_4 (by decide) (fun c4 => ?_) (fun c4 => ?_)
  · refine V_iload1 dX5_rule_37 ?_
    refine V_iconst (nI 1) dX5_rule_38 (by decide) ?_
    first | refine V_icmp_ne_n 68 dX5_rule_39 (by decide) (by omega) (by omega) (fun c39 => ?_) (fun c39 => ?_) | refine V_icmp_ne 68 dX5_rule_39 (by decide) (fun c39 => ?_) (fun c39 => ?_)
    · refine V_iload3 dX5_rule_68 ?_
      refine V_ireti dX5_rule_69 ?_
      rw [O_rule, ite_f (fun z => by first | exact c4 z.1 | exact i_lt_n c9 z.2.1 | exact i_lt_n c15 z.2.2), ite_f (fun z => by first | exact c39 z.1 | exact i_lt_n c43 z.2.1 | exact i_lt_n c49 z.2.2)]
      exact ⟨rfl, a⟩
    · refine V_iload2 dX5_rule_42 ?_
      first | refine V_if_lt_n 68 dX5_rule_43 (by decide) (by omega) (fun c43 => ?_) (fun c43 => ?_) | refine V_if_lt 68 dX5_rule_43 (by decide) (fun c43 => ?_) (fun c43 => ?_)
      · refine V_iload3 dX5_rule_68 ?_
        refine V_ireti dX5_rule_69 ?_
        rw [O_rule, ite_f (fun z => by first | exact c4 z.1 | exact i_lt_n c9 z.2.1 | exact i_lt_n c15 z.2.2), ite_f (fun z => by first | exact c39 z.1 | exact i_lt_n c43 z.2.1 | exact i_lt_n c49 z.2.2)]
        exact ⟨rfl, a⟩
      · refine V_iload2 dX5_rule_46 ?_
        refine V_bipush (nI 50) dX5_rule_47 (by decide) ?_
        first | refine V_icmp_gt_n 68 dX5_rule_49 (by decide) (by omega) (by omega) (fun c49 => ?_) (fun c49 => ?_) | refine V_icmp_gt 68 dX5_rule_49 (by decide) (fun c49 => ?_) (fun c49 => ?_)
        · refine V_iload3 dX5_rule_68 ?_
          refine V_ireti dX5_rule_69 ?_
          rw [O_rule, ite_f (fun z => by first | exact c4 z.1 | exact i_lt_n c9 z.2.1 | exact i_lt_n c15 z.2.2), ite_f (fun z => by first | exact c39 z.1 | exact i_lt_n c43 z.2.1 | exact i_lt_n c49 z.2.2)]
          exact ⟨rfl, a⟩
        · have hg : x = nI 1 ∧ 0 ≤ v ∧ v ≤ nI 50 := ⟨c39, i_nlt c43, i_nlt c49⟩
          have hx0 : ¬ (x = 0 ∧ nI 1 ≤ v ∧ v ≤ nI 100) := fun z => absurd (z.1.symm.trans c39) (by decide)
          obtain ⟨v', hv', rfl⟩ := nI_of2 (n := 50) (show (nI 50).toInt = (50 : Nat) by decide) (i_le_n hg.2.1) hg.2.2
          have kv := cl_nI (show v' < 2 ^ 31 by omega)
          refine V_aload0 dX5_rule_52 ?_
          refine gX5_28 dX5_rule_53 ?_
          refine gX5_138 dX5_rule_56 ?_
          rw [a.2.1.2.2.2.2.2.2.2.2.2.2]
          refine V_istore3 dX5_rule_59 (by decide) rfl ?_
          refine V_aload0 dX5_rule_60 ?_
          refine gX5_28 dX5_rule_61 ?_
          refine V_iload2 dX5_rule_64 ?_
          refine pX5_138 dX5_rule_65 ?_
          refine V_iload3 dX5_rule_68 ?_
          refine V_ireti dX5_rule_69 ?_
          rw [O_rule, ite_f hx0, ite_t hg, kv]
          have t1 : same [4] h (wr h 4 5 (nI v')) := same.rf.wr _ _ (by decide)
          have t3 : wr h 4 5 (nI v') 4 5 = nI v' := wr_s _ _ _ _
          have t2 : wr h 4 5 (nI v') 4 4 = nI (nBs S.2.1) := by rw [wr_j _ _ (by decide)]; exact a.2.1.2.2.2.2.2.2.2.2.2.1
          exact ⟨rfl, RA_setN a (RAn_setR a.2.1 t1 t2 t3 i.1.2.2.2.2.2.2.2.2.1 hv') (fun c h1 h2 => t1 c (by simp only [List.mem_cons, List.not_mem_nil, or_false]; omega)) (t1 7 (by decide)) (by rw [t1 0 (by decide)]) (by rw [t1 0 (by decide)])⟩
  · refine V_iload2 dX5_rule_7 ?_
    refine V_iconst (nI 1) dX5_rule_8 (by decide) ?_
    first | refine V_icmp_lt_n 37 dX5_rule_9 (by decide) (by omega) (by omega) (fun c9 => ?_) (fun c9 => ?_) | refine V_icmp_lt 37 dX5_rule_9 (by decide) (fun c9 => ?_) (fun c9 => ?_)
    · refine V_iload1 dX5_rule_37 ?_
      refine V_iconst (nI 1) dX5_rule_38 (by decide) ?_
      first | refine V_icmp_ne_n 68 dX5_rule_39 (by decide) (by omega) (by omega) (fun c39 => ?_) (fun c39 => ?_) | refine V_icmp_ne 68 dX5_rule_39 (by decide) (fun c39 => ?_) (fun c39 => ?_)
      · refine V_iload3 dX5_rule_68 ?_
        refine V_ireti dX5_rule_69 ?_
        rw [O_rule, ite_f (fun z => by first | exact c4 z.1 | exact i_lt_n c9 z.2.1 | exact i_lt_n c15 z.2.2), ite_f (fun z => by first | exact c39 z.1 | exact i_lt_n c43 z.2.1 | exact i_lt_n c49 z.2.2)]
        exact ⟨rfl, a⟩
      · refine V_iload2 dX5_rule_42 ?_
        first | refine V_if_lt_n 68 dX5_rule_43 (by decide) (by omega) (fun c43 => ?_) (fun c43 => ?_) | refine V_if_lt 68 dX5_rule_43 (by decide) (fun c43 => ?_) (fun c43 => ?_)
        · refine V_iload3 dX5_rule_68 ?_
          refine V_ireti dX5_rule_69 ?_
          rw [O_rule, ite_f (fun z => by first | exact c4 z.1 | exact i_lt_n c9 z.2.1 | exact i_lt_n c15 z.2.2), ite_f (fun z => by first | exact c39 z.1 | exact i_lt_n c43 z.2.1 | exact i_lt_n c49 z.2.2)]
          exact ⟨rfl, a⟩
        · refine V_iload2 dX5_rule_46 ?_
          refine V_bipush (nI 50) dX5_rule_47 (by decide) ?_
          first | refine V_icmp_gt_n 68 dX5_rule_49 (by decide) (by omega) (by omega) (fun c49 => ?_) (fun c49 => ?_) | refine V_icmp_gt 68 dX5_rule_49 (by decide) (fun c49 => ?_) (fun c49 => ?_)
          · refine V_iload3 dX5_rule_68 ?_
            refine V_ireti dX5_rule_69 ?_
            rw [O_rule, ite_f (fun z => by first | exact c4 z.1 | exact i_lt_n c9 z.2.1 | exact i_lt_n c15 z.2.2), ite_f (fun z => by first | exact c39 z.1 | exact i_lt_n c43 z.2.1 | exact i_lt_n c49 z.2.2)]
            exact ⟨rfl, a⟩
          · have hg : x = nI 1 ∧ 0 ≤ v ∧ v ≤ nI 50 := ⟨c39, i_nlt c43, i_nlt c49⟩
            have hx0 : ¬ (x = 0 ∧ nI 1 ≤ v ∧ v ≤ nI 100) := fun z => absurd (z.1.symm.trans c39) (by decide)
            obtain ⟨v', hv', rfl⟩ := nI_of2 (n := 50) (show (nI 50).toInt = (50 : Nat) by decide) (i_le_n hg.2.1) hg.2.2
            have kv := cl_nI (show v' < 2 ^ 31 by omega)
            refine V_aload0 dX5_rule_52 ?_
            refine gX5_28 dX5_rule_53 ?_
            refine gX5_138 dX5_rule_56 ?_
            rw [a.2.1.2.2.2.2.2.2.2.2.2.2]
            refine V_istore3 dX5_rule_59 (by decide) rfl ?_
            refine V_aload0 dX5_rule_60 ?_
            refine gX5_28 dX5_rule_61 ?_
            refine V_iload2 dX5_rule_64 ?_
            refine pX5_138 dX5_rule_65 ?_
            refine V_iload3 dX5_rule_68 ?_
            refine V_ireti dX5_rule_69 ?_
            rw [O_rule, ite_f hx0, ite_t hg, kv]
            have t1 : same [4] h (wr h 4 5 (nI v')) := same.rf.wr _ _ (by decide)
            have t3 : wr h 4 5 (nI v') 4 5 = nI v' := wr_s _ _ _ _
            have t2 : wr h 4 5 (nI v') 4 4 = nI (nBs S.2.1) := by rw [wr_j _ _ (by decide)]; exact a.2.1.2.2.2.2.2.2.2.2.2.1
            exact ⟨rfl, RA_setN a (RAn_setR a.2.1 t1 t2 t3 i.1.2.2.2.2.2.2.2.2.1 hv') (fun c h1 h2 => t1 c (by simp only [List.mem_cons, List.not_mem_nil, or_false]; omega)) (t1 7 (by decide)) (by rw [t1 0 (by decide)]) (by rw [t1 0 (by decide)])⟩
    · refine V_iload2 dX5_rule_12 ?_
      refine V_bipush (nI 100) dX5_rule_13 (by decide) ?_
      first | refine V_icmp_gt_n 37 dX5_rule_15 (by decide) (by omega) (by omega) (fun c15 => ?_) (fun c15 => ?_) | refine V_icmp_gt 37 dX5_rule_15 (by decide) (fun c15 => ?_) (fun c15 => ?_)
      · refine V_iload1 dX5_rule_37 ?_
        refine V_iconst (nI 1) dX5_rule_38 (by decide) ?_
        first | refine V_icmp_ne_n 68 dX5_rule_39 (by decide) (by omega) (by omega) (fun c39 => ?_) (fun c39 => ?_) | refine V_icmp_ne 68 dX5_rule_39 (by decide) (fun c39 => ?_) (fun c39 => ?_)
        · refine V_iload3 dX5_rule_68 ?_
          refine V_ireti dX5_rule_69 ?_
          rw [O_rule, ite_f (fun z => by first | exact c4 z.1 | exact i_lt_n c9 z.2.1 | exact i_lt_n c15 z.2.2), ite_f (fun z => by first | exact c39 z.1 | exact i_lt_n c43 z.2.1 | exact i_lt_n c49 z.2.2)]
          exact ⟨rfl, a⟩
        · refine V_iload2 dX5_rule_42 ?_
          first | refine V_if_lt_n 68 dX5_rule_43 (by decide) (by omega) (fun c43 => ?_) (fun c43 => ?_) | refine V_if_lt 68 dX5_rule_43 (by decide) (fun c43 => ?_) (fun c43 => ?_)
          · refine V_iload3 dX5_rule_68 ?_
            refine V_ireti dX5_rule_69 ?_
            rw [O_rule, ite_f (fun z => by first | exact c4 z.1 | exact i_lt_n c9 z.2.1 | exact i_lt_n c15 z.2.2), ite_f (fun z => by first | exact c39 z.1 | exact i_lt_n c43 z.2.1 | exact i_lt_n c49 z.2.2)]
            exact ⟨rfl, a⟩
          · refine V_iload2 dX5_rule_46 ?_
            refine V_bipush (nI 50) dX5_rule_47 (by decide) ?_
            first | refine V_icmp_gt_n 68 dX5_rule_49 (by decide) (by omega) (by omega) (fun c49 => ?_) (fun c49 => ?_) | refine V_icmp_gt 68 dX5_rule_49 (by decide) (fun c49 => ?_) (fun c49 => ?_)
            · refine V_iload3 dX5_rule_68 ?_
              refine V_ireti dX5_rule_69 ?_
              rw [O_rule, ite_f (fun z => by first | exact c4 z.1 | exact i_lt_n c9 z.2.1 | exact i_lt_n c15 z.2.2), ite_f (fun z => by first | exact c39 z.1 | exact i_lt_n c43 z.2.1 | exact i_lt_n c49 z.2.2)]
              exact ⟨rfl, a⟩
            · have hg : x = nI 1 ∧ 0 ≤ v ∧ v ≤ nI 50 := ⟨c39, i_nlt c43, i_nlt c49⟩
              have hx0 : ¬ (x = 0 ∧ nI 1 ≤ v ∧ v ≤ nI 100) := fun z => absurd (z.1.symm.trans c39) (by decide)
              obtain ⟨v', hv', rfl⟩ := nI_of2 (n := 50) (show (nI 50).toInt = (50 : Nat) by decide) (i_le_n hg.2.1) hg.2.2
              have kv := cl_nI (show v' < 2 ^ 31 by omega)
              refine V_aload0 dX5_rule_52 ?_
              refine gX5_28 dX5_rule_53 ?_
              refine gX5_138 dX5_rule_56 ?_
              rw [a.2.1.2.2.2.2.2.2.2.2.2.2]
              refine V_istore3 dX5_rule_59 (by decide) rfl ?_
              refine V_aload0 dX5_rule_60 ?_
              refine gX5_28 dX5_rule_61 ?_
              refine V_iload2 dX5_rule_64 ?_
              refine pX5_138 dX5_rule_65 ?_
              refine V_iload3 dX5_rule_68 ?_
              refine V_ireti dX5_rule_69 ?_
              rw [O_rule, ite_f hx0, ite_t hg, kv]
              have t1 : same [4] h (wr h 4 5 (nI v')) := same.rf.wr _ _ (by decide)
              have t3 : wr h 4 5 (nI v') 4 5 = nI v' := wr_s _ _ _ _
              have t2 : wr h 4 5 (nI v') 4 4 = nI (nBs S.2.1) := by rw [wr_j _ _ (by decide)]; exact a.2.1.2.2.2.2.2.2.2.2.2.1
              exact ⟨rfl, RA_setN a (RAn_setR a.2.1 t1 t2 t3 i.1.2.2.2.2.2.2.2.2.1 hv') (fun c h1 h2 => t1 c (by simp only [List.mem_cons, List.not_mem_nil, or_false]; omega)) (t1 7 (by decide)) (by rw [t1 0 (by decide)]) (by rw [t1 0 (by decide)])⟩
      · have hg : x = 0 ∧ nI 1 ≤ v ∧ v ≤ nI 100 := ⟨c4, i_nlt c9, i_nlt c15⟩
        obtain ⟨v', hv', rfl⟩ := nI_of2 (n := 100) (show (nI 100).toInt = (100 : Nat) by decide) (fun z => absurd hg.2.1 (i_lt_n (fa_trans z (by decide)))) hg.2.2
        have kv := cl_nI (show v' < 2 ^ 31 by omega)
        refine V_aload0 dX5_rule_18 ?_
        refine gX5_28 dX5_rule_19 ?_
        refine gX5_135 dX5_rule_22 ?_
        rw [a.2.1.2.2.2.2.2.2.2.2.2.1]
        refine V_istore3 dX5_rule_25 (by decide) rfl ?_
        refine V_aload0 dX5_rule_26 ?_
        refine gX5_28 dX5_rule_27 ?_
        refine V_iload2 dX5_rule_30 ?_
        refine pX5_135 dX5_rule_31 ?_
        refine V_goto 68 dX5_rule_34 (by decide) ?_
        refine V_iload3 dX5_rule_68 ?_
        refine V_ireti dX5_rule_69 ?_
        rw [O_rule, ite_t hg, kv]
        have t1 : same [4] h (wr h 4 4 (nI v')) := same.rf.wr _ _ (by decide)
        have t2 : wr h 4 4 (nI v') 4 4 = nI v' := wr_s _ _ _ _
        have t3 : wr h 4 4 (nI v') 4 5 = nI (nSv S.2.1) := by rw [wr_j _ _ (by decide)]; exact a.2.1.2.2.2.2.2.2.2.2.2.2
        exact ⟨rfl, RA_setN a (RAn_setR a.2.1 t1 t2 t3 hv' i.1.2.2.2.2.2.2.2.2.2) (fun c h1 h2 => t1 c (by simp only [List.mem_cons, List.not_mem_nil, or_false]; omega)) (t1 7 (by decide)) (by rw [t1 0 (by decide)]) (by rw [t1 0 (by decide)])⟩
