set_option maxRecDepth 4000 in
theorem m_X1_join (G : GE) (h : Mem) (l : Nat) (hl : l < 12) (a b : Int32) : Ct idsA G yX1_join cX1_join 3 none (rmD 0) [.ref (ad G (40 + l)), .int a, .int b] h (Qv fun h' => h' = wr (wr (wr h (40 + l) 2 a) (40 + l) 3 b) (40 + l) 4 (nI 0)) := by
  refine Ct.of [some (.ref (ad G (40 + l))), some (.int a), some (.int b)] (by decide) (Nat.le_of_ble_eq_true rfl) (lvE_ok 0 rfl) ?_
  refine V_aload0 dX1_join_0 ?_
  refine V_iload1 dX1_join_1 ?_
  refine pX1_19 (by first | assumption | omega) dX1_join_2 ?_
  refine V_aload0 dX1_join_5 ?_
  refine V_iload2 dX1_join_6 ?_
  refine pX1_22 (by first | assumption | omega) dX1_join_7 ?_
  refine V_aload0 dX1_join_10 ?_
  refine V_iconst (nI 0) dX1_join_11 (by decide) ?_
  refine pX1_25 (by first | assumption | omega) dX1_join_12 ?_
  refine V_vreti dX1_join_15 ?_
  exact rfl
set_option maxRecDepth 4000 in
theorem m_X1_detourOfWay (G : GE) (h : Mem) (l a b : Nat) (w : List Nat) (hl : l < 12) (hL : hasL l a b w h) (ha : a < 100) (hb : b < 100) (hw : w.length ≤ 100) : Ct idsA G yX1_detourOfWay cX1_detourOfWay 2 (some .int) (rmD 1) [.ref (ad G (40 + l))] h (Qi fun r h' => h' = h ∧ r = (if 0 < apart a b then nI (w.length * 100 / apart a b) else -1000000)) := by
  refine Ct.of [some (.ref (ad G (40 + l))), none] (by decide) (Nat.le_of_ble_eq_true rfl) (lvE_ok 1 rfl) ?_
  obtain ⟨w0, w2, w3, w4, w5⟩ := hL
  have d1 := dst_le (Nat.mod_lt a (show 0 < 10 by decide)) (Nat.mod_lt b (show 0 < 10 by decide))
  have d2 := dst_le (show a / 10 < 10 by omega) (show b / 10 < 10 by omega)
  have hap : apart a b ≤ 18 := by unfold apart; omega
  refine V_aload0 dX1_detourOfWay_0 ?_
  refine gX1_19 (by first | assumption | omega) dX1_detourOfWay_1 ?_
  rw [w2]
  refine V_bipush (nI 10) dX1_detourOfWay_4 (by decide) ?_
  first | refine V_irem_n dX1_detourOfWay_6 (by omega) (by omega) (by omega) ?_ | refine V_irem dX1_detourOfWay_6 (by decide) ?_
  refine V_aload0 dX1_detourOfWay_7 ?_
  refine gX1_22 (by first | assumption | omega) dX1_detourOfWay_8 ?_
  rw [w3]
  refine V_bipush (nI 10) dX1_detourOfWay_11 (by decide) ?_
  first | refine V_irem_n dX1_detourOfWay_13 (by omega) (by omega) (by omega) ?_ | refine V_irem dX1_detourOfWay_13 (by decide) ?_
  first | refine V_isub_n dX1_detourOfWay_14 (by omega) ?_ | refine V_isub dX1_detourOfWay_14 ?_
  refine kX1_28 (by decide) (Nat.le_of_ble_eq_true rfl) dX1_detourOfWay_15 ?_
  rw [dst_abs _ (Nat.mod_lt _ (by decide)) _ (Nat.mod_lt _ (by decide))]
  refine V_aload0 dX1_detourOfWay_18 ?_
  refine gX1_19 (by first | assumption | omega) dX1_detourOfWay_19 ?_
  rw [w2]
  refine V_bipush (nI 10) dX1_detourOfWay_22 (by decide) ?_
  first | refine V_idiv_n dX1_detourOfWay_24 (by omega) (by omega) (by omega) ?_ | refine V_idiv dX1_detourOfWay_24 (by decide) ?_
  refine V_aload0 dX1_detourOfWay_25 ?_
  refine gX1_22 (by first | assumption | omega) dX1_detourOfWay_26 ?_
  rw [w3]
  refine V_bipush (nI 10) dX1_detourOfWay_29 (by decide) ?_
  first | refine V_idiv_n dX1_detourOfWay_31 (by omega) (by omega) (by omega) ?_ | refine V_idiv dX1_detourOfWay_31 (by decide) ?_
  first | refine V_isub_n dX1_detourOfWay_32 (by omega) ?_ | refine V_isub dX1_detourOfWay_32 ?_
  refine kX1_28 (by decide) (Nat.le_of_ble_eq_true rfl) dX1_detourOfWay_33 ?_
  rw [dst_abs _ (by omega) _ (by omega)]
  first | refine V_iadd_n dX1_detourOfWay_36 ?_ | refine V_iadd dX1_detourOfWay_36 ?_
  rw [show dst (a % 10) (b % 10) + dst (a / 10) (b / 10) = apart a b from rfl]
  refine V_istore1 dX1_detourOfWay_37 (by decide) rfl ?_
  refine V_iload1 dX1_detourOfWay_38 ?_
  first | refine V_if_le_n 54 dX1_detourOfWay_39 (by decide) (by omega) (fun c39 => ?_) (fun c39 => ?_) | refine V_if_le 54 dX1_detourOfWay_39 (by decide) (fun c39 => ?_) (fun c39 => ?_)
  · refine V_ldc ct_X1_34 dX1_detourOfWay_54 ?_
    refine V_ireti dX1_detourOfWay_56 ?_
    exact ⟨rfl, by first | rw [if_pos (by omega)] | rw [if_neg (by omega)]⟩
  · refine V_aload0 dX1_detourOfWay_42 ?_
    refine gX1_25 (by first | assumption | omega) dX1_detourOfWay_43 ?_
    rw [w4]
    refine V_bipush (nI 100) dX1_detourOfWay_46 (by decide) ?_
    first | refine V_imul_n dX1_detourOfWay_48 ?_ | refine V_imul dX1_detourOfWay_48 ?_
    refine V_iload1 dX1_detourOfWay_49 ?_
    first | refine V_idiv_n dX1_detourOfWay_50 (by omega) (by omega) (by omega) ?_ | refine V_idiv dX1_detourOfWay_50 (by decide) ?_
    refine V_goto 56 dX1_detourOfWay_51 (by decide) ?_
    refine V_ireti dX1_detourOfWay_56 ?_
    exact ⟨rfl, by first | rw [if_pos (by omega)] | rw [if_neg (by omega)]⟩
set_option maxRecDepth 4000 in
theorem l_X2_flipAlong (G : GE) (h : Mem) (l : Nat) (hl : l < 12) (Q : Option Value → Mem → Prop) : ∀ (v : List Nat) (hc : Mem) (M : Nat → Nat) (k p : Nat) (v4 : OV) (hp : p < 100) (hk : k + v.length ≤ 100) (hv : okW p v) (e0 : hc (40 + l) 0 = nI (2 ^ l)) (e4 : hc (40 + l) 4 = nI (k + v.length)) (e5 : ∀ i, i < v.length → hc (60 + l) (k + i) = nI (v.getD i 0)) (hM : hasM M hc) (K : ∀ h', same [10] hc h' → hasM (flipL l (sdW p v) M) h' → Q none h'), V idsA G RX2 cX2_flipAlong 5 none (rmD 2) 7 [some (.ref (ad G 4)), some (.ref (ad G (40 + l))), some (.int (nI p)), some (.int (nI k)), v4] [] hc Q := by
  intro v
  induction v with
  | nil =>
    intro hc M k p v4 hp hk hv e0 e4 e5 hM K
    simp only [List.length_nil, Nat.add_zero] at e4 hk
    refine V_iload3 dX2_flipAlong_7 ?_
    refine V_aload1 dX2_flipAlong_8 ?_
    refine gX2_80 (by first | assumption | omega) dX2_flipAlong_9 ?_
    rw [e4]
    first | refine V_icmp_ge_n 66 dX2_flipAlong_12 (by decide) (by omega) (by omega) (fun c12 => ?_) (fun c12 => ?_) | refine V_icmp_ge 66 dX2_flipAlong_12 (by decide) (fun c12 => ?_) (fun c12 => ?_)
    · refine V_vret dX2_flipAlong_66 ?_
      exact K hc same.rf hM
    · exact absurd (Nat.le_refl k) c12 --end
  | cons d v ih =>
    intro hc M k p v4 hp hk hv e0 e4 e5 hM K
    simp only [List.length_cons] at e4 hk e5
    obtain ⟨hd, hnb, hv⟩ := hv
    have hq := nb_lt hp hnb
    have e50 := e5 0 (by omega)
    simp only [Nat.add_zero, List.getD_cons_zero] at e50
    have hpw : 2 ^ l < 4096 := Nat.pow_lt_pow_right (by decide) (show l < 12 from hl)
    refine V_iload3 dX2_flipAlong_7 ?_
    refine V_aload1 dX2_flipAlong_8 ?_
    refine gX2_80 (by first | assumption | omega) dX2_flipAlong_9 ?_
    rw [e4]
    first | refine V_icmp_ge_n 66 dX2_flipAlong_12 (by decide) (by omega) (by omega) (fun c12 => ?_) (fun c12 => ?_) | refine V_icmp_ge 66 dX2_flipAlong_12 (by decide) (fun c12 => ?_) (fun c12 => ?_)
    · exact absurd c12 (by omega) --end
    · refine V_iload2 dX2_flipAlong_15 ?_
      refine V_aload1 dX2_flipAlong_16 ?_
      refine gX2_71 (by first | assumption | omega) dX2_flipAlong_17 ?_
      refine V_iload3 dX2_flipAlong_20 ?_
      refine V_iaload (mem_steps (by first | assumption | omega)) (aI_steps (by first | assumption | omega)) (by decide) rfl (by first | assumption | omega) dX2_flipAlong_21 ?_
      rw [e50]
      refine kX2_39 (m_X5_beside _ _ _ _ (by first | assumption | omega) (by first | assumption | omega)) (rOK_d (by decide) (by decide)) (Nat.le_of_ble_eq_true rfl) dX2_flipAlong_22 (fun r22 h22 hq22 => ?_)
      obtain ⟨e_, rfl⟩ := hq22
      replace e_ := e_.symm
      subst e_
      rw [hnb]
      simp only [oI]
      refine V_istore4 dX2_flipAlong_25 (by decide) rfl ?_
      refine V_iload4 dX2_flipAlong_27 ?_
      first | refine V_if_ge_n 33 dX2_flipAlong_29 (by decide) (by omega) (fun c29 => ?_) (fun c29 => ?_) | refine V_if_ge 33 dX2_flipAlong_29 (by decide) (fun c29 => ?_) (fun c29 => ?_)
      · refine V_aload0 dX2_flipAlong_33 ?_
        refine gX2_19 dX2_flipAlong_34 ?_
        refine V_iload2 dX2_flipAlong_37 ?_
        refine V_iload4 dX2_flipAlong_38 ?_
        refine V_aload1 dX2_flipAlong_40 ?_
        refine gX2_71 (by first | assumption | omega) dX2_flipAlong_41 ?_
        refine V_iload3 dX2_flipAlong_44 ?_
        refine V_iaload (mem_steps (by first | assumption | omega)) (aI_steps (by first | assumption | omega)) (by decide) rfl (by first | assumption | omega) dX2_flipAlong_45 ?_
        rw [e50]
        refine kX2_42 (m_X5_sideBetween _ _ _ _ _ (by first | assumption | omega) (by first | assumption | omega) (by first | assumption | omega)) (rOK_d (by decide) (by decide)) (Nat.le_of_ble_eq_true rfl) dX2_flipAlong_46 (fun r46 h46 hq46 => ?_)
        obtain ⟨e_, rfl⟩ := hq46
        replace e_ := e_.symm
        subst e_
        refine V_dup2 dX2_flipAlong_49 rfl rfl ?_
        refine V_iaload (by decide) aI_10 (by decide) rfl (sA_lt hp) dX2_flipAlong_50 ?_
        rw [hM.1 _ (sA_lt hp)]
        refine V_aload1 dX2_flipAlong_51 ?_
        refine gX2_86 (by first | assumption | omega) dX2_flipAlong_52 ?_
        rw [e0]
        first | refine V_ixor_n dX2_flipAlong_55 ?_ | refine V_ixor dX2_flipAlong_55 ?_
        refine V_iastore (by decide) aI_10 (by decide) rfl (sA_lt hp) dX2_flipAlong_56 ?_
        refine V_iload4 dX2_flipAlong_57 ?_
        refine V_istore2 dX2_flipAlong_59 (by decide) rfl ?_
        first | refine V_iinc3_n 1 dX2_flipAlong_60 (by decide) (by decide) rfl ?_ | refine V_iinc3 (nI 1) dX2_flipAlong_60 (by decide) (by decide) rfl ?_
        refine V_goto 7 dX2_flipAlong_63 (by decide) ?_
        refine ih _ (fun t => if t = sA p (stp p d) d then M t ^^^ 2 ^ l else M t) (k + 1) _ _ hq (by omega) hv ?_ ?_ ?_ ?_ ?_
        · rw [wr_c _ _ _ (by omega)]; exact e0
        · rw [wr_c _ _ _ (by omega), e4]; congr 1; omega
        · intro i hi
          have := e5 (i + 1) (by omega)
          rw [wr_c _ _ _ (by omega), show k + 1 + i = k + (i + 1) by omega, this, List.getD_cons_succ]
        · refine ⟨fun s hs => ?_, fun s => ?_⟩
          · show _ = nI (if s = sA p (stp p d) d then M s ^^^ 2 ^ l else M s)
            by_cases e : s = sA p (stp p d) d
            · rw [if_pos e, e]; exact wr_s _ _ _ _
            · rw [if_neg e, wr_j _ _ e]; exact hM.1 s hs
          · show (if s = sA p (stp p d) d then M s ^^^ 2 ^ l else M s) < 4096
            split
            · exact Nat.xor_lt_two_pow (n := 12) (hM.2 s) hpw
            · exact hM.2 s
        · intro h' h1 h2
          exact K h' ((same.rf.wr _ _ (by decide)).tr h1) h2
      · exact c29.elim --end
set_option maxRecDepth 4000 in
theorem m_X2_flipAlong (G : GE) (h : Mem) (M : Nat → Nat) (hM : hasM M h) (l a b : Nat) (w : List Nat) (hl : l < 12) (hL : hasL l a b w h) (ha : a < 100) (hw : w.length ≤ 100) (hok : okW a w) : Ct idsA G yX2_flipAlong cX2_flipAlong 5 none (rmD 2) [.ref (ad G 4), .ref (ad G (40 + l))] h (Qv fun h' => same [10] h h' ∧ hasM (flipL l (sdW a w) M) h') := by
  refine Ct.of [some (.ref (ad G 4)), some (.ref (ad G (40 + l))), none, none, none] (by decide) (Nat.le_of_ble_eq_true rfl) (lvE_ok 3 rfl) ?_
  refine V_aload1 dX2_flipAlong_0 ?_
  refine gX2_55 (by first | assumption | omega) dX2_flipAlong_1 ?_
  rw [hL.2.1]
  refine V_istore2 dX2_flipAlong_4 (by decide) rfl ?_
  refine V_iconst (nI 0) dX2_flipAlong_5 (by decide) ?_
  refine V_istore3 dX2_flipAlong_6 (by decide) rfl ?_
  exact l_X2_flipAlong G h l hl _ w h M 0 a _ ha (by omega) hok hL.1 (by rw [Nat.zero_add]; exact hL.2.2.2.1) (fun i hi => by rw [Nat.zero_add]; exact hL.2.2.2.2 i hi) hM (fun h' h1 h2 => ⟨rfl, h1, h2⟩)
set_option maxRecDepth 4000 in
theorem m_X2_lift (G : GE) (h : Mem) (M : Nat → Nat) (hM : hasM M h) (l a b : Nat) (w : List Nat) (hl : l < 12) (hL : hasL l a b w h) (ha : a < 100) (hw : w.length ≤ 100) (hok : okW a w) : Ct idsA G yX2_lift cX2_lift 2 none (rmD 3) [.ref (ad G 4), .ref (ad G (40 + l))] h (Qv fun h' => same [10, 40 + l] h h' ∧ hasM (flipL l (sdW a w) M) h' ∧ h' (40 + l) = upd (h (40 + l)) 4 (nI 0)) := by
  refine Ct.of [some (.ref (ad G 4)), some (.ref (ad G (40 + l)))] (by decide) (Nat.le_of_ble_eq_true rfl) (lvE_ok 0 rfl) ?_
  refine V_aload0 dX2_lift_0 ?_
  refine V_aload1 dX2_lift_1 ?_
  refine kX2_83 (m_X2_flipAlong _ _ M hM _ a b w (by assumption) hL ha hw hok) (rOK_d (by decide) (by decide)) (Nat.le_of_ble_eq_true rfl) dX2_lift_2 (fun h2 hq2 => ?_)
  obtain ⟨s1, s2⟩ := hq2
  refine V_aload1 dX2_lift_5 ?_
  refine V_iconst (nI 0) dX2_lift_6 (by decide) ?_
  refine pX2_80 (by first | assumption | omega) dX2_lift_7 ?_
  refine V_vreti dX2_lift_10 ?_
  exact ⟨(s1.mono (by simp)).wr _ _ (by simp), (s2.same (same.rf.wr (cs := [40 + l]) _ _ (by simp)) (by first | (simp; done) | (simp; omega))), by rw [wr_row, s1 _ (by first | (simp; done) | (simp; omega))]⟩
set_option maxRecDepth 4000 in
theorem m_X2_giveWay (G : GE) (h : Mem) (M : Nat → Nat) (hM : hasM M h) (l a b : Nat) (w : List Nat) (hl : l < 12) (hL : hasL l a b w h) (ha : a < 100) (hw : w.length ≤ 100) (hok : okW a w) (c i m : Nat) (v : List Nat) (hcm : c ∈ idsA) (hci : isI c m) (hm : m < 2 ^ 31) (him : i + v.length ≤ m) (hv : v.length ≤ 100) (hc1 : c ≠ 10) (hc2 : c ≠ 40 + l) (hdir : ∀ k, k < v.length → h c (i + k) = nI (v.getD k 0)) (hok2 : okW a v) : Ct idsA G yX2_giveWay cX2_giveWay 5 none (rmD 4) [.ref (ad G 4), .ref (ad G (40 + l)), .ref (ad G c), .int (nI i), .int (nI v.length)] h (Qv fun h' => same [10, 40 + l, 60 + l] h h' ∧ hasM (flipL l (sdW a v) (flipL l (sdW a w) M)) h' ∧ hasL l a b v h') := by
  refine Ct.of [some (.ref (ad G 4)), some (.ref (ad G (40 + l))), some (.ref (ad G c)), some (.int (nI i)), some (.int (nI v.length))] (by decide) (Nat.le_of_ble_eq_true rfl) (lvE_ok 0 rfl) ?_
  refine V_aload0 dX2_giveWay_0 ?_
  refine V_aload1 dX2_giveWay_1 ?_
  refine kX2_67 (m_X2_lift _ _ M hM _ a b w (by assumption) hL ha hw hok) (rOK_d (by decide) (by decide)) (Nat.le_of_ble_eq_true rfl) dX2_giveWay_2 (fun h2 hq2 => ?_)
  obtain ⟨s1, s2, s3⟩ := hq2
  refine V_aload2 dX2_giveWay_5 ?_
  refine V_iload3 dX2_giveWay_6 ?_
  refine V_aload1 dX2_giveWay_7 ?_
  refine gX2_71 (by first | assumption | omega) dX2_giveWay_8 ?_
  refine V_iconst (nI 0) dX2_giveWay_11 (by decide) ?_
  refine V_iload4 dX2_giveWay_12 ?_
  refine V_acopy ml_X2_74 nat_acopy sm_arraycopy in_J10 hcm (mem_steps hl) hci (aI_steps hl) hm (by decide) rfl rfl rfl him (by omega) (by decide) (by decide) dX2_giveWay_14 ?_
  refine V_aload1 dX2_giveWay_17 ?_
  refine V_iload4 dX2_giveWay_18 ?_
  refine pX2_80 (by first | assumption | omega) dX2_giveWay_20 ?_
  refine V_aload0 dX2_giveWay_23 ?_
  have H1 : hasM (flipL l (sdW a w) M) (wr (va_up h2 (60 + l) (va_cpy (h2 c) (h2 (60 + l)) i 0 v.length)) (40 + l) 4 (nI v.length)) := s2.same ((same.rf.up (cs := [60 + l, 40 + l]) _ (by simp)).wr _ _ (by simp)) (by first | (simp; done) | (simp; omega))
  have H2 : hasL l a b v (wr (va_up h2 (60 + l) (va_cpy (h2 c) (h2 (60 + l)) i 0 v.length)) (40 + l) 4 (nI v.length)) := by
    have e1 : wr (va_up h2 (60 + l) (va_cpy (h2 c) (h2 (60 + l)) i 0 v.length)) (40 + l) 4 (nI v.length) (40 + l) = upd (h (40 + l)) 4 (nI v.length) := by
      rw [wr_row, va_up_ne _ _ (by omega), s3]
      funext j
      unfold upd
      split <;> rfl
    have e2 : wr (va_up h2 (60 + l) (va_cpy (h2 c) (h2 (60 + l)) i 0 v.length)) (40 + l) 4 (nI v.length) (60 + l) = va_cpy (h2 c) (h2 (60 + l)) i 0 v.length := by rw [wr_c _ _ _ (by omega), va_up_s]
    unfold hasL
    rw [e1, e2]
    refine ⟨hL.1, hL.2.1, hL.2.2.1, rfl, fun k hk => ?_⟩
    rw [pk_cpy_in (Nat.zero_le _) (by omega), Nat.sub_zero, s1 c (by simp only [List.mem_cons, List.not_mem_nil, or_false, not_or]; exact ⟨hc1, hc2⟩)]
    exact hdir k hk
  refine V_aload1 dX2_giveWay_24 ?_
  refine kX2_83 (m_X2_flipAlong G _ _ H1 l a b v hl H2 ha hv hok2) (rOK_d (by decide) (by decide)) (Nat.le_of_ble_eq_true rfl) dX2_giveWay_25 (fun h25 hq25 => ?_)
  obtain ⟨t1, t2⟩ := hq25
  refine V_vreti dX2_giveWay_28 ?_
  exact ⟨((s1.mono (by simp)).up _ (by simp)).wr _ _ (by simp) |>.tr (t1.mono (by simp)), t2, H2.same t1 (by first | (simp; done) | (simp; omega)) (by first | (simp; done) | (simp; omega))⟩
