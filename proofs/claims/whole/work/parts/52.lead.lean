theorem Met_post {l : Launch} {y : MethodName} {ws : List Cond} {rm : Room} {Pc : Array Value → State → Prop} {Qc Qc' : Array Value → State → Outcome → State → Prop} {mc ms : Nat} {free : Addr → Prop} (h : Met l y ws rm Pc Qc mc ms free) (hq : ∀ a s o t, Qc a s o t → Qc' a s o t) : Met l y ws rm Pc Qc' mc ms free := by
  intro p e ha hc hk s m args below hf happ hP hT
  obtain ⟨t, o, h1, h2, h3, h4, h5⟩ := h p e ha hc hk s m args below hf happ hP hT
  exact ⟨t, o, h1, h2, h3, hq _ _ _ _ h4, h5⟩
theorem Ct_post {ids : List Nat} {G : GE} {y : MethodName} {ws : List Cond} {rm : Room} {Pc : Array Value → State → Prop} {Q Q' : Option Value → Mem → Prop} {A : Nat → Prop} (h : Met G.1 y ws rm Pc (Qx ids G Q A) 0 0 A) (hq : ∀ v h', Q v h' → Q' v h') : Met G.1 y ws rm Pc (Qx ids G Q' A) 0 0 A := Met_post h (fun a s o t x => by
  obtain ⟨⟨v, h', h1, h2, h3⟩, h4⟩ := x
  exact ⟨⟨v, h', h1, hq v h' h2, h3⟩, h4⟩)
set_option maxRecDepth 4000 in
theorem m_X5_isLine (G : GE) (h : Mem) (N : Ng) (i : Inv N) (r : RAn N h) (x : Int32) : Ct idsA G yX5_isLine cX5_isLine 2 (some .boolean) (rmD 0) [.ref (ad G 0), .int x] h (Qi fun v h' => h' = h ∧ v = bz (inR x (nNl N))) := by
  refine Ct.of [some (.ref (ad G 0)), some (.int x)] (by decide) (Nat.le_of_ble_eq_true rfl) (lvE_ok 0 rfl) ?_
  refine V_iload1 dX5_isLine_0 ?_
  first | refine V_if_lt_n 16 dX5_isLine_1 (by decide) (by omega) (fun c1 => ?_) (fun c1 => ?_) | refine V_if_lt 16 dX5_isLine_1 (by decide) (fun c1 => ?_) (fun c1 => ?_)
  · refine V_iconst (nI 0) dX5_isLine_16 (by decide) ?_
    refine V_zreti dX5_isLine_17 (by first | exact bz_01 | exact nI_01 (Or.inl rfl) | exact nI_01 (Or.inr rfl) | assumption) ?_
    exact ⟨rfl, by first | exact bz_r1 ⟨i_nlt c1, i_nle c9⟩ | exact bz_r0 (fun z => i_lt_n z.2 c9) | exact bz_r0 (fun z => i_lt_n c1 z.1)⟩
  · refine V_iload1 dX5_isLine_4 ?_
    refine V_aload0 dX5_isLine_5 ?_
    refine gX5_129 dX5_isLine_6 ?_
    rw [r.2.1]
    first | refine V_icmp_ge_n 16 dX5_isLine_9 (by decide) (by omega) (by omega) (fun c9 => ?_) (fun c9 => ?_) | refine V_icmp_ge 16 dX5_isLine_9 (by decide) (fun c9 => ?_) (fun c9 => ?_)
    · refine V_iconst (nI 0) dX5_isLine_16 (by decide) ?_
      refine V_zreti dX5_isLine_17 (by first | exact bz_01 | exact nI_01 (Or.inl rfl) | exact nI_01 (Or.inr rfl) | assumption) ?_
      exact ⟨rfl, by first | exact bz_r1 ⟨i_nlt c1, i_nle c9⟩ | exact bz_r0 (fun z => i_lt_n z.2 c9) | exact bz_r0 (fun z => i_lt_n c1 z.1)⟩
    · refine V_iconst (nI 1) dX5_isLine_12 (by decide) ?_
      refine V_goto 17 dX5_isLine_13 (by decide) ?_
      refine V_zreti dX5_isLine_17 (by first | exact bz_01 | exact nI_01 (Or.inl rfl) | exact nI_01 (Or.inr rfl) | assumption) ?_
      exact ⟨rfl, by first | exact bz_r1 ⟨i_nlt c1, i_nle c9⟩ | exact bz_r0 (fun z => i_lt_n z.2 c9) | exact bz_r0 (fun z => i_lt_n c1 z.1)⟩
set_option maxRecDepth 4000 in
theorem m_X5_isPoint (G : GE) (h : Mem) (N : Ng) (i : Inv N) (r : RAn N h) (x : Int32) : Ct idsA G yX5_isPoint cX5_isPoint 2 (some .boolean) (rmD 0) [.ref (ad G 0), .int x] h (Qi fun v h' => h' = h ∧ v = bz (inR x (nNp N))) := by
  refine Ct.of [some (.ref (ad G 0)), some (.int x)] (by decide) (Nat.le_of_ble_eq_true rfl) (lvE_ok 0 rfl) ?_
  refine V_iload1 dX5_isPoint_0 ?_
  first | refine V_if_lt_n 16 dX5_isPoint_1 (by decide) (by omega) (fun c1 => ?_) (fun c1 => ?_) | refine V_if_lt 16 dX5_isPoint_1 (by decide) (fun c1 => ?_) (fun c1 => ?_)
  · refine V_iconst (nI 0) dX5_isPoint_16 (by decide) ?_
    refine V_zreti dX5_isPoint_17 (by first | exact bz_01 | exact nI_01 (Or.inl rfl) | exact nI_01 (Or.inr rfl) | assumption) ?_
    exact ⟨rfl, by first | exact bz_r1 ⟨i_nlt c1, i_nle c9⟩ | exact bz_r0 (fun z => i_lt_n z.2 c9) | exact bz_r0 (fun z => i_lt_n c1 z.1)⟩
  · refine V_iload1 dX5_isPoint_4 ?_
    refine V_aload0 dX5_isPoint_5 ?_
    refine gX5_115 dX5_isPoint_6 ?_
    rw [r.1]
    first | refine V_icmp_ge_n 16 dX5_isPoint_9 (by decide) (by omega) (by omega) (fun c9 => ?_) (fun c9 => ?_) | refine V_icmp_ge 16 dX5_isPoint_9 (by decide) (fun c9 => ?_) (fun c9 => ?_)
    · refine V_iconst (nI 0) dX5_isPoint_16 (by decide) ?_
      refine V_zreti dX5_isPoint_17 (by first | exact bz_01 | exact nI_01 (Or.inl rfl) | exact nI_01 (Or.inr rfl) | assumption) ?_
      exact ⟨rfl, by first | exact bz_r1 ⟨i_nlt c1, i_nle c9⟩ | exact bz_r0 (fun z => i_lt_n z.2 c9) | exact bz_r0 (fun z => i_lt_n c1 z.1)⟩
    · refine V_iconst (nI 1) dX5_isPoint_12 (by decide) ?_
      refine V_goto 17 dX5_isPoint_13 (by decide) ?_
      refine V_zreti dX5_isPoint_17 (by first | exact bz_01 | exact nI_01 (Or.inl rfl) | exact nI_01 (Or.inr rfl) | assumption) ?_
      exact ⟨rfl, by first | exact bz_r1 ⟨i_nlt c1, i_nle c9⟩ | exact bz_r0 (fun z => i_lt_n z.2 c9) | exact bz_r0 (fun z => i_lt_n c1 z.1)⟩
theorem ownC_le {N : Ng} (i : Inv N) (l : Nat) : ownC N l ≤ 20000 := by
  have := fb_sm_bound (f := fun s => if nMk N s &&& 2 ^ l = 0 then 0 else nPr N (popc (nMk N s) - 1)) (c := 100) (n := 200) (fun k _ => by
    split
    · decide
    · exact (prc_b (s := nSv N) i.2.2.2.2.2.2.2.1 i.2.2.2.2.2.2.2.2.1 _).2)
  exact this
/-- findWay at a line of the net -/
theorem m_find (G : GE) (h : Mem) (N : Ng) (i : Inv N) (r : RAn N h) (l : Nat) (hl : l < nNl N) : Ct idsA G yX0_findWay cX0_findWay 6 (some .boolean) (rmD 5) [.ref (ad G 5), .ref (ad G 4), .ref (ad G (40 + l))] h (Qi fun v h' => RAn N h' ∧ same [5, 13, 14, 15] h h' ∧ ((ldO N l = none ∧ v = 0) ∨ ∃ c w, ldO N l = some (c, w) ∧ okWay (nSh N) (nSt N l) (nGl N l) w ∧ w ≠ [] ∧ v = 1 ∧ h' 5 4 = nI w.length ∧ h' 5 5 = nI c ∧ c ≤ 9901 ∧ ∀ k, k < w.length → h' 15 k = nI (w.getD k 0))) := by
  intro A
  have hnl := i.nl
  have hc := m_X0_findWay G h (nMk N) (nPr N) (nSh N) l (nSt N l) (nGl N l) (by omega) (nD N l) (nD_ok N l) (i.wt _ _) (r.X hl) (i.st hl) (i.gl hl) A
  refine Ct_post hc ?_
  rintro v h' ⟨x, rfl, s1, hh⟩
  refine ⟨x, rfl, r.same s1 (by unfold offN; decide), s1, ?_⟩
  rcases hh with ⟨a1, a2⟩ | ⟨y, w, a1, a2, a3, a4, a5, a6, a7⟩
  · exact Or.inl ⟨ldO_none a1, a2⟩
  · have hw := isP_way i hl a1 a2
    have hm := (nD_ok N l).max (i.wt _ _) (i.st hl) a1
    refine Or.inr ⟨y / 128, w, ldO_some a1 a2, hw, fun e => ?_, a4, a5, a6, by omega, a7⟩
    subst e
    exact i.ne hl hw.2.1
set_option maxRecDepth 4000 in
theorem m_X5_lead (G : GE) (h : Mem) (N : Ng) (i : Inv N) (r : RAn N h) (x : Int32) : Ct idsA G yX5_lead cX5_lead 3 (some .int) (rmD 6) [.ref (ad G 0), .int x] h (Qi fun v h' => (¬ inR x (nNl N) ∧ v = -1000001 ∧ h' = h) ∨ ∃ l, l < nNl N ∧ x = nI l ∧ v = (o_lead N l).1 ∧ RAn (o_lead N l).2 h' ∧ same [5, 10, 13, 14, 15, 40 + l, 60 + l] h h') := by
  refine Ct.of [some (.ref (ad G 0)), some (.int x), none] (by decide) (Nat.le_of_ble_eq_true rfl) (lvE_ok 1 rfl) ?_
  refine V_aload0 dX5_lead_0 ?_
  refine V_iload1 dX5_lead_1 ?_
  refine kX5_141 (m_X5_isLine _ _ N i r _) (rOK_d (by decide) (by decide)) (Nat.le_of_ble_eq_true rfl) dX5_lead_2 (fun r2 h2 hq2 => ?_)
  obtain ⟨e_, rfl⟩ := hq2
  replace e_ := e_.symm
  subst e_
  first | refine V_if_ne_z 11 dX5_lead_5 (by decide) (fun c5 => ?_) (fun c5 => ?_) | refine V_if_ne_n 11 dX5_lead_5 (by decide) (by omega) (fun c5 => ?_) (fun c5 => ?_) | refine V_if_ne 11 dX5_lead_5 (by decide) (fun c5 => ?_) (fun c5 => ?_)
  · obtain ⟨l, hl, rfl⟩ := (inR_iff (by have := i.nl; omega)).mp c5
    have hnl := i.nl
    refine V_aload0 dX5_lead_11 ?_
    refine gX5_21 dX5_lead_12 ?_
    refine V_iload1 dX5_lead_15 ?_
    refine V_aaloadL (by decide) rfl (by first | assumption | omega) dX5_lead_16 ?_
    refine V_astore2 dX5_lead_17 (by decide) rfl ?_
    refine V_aload0 dX5_lead_18 ?_
    refine gX5_35 dX5_lead_19 ?_
    refine V_aload0 dX5_lead_22 ?_
    refine gX5_28 dX5_lead_23 ?_
    refine V_aload2 dX5_lead_26 ?_
    refine kX5_144 (m_find G h N i r l hl) (rOK_d (by decide) (by decide)) (Nat.le_of_ble_eq_true rfl) dX5_lead_27 (fun r27 h27 hq27 => ?_)
    obtain ⟨r2, s2, hres⟩ := hq27
    rcases hres with ⟨hno, rfl⟩ | ⟨c, w, hld, hw, hwn, rfl, hlen, hcost, hcb, hst⟩
    · refine V_if_ne 44 dX5_lead_30 (by decide) (fun c30 => absurd rfl c30) (fun c30 => ?_)
      refine V_aload0 dX5_lead_33 ?_
      refine gX5_28 dX5_lead_34 ?_
      refine V_aload2 dX5_lead_37 ?_
      refine kX5_148 (m_X2_lift G _ (nMk N) r2.M l (nSt N l) (nGl N l) (nWy N l) (by omega) (r2.L hl) (i.st hl) (by have := i.len (l := l); omega) (i.ok hl)) (rOK_d (by decide) (by decide)) (Nat.le_of_ble_eq_true rfl) dX5_lead_38 (fun h38 hq38 => ?_)
      obtain ⟨t1, t2, t3⟩ := hq38
      refine V_ldc ct_X5_113 dX5_lead_41 ?_
      refine V_ireti dX5_lead_43 ?_
      refine Or.inr ⟨l, hl, rfl, ?_, ?_, (s2.mono (by simp)).tr (t1.mono (by simp))⟩
      · simp only [o_lead, hno]
      · simp only [o_lead, hno]
        exact RAn_lift i r2 hl t1 t2 t3
    · refine V_if_ne 44 dX5_lead_30 (by decide) (fun c30 => ?_) (fun c30 => absurd c30 (by decide))
      refine V_aload0 dX5_lead_44 ?_
      refine gX5_28 dX5_lead_45 ?_
      refine V_aload2 dX5_lead_48 ?_
      refine V_aload0 dX5_lead_49 ?_
      refine gX5_35 dX5_lead_50 ?_
      refine gX5_152 dX5_lead_53 ?_
      refine V_iconst (nI 0) dX5_lead_56 (by decide) ?_
      refine V_aload0 dX5_lead_57 ?_
      refine gX5_35 dX5_lead_58 ?_
      refine gX5_155 dX5_lead_61 ?_
      rw [hlen]
      refine kX5_158 (m_X2_giveWay G _ (nMk N) r2.M l (nSt N l) (nGl N l) (nWy N l) (by omega) (r2.L hl) (i.st hl) (by have := i.len (l := l); omega) (i.ok hl) 15 0 100 w (by decide) aI_15 (by decide) (by have := hw.len; omega) (by have := hw.len; omega) (by decide) (by omega) (fun k hk => by rw [Nat.zero_add]; exact hst k hk) hw.1) (rOK_d (by decide) (by decide)) (Nat.le_of_ble_eq_true rfl) dX5_lead_64 (fun h64 hq64 => ?_)
      obtain ⟨t1, t2, t3⟩ := hq64
      refine V_aload0 dX5_lead_67 ?_
      refine gX5_35 dX5_lead_68 ?_
      refine gX5_162 dX5_lead_71 ?_
      rw [t1.at _ _ (by first | (simp; done) | (simp; omega)), hcost]
      refine V_ireti dX5_lead_74 ?_
      refine Or.inr ⟨l, hl, rfl, ?_, ?_, (s2.mono (by simp)).tr (t1.mono (by simp))⟩
      · simp only [o_lead, hld]
      · simp only [o_lead, hld]
        exact RAn_give i r2 hl (hw.sd (i.st hl)) t1 t2 t3
  · refine V_ldc ct_X5_57 dX5_lead_8 ?_
    refine V_ireti dX5_lead_10 ?_
    exact Or.inl ⟨c5, rfl, rfl⟩
set_option maxRecDepth 4000 in
theorem m_X5_take (G : GE) (h : Mem) (N : Ng) (i : Inv N) (r : RAn N h) (x : Int32) : Ct idsA G yX5_take cX5_take 3 (some .int) (rmD 4) [.ref (ad G 0), .int x] h (Qi fun v h' => (¬ inR x (nNl N) ∧ v = -1000001 ∧ h' = h) ∨ ∃ l, l < nNl N ∧ x = nI l ∧ v = bz (0 < (nWy N l).length) ∧ RAn (setW N l []) h' ∧ same [10, 40 + l] h h') := by
  refine Ct.of [some (.ref (ad G 0)), some (.int x), none] (by decide) (Nat.le_of_ble_eq_true rfl) (lvE_ok 1 rfl) ?_
  refine V_aload0 dX5_take_0 ?_
  refine V_iload1 dX5_take_1 ?_
  refine kX5_141 (m_X5_isLine _ _ N i r _) (rOK_d (by decide) (by decide)) (Nat.le_of_ble_eq_true rfl) dX5_take_2 (fun r2 h2 hq2 => ?_)
  obtain ⟨e_, rfl⟩ := hq2
  replace e_ := e_.symm
  subst e_
  first | refine V_if_ne_z 11 dX5_take_5 (by decide) (fun c5 => ?_) (fun c5 => ?_) | refine V_if_ne_n 11 dX5_take_5 (by decide) (by omega) (fun c5 => ?_) (fun c5 => ?_) | refine V_if_ne 11 dX5_take_5 (by decide) (fun c5 => ?_) (fun c5 => ?_)
  · obtain ⟨l, hl, rfl⟩ := (inR_iff (by have := i.nl; omega)).mp c5
    have hnl := i.nl
    have r2 := r
    have hlen := i.len (l := l)
    refine V_aload0 dX5_take_11 ?_
    refine gX5_21 dX5_take_12 ?_
    refine V_iload1 dX5_take_15 ?_
    refine V_aaloadL (by decide) rfl (by first | assumption | omega) dX5_take_16 ?_
    refine kX5_169 (by first | assumption | omega) (m_X1_hasWay _ _ l (nWy N l).length (by omega) (RAn.len i r (by omega)) (by omega)) (rOK_d (by decide) (by decide)) (Nat.le_of_ble_eq_true rfl) dX5_take_17 (fun r17 h17 hq17 => ?_)
    obtain ⟨e_, rfl⟩ := hq17
    replace e_ := e_.symm
    subst e_
    first | refine V_if_eq_z 27 dX5_take_20 (by decide) (fun c20 => ?_) (fun c20 => ?_) | refine V_if_eq_n 27 dX5_take_20 (by decide) (by omega) (fun c20 => ?_) (fun c20 => ?_) | refine V_if_eq 27 dX5_take_20 (by decide) (fun c20 => ?_) (fun c20 => ?_)
    · refine V_iconst (nI 0) dX5_take_27 (by decide) ?_
      refine V_istore2 dX5_take_28 (by decide) rfl ?_
      refine V_aload0 dX5_take_29 ?_
      refine gX5_28 dX5_take_30 ?_
      refine V_aload0 dX5_take_33 ?_
      refine gX5_21 dX5_take_34 ?_
      refine V_iload1 dX5_take_37 ?_
      refine V_aaloadL (by decide) rfl (by first | assumption | omega) dX5_take_38 ?_
      refine kX5_148 (m_X2_lift G _ (nMk N) r2.M l (nSt N l) (nGl N l) (nWy N l) (by omega) (r2.L hl) (i.st hl) (by have := i.len (l := l); omega) (i.ok hl)) (rOK_d (by decide) (by decide)) (Nat.le_of_ble_eq_true rfl) dX5_take_39 (fun h39 hq39 => ?_)
      obtain ⟨t1, t2, t3⟩ := hq39
      refine V_iload2 dX5_take_42 ?_
      refine V_ireti dX5_take_43 ?_
      exact Or.inr ⟨l, hl, rfl, by first | exact bz_r1 c20 | exact bz_r0 c20, RAn_lift i r hl t1 t2 t3, t1⟩
    · refine V_iconst (nI 1) dX5_take_23 (by decide) ?_
      refine V_goto 28 dX5_take_24 (by decide) ?_
      refine V_istore2 dX5_take_28 (by decide) rfl ?_
      refine V_aload0 dX5_take_29 ?_
      refine gX5_28 dX5_take_30 ?_
      refine V_aload0 dX5_take_33 ?_
      refine gX5_21 dX5_take_34 ?_
      refine V_iload1 dX5_take_37 ?_
      refine V_aaloadL (by decide) rfl (by first | assumption | omega) dX5_take_38 ?_
      refine kX5_148 (m_X2_lift G _ (nMk N) r2.M l (nSt N l) (nGl N l) (nWy N l) (by omega) (r2.L hl) (i.st hl) (by have := i.len (l := l); omega) (i.ok hl)) (rOK_d (by decide) (by decide)) (Nat.le_of_ble_eq_true rfl) dX5_take_39 (fun h39 hq39 => ?_)
      obtain ⟨t1, t2, t3⟩ := hq39
      refine V_iload2 dX5_take_42 ?_
      refine V_ireti dX5_take_43 ?_
      exact Or.inr ⟨l, hl, rfl, by first | exact bz_r1 c20 | exact bz_r0 c20, RAn_lift i r hl t1 t2 t3, t1⟩
  · refine V_ldc ct_X5_57 dX5_take_8 ?_
    refine V_ireti dX5_take_10 ?_
    exact Or.inl ⟨c5, rfl, rfl⟩
set_option maxRecDepth 4000 in
theorem m_X5_leadIfBetter (G : GE) (h : Mem) (N : Ng) (i : Inv N) (r : RAn N h) (l : Nat) (hl : l < nNl N) : Ct idsA G yX5_leadIfBetter cX5_leadIfBetter 2 (some .boolean) (rmD 6) [.ref (ad G 0), .ref (ad G (40 + l))] h (Qi fun v h' => v = bz ((o_bet N l).1 = true) ∧ RAn (o_bet N l).2 h' ∧ same [5, 10, 13, 14, 15, 40 + l, 60 + l] h h') := by
  refine Ct.of [some (.ref (ad G 0)), some (.ref (ad G (40 + l)))] (by decide) (Nat.le_of_ble_eq_true rfl) (lvE_ok 0 rfl) ?_
  have hnl := i.nl
  refine V_aload0 dX5_leadIfBetter_0 ?_
  refine gX5_35 dX5_leadIfBetter_1 ?_
  refine V_aload0 dX5_leadIfBetter_4 ?_
  refine gX5_28 dX5_leadIfBetter_5 ?_
  refine V_aload1 dX5_leadIfBetter_8 ?_
  refine kX5_144 (m_find G h N i r l hl) (rOK_d (by decide) (by decide)) (Nat.le_of_ble_eq_true rfl) dX5_leadIfBetter_9 (fun r9 h9 hq9 => ?_)
  obtain ⟨r2, s2, hres⟩ := hq9
  rcases hres with ⟨hno, rfl⟩ | ⟨c, w, hld, hw, hwn, rfl, hlen, hcost, hcb, hst⟩
  · refine V_if_ne 17 dX5_leadIfBetter_12 (by decide) (fun c12 => absurd rfl c12) (fun c12 => ?_)
    refine V_iconst (nI 0) dX5_leadIfBetter_15 (by decide) ?_
    refine V_zreti dX5_leadIfBetter_16 (by first | exact bz_01 | exact nI_01 (Or.inl rfl) | exact nI_01 (Or.inr rfl) | assumption) ?_
    refine ⟨bz_r0 ?_, ?_, s2.mono (by simp)⟩
    · simp only [o_bet, hno]; decide
    · simp only [o_bet, hno]; exact r2
  · refine V_if_ne 17 dX5_leadIfBetter_12 (by decide) (fun c12 => ?_) (fun c12 => absurd c12 (by decide))
    refine V_aload1 dX5_leadIfBetter_17 ?_
    refine kX5_169 (by first | assumption | omega) (m_X1_hasWay _ _ l (nWy N l).length (by omega) (RAn.len i r2 (by omega)) (by have := i.len (l := l); omega)) (rOK_d (by decide) (by decide)) (Nat.le_of_ble_eq_true rfl) dX5_leadIfBetter_18 (fun r18 h18 hq18 => ?_)
    obtain ⟨e_, rfl⟩ := hq18
    replace e_ := e_.symm
    subst e_
    first | refine V_if_eq_z 44 dX5_leadIfBetter_21 (by decide) (fun c21 => ?_) (fun c21 => ?_) | refine V_if_eq_n 44 dX5_leadIfBetter_21 (by decide) (by omega) (fun c21 => ?_) (fun c21 => ?_) | refine V_if_eq 44 dX5_leadIfBetter_21 (by decide) (fun c21 => ?_) (fun c21 => ?_)
    · refine V_aload0 dX5_leadIfBetter_44 ?_
      refine gX5_28 dX5_leadIfBetter_45 ?_
      refine V_aload1 dX5_leadIfBetter_48 ?_
      refine V_aload0 dX5_leadIfBetter_49 ?_
      refine gX5_35 dX5_leadIfBetter_50 ?_
      refine gX5_152 dX5_leadIfBetter_53 ?_
      refine V_iconst (nI 0) dX5_leadIfBetter_56 (by decide) ?_
      refine V_aload0 dX5_leadIfBetter_57 ?_
      refine gX5_35 dX5_leadIfBetter_58 ?_
      refine gX5_155 dX5_leadIfBetter_61 ?_
      rw [hlen]
      refine kX5_158 (m_X2_giveWay G _ (nMk N) r2.M l (nSt N l) (nGl N l) (nWy N l) (by omega) (r2.L hl) (i.st hl) (by have := i.len (l := l); omega) (i.ok hl) 15 0 100 w (by decide) aI_15 (by decide) (by have := hw.len; omega) (by have := hw.len; omega) (by decide) (by omega) (fun k hk => by rw [Nat.zero_add]; exact hst k hk) hw.1) (rOK_d (by decide) (by decide)) (Nat.le_of_ble_eq_true rfl) dX5_leadIfBetter_64 (fun h64 hq64 => ?_)
      obtain ⟨t1, t2, t3⟩ := hq64
      refine V_iconst (nI 1) dX5_leadIfBetter_67 (by decide) ?_
      refine V_zreti dX5_leadIfBetter_68 (by first | exact bz_01 | exact nI_01 (Or.inl rfl) | exact nI_01 (Or.inr rfl) | assumption) ?_
      have hnb : o_bet N l = (true, setW N l w) := by
        simp only [o_bet, hld]
        rw [if_neg]
        rintro ⟨z1, z2⟩
        first | exact absurd c39 (by omega) | exact c21 (Nat.pos_of_ne_zero (fun e => z1 (List.length_eq_zero_iff.mp e)))
      rw [hnb]
      exact ⟨bz_r1 rfl, RAn_give i r2 hl (hw.sd (i.st hl)) t1 t2 t3, (s2.mono (by simp)).tr (t1.mono (by simp))⟩
    · refine V_aload0 dX5_leadIfBetter_24 ?_
      refine gX5_35 dX5_leadIfBetter_25 ?_
      refine gX5_162 dX5_leadIfBetter_28 ?_
      rw [hcost]
      refine V_aload0 dX5_leadIfBetter_31 ?_
      refine gX5_28 dX5_leadIfBetter_32 ?_
      refine V_aload1 dX5_leadIfBetter_35 ?_
      refine kX5_274 (m_X2_costAmongOthers _ _ (nMk N) r2.M (nPr N) r2.P l (by omega) (RAn.bit r2 (by omega))) (rOK_d (by decide) (by decide)) (Nat.le_of_ble_eq_true rfl) dX5_leadIfBetter_36 (fun r36 h36 hq36 => ?_)
      obtain ⟨e_, rfl⟩ := hq36
      replace e_ := e_.symm
      subst e_
      rw [show fb_sm (fun s => if nMk N s &&& 2 ^ l = 0 then 0 else nPr N (popc (nMk N s) - 1)) 200 = ownC N l from rfl]
      have hoc := ownC_le i l
      first | refine V_icmp_lt_n 44 dX5_leadIfBetter_39 (by decide) (by omega) (by omega) (fun c39 => ?_) (fun c39 => ?_) | refine V_icmp_lt 44 dX5_leadIfBetter_39 (by decide) (fun c39 => ?_) (fun c39 => ?_)
      · refine V_aload0 dX5_leadIfBetter_44 ?_
        refine gX5_28 dX5_leadIfBetter_45 ?_
        refine V_aload1 dX5_leadIfBetter_48 ?_
        refine V_aload0 dX5_leadIfBetter_49 ?_
        refine gX5_35 dX5_leadIfBetter_50 ?_
        refine gX5_152 dX5_leadIfBetter_53 ?_
        refine V_iconst (nI 0) dX5_leadIfBetter_56 (by decide) ?_
        refine V_aload0 dX5_leadIfBetter_57 ?_
        refine gX5_35 dX5_leadIfBetter_58 ?_
        refine gX5_155 dX5_leadIfBetter_61 ?_
        rw [hlen]
        refine kX5_158 (m_X2_giveWay G _ (nMk N) r2.M l (nSt N l) (nGl N l) (nWy N l) (by omega) (r2.L hl) (i.st hl) (by have := i.len (l := l); omega) (i.ok hl) 15 0 100 w (by decide) aI_15 (by decide) (by have := hw.len; omega) (by have := hw.len; omega) (by decide) (by omega) (fun k hk => by rw [Nat.zero_add]; exact hst k hk) hw.1) (rOK_d (by decide) (by decide)) (Nat.le_of_ble_eq_true rfl) dX5_leadIfBetter_64 (fun h64 hq64 => ?_)
        obtain ⟨t1, t2, t3⟩ := hq64
        refine V_iconst (nI 1) dX5_leadIfBetter_67 (by decide) ?_
        refine V_zreti dX5_leadIfBetter_68 (by first | exact bz_01 | exact nI_01 (Or.inl rfl) | exact nI_01 (Or.inr rfl) | assumption) ?_
        have hnb : o_bet N l = (true, setW N l w) := by
          simp only [o_bet, hld]
          rw [if_neg]
          rintro ⟨z1, z2⟩
          first | exact absurd c39 (by omega) | exact c21 (Nat.pos_of_ne_zero (fun e => z1 (List.length_eq_zero_iff.mp e)))
        rw [hnb]
        exact ⟨bz_r1 rfl, RAn_give i r2 hl (hw.sd (i.st hl)) t1 t2 t3, (s2.mono (by simp)).tr (t1.mono (by simp))⟩
      · refine V_iconst (nI 0) dX5_leadIfBetter_42 (by decide) ?_
        refine V_zreti dX5_leadIfBetter_43 (by first | exact bz_01 | exact nI_01 (Or.inl rfl) | exact nI_01 (Or.inr rfl) | assumption) ?_
        have hnb : o_bet N l = (false, N) := by simp only [o_bet, hld]; rw [if_pos ⟨fun e => by rw [e] at c21; exact absurd c21 (by decide), Nat.le_of_not_lt c39⟩]
        rw [hnb]
        exact ⟨bz_r0 (fun z => by cases z), r2, s2.mono (by simp)⟩
