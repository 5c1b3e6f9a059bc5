def lvT (T : Nat × (Nat → Nat)) (b : Nat) : Nat × (Nat → Nat) := if T.1 < 16 then (T.1 + 1, va_up T.2 T.1 b) else T
def fr9 (h h' : Mem) : Prop := same [0, 7] h h' ∧ ∀ j, j ≠ 9 → h' 0 j = h 0 j
theorem fr9.rf {h : Mem} : fr9 h h := ⟨same.rf, fun _ _ => rfl⟩
theorem fr9.tr {h h1 h2 : Mem} (a : fr9 h h1) (b : fr9 h1 h2) : fr9 h h2 := ⟨a.1.tr b.1, fun j hj => (b.2 j hj).trans (a.2 j hj)⟩
theorem RAn_fr9 {N : Ng} {h h' : Mem} (r : RAn N h) (f : fr9 h h') : RAn N h' := by
  obtain ⟨r1, r2, r3, r4, r5, r6, r7, r8, r9, r10, r11⟩ := r
  have no : ∀ c, c ≠ 0 ∧ c ≠ 7 → c ∉ [0, 7] := fun c hc => by simpa using hc
  have b := f.1
  exact ⟨by rw [f.2 7 (by decide)]; exact r1, by rw [f.2 8 (by decide)]; exact r2, fun k hk => by rw [b 2 (by decide)]; exact r3 k hk, fun q hq => by rw [b 8 (by decide)]; exact r4 q hq, fun q hq => by rw [b 9 (by decide)]; exact r5 q hq, fun l hl => (r6 l hl).same b (no _ (by omega)) (no _ (by omega)), fun l hl hn => by rw [b (40 + l) (no _ (by omega))]; exact r7 l hl hn, r8.same b (by decide), r9.same b (by decide), by rw [b 4 (by decide)]; exact r10, by rw [b 4 (by decide)]; exact r11⟩
def nLn (N : Ng) (l : Nat) : Nat := (nWy N l).length
def nSw (N : Ng) (l : Nat) : Nat := swo (nMk N) l
def nDt (N : Ng) (l : Nat) : Nat := nLn N l * 100 / apart (nSt N l) (nGl N l)
def szA (N : Ng) (T : Nat × (Nat → Nat)) (l : Nat) : Nat × (Nat × (Nat → Nat)) := if nSw N l = 0 then (nLn N l + nDt N l, lvT (lvT T 11) 10) else if nSw N l = nLn N l then (2 * nLn N l, lvT (lvT T 12) 10) else (nLn N l + (ownC N l + nSw N l), lvT (lvT (lvT (lvT T 13) 10) 22) 20)
def mkA (N : Ng) (T : Nat × (Nat → Nat)) (l : Nat) : Nat × (Nat × (Nat → Nat)) := if nSw N l = 0 then (ownC N l, lvT T 20) else if nSw N l = nLn N l then (ownC N l + 2 * nLn N l, lvT (lvT (lvT (lvT T 21) 20) 12) 10) else (ownC N l + nSw N l, lvT (lvT T 22) 20)
noncomputable def O_ask (S : St) (x w : Int32) : Int32 × St := ite' (inR x (nNl S.2.1) ∧ 0 ≤ w ∧ w ≤ nI 1) (ite' (nWy S.2.1 (cl x) = []) (-1000002, S) (ite' (w = 0) (nI (szA S.2.1 (0, S.2.2.1.2) (cl x)).1, (S.1, S.2.1, (szA S.2.1 (0, S.2.2.1.2) (cl x)).2, S.2.2.2)) (nI (mkA S.2.1 (0, S.2.2.1.2) (cl x)).1, (S.1, S.2.1, (mkA S.2.1 (0, S.2.2.1.2) (cl x)).2, S.2.2.2)))) (-1000001, S)
set_option maxRecDepth 4000 in
theorem m_X5_leave (G : GE) (h : Mem) (T : Nat × (Nat → Nat)) (t : RAt T h) (b : Nat) : Ct idsA G yX5_leave cX5_leave 2 none (rmD 0) [.ref (ad G 0), .int (nI b)] h (Qv fun h' => RAt (lvT T b) h' ∧ fr9 h h') := by
  refine Ct.of [some (.ref (ad G 0)), some (.int (nI b))] (by decide) (Nat.le_of_ble_eq_true rfl) (lvE_ok 0 rfl) ?_
  obtain ⟨t1, t2, t3⟩ := t
  refine V_aload0 dX5_leave_0 ?_
  refine gX5_238 dX5_leave_1 ?_
  rw [t2]
  refine V_bipush (nI 16) dX5_leave_4 (by decide) ?_
  first | refine V_icmp_ge_n 29 dX5_leave_6 (by decide) (by omega) (by omega) (fun c6 => ?_) (fun c6 => ?_) | refine V_icmp_ge 29 dX5_leave_6 (by decide) (fun c6 => ?_) (fun c6 => ?_)
  · refine V_vreti dX5_leave_29 ?_
    first
    | (rw [lvT, if_neg (Nat.not_lt_of_le c6)]; exact ⟨⟨t1, t2, t3⟩, fr9.rf⟩)
    | (rw [lvT, if_pos (Nat.lt_of_not_le c6)]; exact ⟨⟨Nat.lt_of_not_le c6, wr_s _ _ _ _, fun k hk => by
         rw [wr_c _ _ _ (by decide)]
         have hk2 : k < T.1 + 1 := hk
         by_cases e : k = T.1
         · rw [e, wr_s]; show nI b = nI (va_up T.2 T.1 b T.1); rw [va_up_s]
         · rw [wr_j _ _ e]; show _ = nI (va_up T.2 T.1 b k); rw [va_up_ne _ _ e]; exact t3 k (by omega)⟩, (same.rf.wr _ _ (by decide)).wr _ _ (by decide), fun j hj => by rw [wr_j _ _ hj, wr_c _ _ _ (by decide)]⟩)
  · refine V_aload0 dX5_leave_9 ?_
    refine gX5_46 dX5_leave_10 ?_
    refine V_aload0 dX5_leave_13 ?_
    refine gX5_238 dX5_leave_14 ?_
    rw [t2]
    refine V_iload1 dX5_leave_17 ?_
    refine V_iastore (by decide) aI_7 (by decide) rfl (by first | assumption | omega) dX5_leave_18 ?_
    refine V_aload0 dX5_leave_19 ?_
    refine V_dup dX5_leave_20 rfl ?_
    refine gX5_238 dX5_leave_21 ?_
    rw [wr_c _ _ _ (by decide), t2]
    refine V_iconst (nI 1) dX5_leave_24 (by decide) ?_
    first | refine V_iadd_n dX5_leave_25 ?_ | refine V_iadd dX5_leave_25 ?_
    refine pX5_238 dX5_leave_26 ?_
    refine V_vreti dX5_leave_29 ?_
    first
    | (rw [lvT, if_neg (Nat.not_lt_of_le c6)]; exact ⟨⟨t1, t2, t3⟩, fr9.rf⟩)
    | (rw [lvT, if_pos (Nat.lt_of_not_le c6)]; exact ⟨⟨Nat.lt_of_not_le c6, wr_s _ _ _ _, fun k hk => by
         rw [wr_c _ _ _ (by decide)]
         have hk2 : k < T.1 + 1 := hk
         by_cases e : k = T.1
         · rw [e, wr_s]; show nI b = nI (va_up T.2 T.1 b T.1); rw [va_up_s]
         · rw [wr_j _ _ e]; show _ = nI (va_up T.2 T.1 b k); rw [va_up_ne _ _ e]; exact t3 k (by omega)⟩, (same.rf.wr _ _ (by decide)).wr _ _ (by decide), fun j hj => by rw [wr_j _ _ hj, wr_c _ _ _ (by decide)]⟩)
set_option maxRecDepth 4000 in
theorem m_X5_sizeLent (G : GE) (h : Mem) (N : Ng) (i : Inv N) (r : RAn N h) (T : Nat × (Nat → Nat)) (t : RAt T h) (l : Nat) (hl : l < nNl N) : Ct idsA G yX5_sizeLent cX5_sizeLent 2 (some .int) (rmD 1) [.ref (ad G 0), .ref (ad G (40 + l))] h (Qi fun v h' => v = nI (nLn N l) ∧ RAt (lvT T 10) h' ∧ fr9 h h') := by
  refine Ct.of [some (.ref (ad G 0)), some (.ref (ad G (40 + l)))] (by decide) (Nat.le_of_ble_eq_true rfl) (lvE_ok 0 rfl) ?_
  refine V_aload0 dX5_sizeLent_0 ?_
  refine V_bipush (nI 10) dX5_sizeLent_1 (by decide) ?_
  refine kX5_304 (m_X5_leave _ _ T t 10) (rOK_d (by decide) (by decide)) (Nat.le_of_ble_eq_true rfl) dX5_sizeLent_3 (fun h3 hq3 => ?_)
  obtain ⟨t2, f2⟩ := hq3
  have r2 := RAn_fr9 r f2
  refine V_aload1 dX5_sizeLent_6 ?_
  refine gX5_177 (by have := i.nl; omega) dX5_sizeLent_7 ?_
  rw [RAn.len i r2 (show l < 12 by have := i.nl; omega)]
  refine V_ireti dX5_sizeLent_10 ?_
  exact ⟨rfl, t2, f2⟩
set_option maxRecDepth 4000 in
theorem m_X5_sizeOfAlone (G : GE) (h : Mem) (N : Ng) (i : Inv N) (r : RAn N h) (T : Nat × (Nat → Nat)) (t : RAt T h) (l : Nat) (hl : l < nNl N) : Ct idsA G yX5_sizeOfAlone cX5_sizeOfAlone 2 (some .int) (rmD 2) [.ref (ad G 0), .ref (ad G (40 + l))] h (Qi fun v h' => v = nI (nLn N l + nDt N l) ∧ RAt (lvT (lvT T 11) 10) h' ∧ fr9 h h') := by
  refine Ct.of [some (.ref (ad G 0)), some (.ref (ad G (40 + l)))] (by decide) (Nat.le_of_ble_eq_true rfl) (lvE_ok 0 rfl) ?_
  have hnl := i.nl
  have hlen := i.len (l := l)
  refine V_aload0 dX5_sizeOfAlone_0 ?_
  refine V_bipush (nI 11) dX5_sizeOfAlone_1 (by decide) ?_
  refine kX5_304 (m_X5_leave _ _ T t 11) (rOK_d (by decide) (by decide)) (Nat.le_of_ble_eq_true rfl) dX5_sizeOfAlone_3 (fun h3 hq3 => ?_)
  obtain ⟨t2, f2⟩ := hq3
  have r2 := RAn_fr9 r f2
  refine V_aload0 dX5_sizeOfAlone_6 ?_
  refine V_aload1 dX5_sizeOfAlone_7 ?_
  refine kX5_292 (m_X5_sizeLent _ _ N i r2 _ t2 l hl) (rOK_d (by decide) (by decide)) (Nat.le_of_ble_eq_true rfl) dX5_sizeOfAlone_8 (fun r8 h8 hq8 => ?_)
  obtain ⟨rfl, t3, f3⟩ := hq8
  have r3 := RAn_fr9 r2 f3
  refine V_aload1 dX5_sizeOfAlone_11 ?_
  refine kX5_203 (by first | assumption | omega) (m_X1_detourOfWay _ _ l (nSt N l) (nGl N l) (nWy N l) (by omega) (r3.L hl) (i.st hl) (i.gl hl) (by omega)) (rOK_d (by decide) (by decide)) (Nat.le_of_ble_eq_true rfl) dX5_sizeOfAlone_12 (fun r12 h12 hq12 => ?_)
  obtain ⟨e_, rfl⟩ := hq12
  replace e_ := e_.symm
  subst e_
  rw [if_pos (i.apart hl), show (nWy N l).length * 100 / apart (nSt N l) (nGl N l) = nDt N l from rfl]
  first | refine V_iadd_n dX5_sizeOfAlone_15 ?_ | refine V_iadd dX5_sizeOfAlone_15 ?_
  refine V_ireti dX5_sizeOfAlone_16 ?_
  exact ⟨rfl, t3, f2.tr f3⟩
set_option maxRecDepth 4000 in
theorem m_X5_sizeOfBound (G : GE) (h : Mem) (N : Ng) (i : Inv N) (r : RAn N h) (T : Nat × (Nat → Nat)) (t : RAt T h) (l : Nat) (hl : l < nNl N) : Ct idsA G yX5_sizeOfBound cX5_sizeOfBound 2 (some .int) (rmD 2) [.ref (ad G 0), .ref (ad G (40 + l))] h (Qi fun v h' => v = nI (2 * nLn N l) ∧ RAt (lvT (lvT T 12) 10) h' ∧ fr9 h h') := by
  refine Ct.of [some (.ref (ad G 0)), some (.ref (ad G (40 + l)))] (by decide) (Nat.le_of_ble_eq_true rfl) (lvE_ok 0 rfl) ?_
  have hnl := i.nl
  have hlen := i.len (l := l)
  refine V_aload0 dX5_sizeOfBound_0 ?_
  refine V_bipush (nI 12) dX5_sizeOfBound_1 (by decide) ?_
  refine kX5_304 (m_X5_leave _ _ T t 12) (rOK_d (by decide) (by decide)) (Nat.le_of_ble_eq_true rfl) dX5_sizeOfBound_3 (fun h3 hq3 => ?_)
  obtain ⟨t2, f2⟩ := hq3
  have r2 := RAn_fr9 r f2
  refine V_iconst (nI 2) dX5_sizeOfBound_6 (by decide) ?_
  refine V_aload0 dX5_sizeOfBound_7 ?_
  refine V_aload1 dX5_sizeOfBound_8 ?_
  refine kX5_292 (m_X5_sizeLent _ _ N i r2 _ t2 l hl) (rOK_d (by decide) (by decide)) (Nat.le_of_ble_eq_true rfl) dX5_sizeOfBound_9 (fun r9 h9 hq9 => ?_)
  obtain ⟨rfl, t3, f3⟩ := hq9
  first | refine V_imul_n dX5_sizeOfBound_12 ?_ | refine V_imul dX5_sizeOfBound_12 ?_
  refine V_ireti dX5_sizeOfBound_13 ?_
  exact ⟨rfl, t3, f2.tr f3⟩
set_option maxRecDepth 4000 in
theorem m_X5_markLent (G : GE) (h : Mem) (N : Ng) (i : Inv N) (r : RAn N h) (T : Nat × (Nat → Nat)) (t : RAt T h) (l : Nat) (hl : l < nNl N) : Ct idsA G yX5_markLent cX5_markLent 2 (some .int) (rmD 3) [.ref (ad G 0), .ref (ad G (40 + l))] h (Qi fun v h' => v = nI (ownC N l) ∧ RAt (lvT T 20) h' ∧ fr9 h h') := by
  refine Ct.of [some (.ref (ad G 0)), some (.ref (ad G (40 + l)))] (by decide) (Nat.le_of_ble_eq_true rfl) (lvE_ok 0 rfl) ?_
  have hnl := i.nl
  have hlen := i.len (l := l)
  refine V_aload0 dX5_markLent_0 ?_
  refine V_bipush (nI 20) dX5_markLent_1 (by decide) ?_
  refine kX5_304 (m_X5_leave _ _ T t 20) (rOK_d (by decide) (by decide)) (Nat.le_of_ble_eq_true rfl) dX5_markLent_3 (fun h3 hq3 => ?_)
  obtain ⟨t2, f2⟩ := hq3
  have r2 := RAn_fr9 r f2
  refine V_aload0 dX5_markLent_6 ?_
  refine gX5_28 dX5_markLent_7 ?_
  refine V_aload1 dX5_markLent_10 ?_
  refine kX5_274 (m_X2_costAmongOthers _ _ (nMk N) r2.M (nPr N) r2.P l (by omega) (RAn.bit r2 (by omega))) (rOK_d (by decide) (by decide)) (Nat.le_of_ble_eq_true rfl) dX5_markLent_11 (fun r11 h11 hq11 => ?_)
  obtain ⟨e_, rfl⟩ := hq11
  replace e_ := e_.symm
  subst e_
  refine V_ireti dX5_markLent_14 ?_
  exact ⟨rfl, t2, f2⟩
set_option maxRecDepth 4000 in
theorem m_X5_markOfForked (G : GE) (h : Mem) (N : Ng) (i : Inv N) (r : RAn N h) (T : Nat × (Nat → Nat)) (t : RAt T h) (l : Nat) (hl : l < nNl N) : Ct idsA G yX5_markOfForked cX5_markOfForked 2 (some .int) (rmD 4) [.ref (ad G 0), .ref (ad G (40 + l))] h (Qi fun v h' => v = nI (ownC N l + nSw N l) ∧ RAt (lvT (lvT T 22) 20) h' ∧ fr9 h h') := by
  refine Ct.of [some (.ref (ad G 0)), some (.ref (ad G (40 + l)))] (by decide) (Nat.le_of_ble_eq_true rfl) (lvE_ok 0 rfl) ?_
  have hnl := i.nl
  have hlen := i.len (l := l)
  refine V_aload0 dX5_markOfForked_0 ?_
  refine V_bipush (nI 22) dX5_markOfForked_1 (by decide) ?_
  refine kX5_304 (m_X5_leave _ _ T t 22) (rOK_d (by decide) (by decide)) (Nat.le_of_ble_eq_true rfl) dX5_markOfForked_3 (fun h3 hq3 => ?_)
  obtain ⟨t2, f2⟩ := hq3
  have r2 := RAn_fr9 r f2
  refine V_aload0 dX5_markOfForked_6 ?_
  refine V_aload1 dX5_markOfForked_7 ?_
  refine kX5_301 (m_X5_markLent _ _ N i r2 _ t2 l hl) (rOK_d (by decide) (by decide)) (Nat.le_of_ble_eq_true rfl) dX5_markOfForked_8 (fun r8 h8 hq8 => ?_)
  obtain ⟨rfl, t3, f3⟩ := hq8
  have r3 := RAn_fr9 r2 f3
  refine V_aload0 dX5_markOfForked_11 ?_
  refine gX5_28 dX5_markOfForked_12 ?_
  refine V_aload1 dX5_markOfForked_15 ?_
  refine kX5_307 (m_X2_sidesWithOthers _ _ (nMk N) r3.M l (by omega) (RAn.bit r3 (by omega))) (rOK_d (by decide) (by decide)) (Nat.le_of_ble_eq_true rfl) dX5_markOfForked_16 (fun r16 h16 hq16 => ?_)
  obtain ⟨e_, rfl⟩ := hq16
  replace e_ := e_.symm
  subst e_
  first | refine V_iadd_n dX5_markOfForked_19 ?_ | refine V_iadd dX5_markOfForked_19 ?_
  refine V_ireti dX5_markOfForked_20 ?_
  exact ⟨rfl, t3, f2.tr f3⟩
set_option maxRecDepth 4000 in
theorem m_X5_sizeOfForked (G : GE) (h : Mem) (N : Ng) (i : Inv N) (r : RAn N h) (T : Nat × (Nat → Nat)) (t : RAt T h) (l : Nat) (hl : l < nNl N) : Ct idsA G yX5_sizeOfForked cX5_sizeOfForked 2 (some .int) (rmD 5) [.ref (ad G 0), .ref (ad G (40 + l))] h (Qi fun v h' => v = nI (nLn N l + (ownC N l + nSw N l)) ∧ RAt (lvT (lvT (lvT (lvT T 13) 10) 22) 20) h' ∧ fr9 h h') := by
  refine Ct.of [some (.ref (ad G 0)), some (.ref (ad G (40 + l)))] (by decide) (Nat.le_of_ble_eq_true rfl) (lvE_ok 0 rfl) ?_
  have hnl := i.nl
  have hlen := i.len (l := l)
  refine V_aload0 dX5_sizeOfForked_0 ?_
  refine V_bipush (nI 13) dX5_sizeOfForked_1 (by decide) ?_
  refine kX5_304 (m_X5_leave _ _ T t 13) (rOK_d (by decide) (by decide)) (Nat.le_of_ble_eq_true rfl) dX5_sizeOfForked_3 (fun h3 hq3 => ?_)
  obtain ⟨t2, f2⟩ := hq3
  have r2 := RAn_fr9 r f2
  refine V_aload0 dX5_sizeOfForked_6 ?_
  refine V_aload1 dX5_sizeOfForked_7 ?_
  refine kX5_292 (m_X5_sizeLent _ _ N i r2 _ t2 l hl) (rOK_d (by decide) (by decide)) (Nat.le_of_ble_eq_true rfl) dX5_sizeOfForked_8 (fun r8 h8 hq8 => ?_)
  obtain ⟨rfl, t3, f3⟩ := hq8
  have r3 := RAn_fr9 r2 f3
  refine V_aload0 dX5_sizeOfForked_11 ?_
  refine V_aload1 dX5_sizeOfForked_12 ?_
  refine kX5_298 (m_X5_markOfForked _ _ N i r3 _ t3 l hl) (rOK_d (by decide) (by decide)) (Nat.le_of_ble_eq_true rfl) dX5_sizeOfForked_13 (fun r13 h13 hq13 => ?_)
  obtain ⟨rfl, t4, f4⟩ := hq13
  first | refine V_iadd_n dX5_sizeOfForked_16 ?_ | refine V_iadd dX5_sizeOfForked_16 ?_
  refine V_ireti dX5_sizeOfForked_17 ?_
  exact ⟨rfl, t4, (f2.tr f3).tr f4⟩
set_option maxRecDepth 4000 in
theorem m_X5_markOfBound (G : GE) (h : Mem) (N : Ng) (i : Inv N) (r : RAn N h) (T : Nat × (Nat → Nat)) (t : RAt T h) (l : Nat) (hl : l < nNl N) : Ct idsA G yX5_markOfBound cX5_markOfBound 2 (some .int) (rmD 4) [.ref (ad G 0), .ref (ad G (40 + l))] h (Qi fun v h' => v = nI (ownC N l + 2 * nLn N l) ∧ RAt (lvT (lvT (lvT (lvT T 21) 20) 12) 10) h' ∧ fr9 h h') := by
  refine Ct.of [some (.ref (ad G 0)), some (.ref (ad G (40 + l)))] (by decide) (Nat.le_of_ble_eq_true rfl) (lvE_ok 0 rfl) ?_
  have hnl := i.nl
  have hlen := i.len (l := l)
  refine V_aload0 dX5_markOfBound_0 ?_
  refine V_bipush (nI 21) dX5_markOfBound_1 (by decide) ?_
  refine kX5_304 (m_X5_leave _ _ T t 21) (rOK_d (by decide) (by decide)) (Nat.le_of_ble_eq_true rfl) dX5_markOfBound_3 (fun h3 hq3 => ?_)
  obtain ⟨t2, f2⟩ := hq3
  have r2 := RAn_fr9 r f2
  refine V_aload0 dX5_markOfBound_6 ?_
  refine V_aload1 dX5_markOfBound_7 ?_
  refine kX5_301 (m_X5_markLent _ _ N i r2 _ t2 l hl) (rOK_d (by decide) (by decide)) (Nat.le_of_ble_eq_true rfl) dX5_markOfBound_8 (fun r8 h8 hq8 => ?_)
  obtain ⟨rfl, t3, f3⟩ := hq8
  have r3 := RAn_fr9 r2 f3
  refine V_aload0 dX5_markOfBound_11 ?_
  refine V_aload1 dX5_markOfBound_12 ?_
  refine kX5_286 (m_X5_sizeOfBound _ _ N i r3 _ t3 l hl) (rOK_d (by decide) (by decide)) (Nat.le_of_ble_eq_true rfl) dX5_markOfBound_13 (fun r13 h13 hq13 => ?_)
  obtain ⟨rfl, t4, f4⟩ := hq13
  first | refine V_iadd_n dX5_markOfBound_16 ?_ | refine V_iadd dX5_markOfBound_16 ?_
  refine V_ireti dX5_markOfBound_17 ?_
  exact ⟨rfl, t4, (f2.tr f3).tr f4⟩
set_option maxRecDepth 4000 in
theorem m_X5_sizeAsked (G : GE) (h : Mem) (N : Ng) (i : Inv N) (r : RAn N h) (T : Nat × (Nat → Nat)) (t : RAt T h) (l : Nat) (hl : l < nNl N) (hw : nWy N l ≠ []) : Ct idsA G yX5_sizeAsked cX5_sizeAsked 2 (some .int) (rmD 6) [.ref (ad G 0), .ref (ad G (40 + l))] h (Qi fun v h' => v = nI (szA N T l).1 ∧ RAt (szA N T l).2 h' ∧ fr9 h h') := by
  refine Ct.of [some (.ref (ad G 0)), some (.ref (ad G (40 + l)))] (by decide) (Nat.le_of_ble_eq_true rfl) (lvE_ok 0 rfl) ?_
  have hnl := i.nl
  have hlen := i.len (l := l)
  have hw0 : ¬ (nWy N l).length = 0 := fun e => hw (List.length_eq_zero_iff.mp e)
  refine V_aload0 dX5_sizeAsked_0 ?_
  refine gX5_28 dX5_sizeAsked_1 ?_
  refine V_aload1 dX5_sizeAsked_4 ?_
  refine kX5_234 (m_X2_kindOf _ _ (nMk N) r.M l (by omega) (RAn.bit r (by omega)) (nWy N l).length (RAn.len i r (by omega)) (by omega)) (rOK_d (by decide) (by decide)) (Nat.le_of_ble_eq_true rfl) dX5_sizeAsked_5 (fun r5 h5 hq5 => ?_)
  obtain ⟨e_, rfl⟩ := hq5
  replace e_ := e_.symm
  subst e_
  rw [show kdI (nWy N l).length (swo (nMk N) l) = (if nSw N l = 0 then nI 1 else if nSw N l = nLn N l then nI 2 else nI 3) by rw [kdI, if_neg hw0]; rfl]
  by_cases z1 : nSw N l = 0
  · rw [if_pos z1]
    refine V_tableIn 36 dX5_sizeAsked_8 (by decide) (by decide) rfl (by decide) ?_
    refine V_aload0 dX5_sizeAsked_36 ?_
    refine V_aload1 dX5_sizeAsked_37 ?_
    refine kX5_283 (m_X5_sizeOfAlone _ _ N i r T t l hl) (rOK_d (by decide) (by decide)) (Nat.le_of_ble_eq_true rfl) dX5_sizeAsked_38 (fun r38 h38 hq38 => ?_)
    obtain ⟨rfl, t3, f3⟩ := hq38
    refine V_ireti dX5_sizeAsked_41 ?_
    rw [szA, if_pos z1]
    exact ⟨rfl, t3, f3⟩
  · rw [if_neg z1]
    by_cases z2 : nSw N l = nLn N l
    · rw [if_pos z2]
      refine V_tableIn 42 dX5_sizeAsked_8 (by decide) (by decide) rfl (by decide) ?_
      refine V_aload0 dX5_sizeAsked_42 ?_
      refine V_aload1 dX5_sizeAsked_43 ?_
      refine kX5_286 (m_X5_sizeOfBound _ _ N i r T t l hl) (rOK_d (by decide) (by decide)) (Nat.le_of_ble_eq_true rfl) dX5_sizeAsked_44 (fun r44 h44 hq44 => ?_)
      obtain ⟨rfl, t3, f3⟩ := hq44
      refine V_ireti dX5_sizeAsked_47 ?_
      rw [szA, if_neg z1, if_pos z2]
      exact ⟨rfl, t3, f3⟩
    · rw [if_neg z2]
      refine V_tableIn 48 dX5_sizeAsked_8 (by decide) (by decide) rfl (by decide) ?_
      refine V_aload0 dX5_sizeAsked_48 ?_
      refine V_aload1 dX5_sizeAsked_49 ?_
      refine kX5_289 (m_X5_sizeOfForked _ _ N i r T t l hl) (rOK_d (by decide) (by decide)) (Nat.le_of_ble_eq_true rfl) dX5_sizeAsked_50 (fun r50 h50 hq50 => ?_)
      obtain ⟨rfl, t3, f3⟩ := hq50
      refine V_ireti dX5_sizeAsked_53 ?_
      rw [szA, if_neg z1, if_neg z2]
      exact ⟨rfl, t3, f3⟩
set_option maxRecDepth 4000 in
theorem m_X5_markAsked (G : GE) (h : Mem) (N : Ng) (i : Inv N) (r : RAn N h) (T : Nat × (Nat → Nat)) (t : RAt T h) (l : Nat) (hl : l < nNl N) (hw : nWy N l ≠ []) : Ct idsA G yX5_markAsked cX5_markAsked 2 (some .int) (rmD 6) [.ref (ad G 0), .ref (ad G (40 + l))] h (Qi fun v h' => v = nI (mkA N T l).1 ∧ RAt (mkA N T l).2 h' ∧ fr9 h h') := by
  refine Ct.of [some (.ref (ad G 0)), some (.ref (ad G (40 + l)))] (by decide) (Nat.le_of_ble_eq_true rfl) (lvE_ok 0 rfl) ?_
  have hnl := i.nl
  have hlen := i.len (l := l)
  have hw0 : ¬ (nWy N l).length = 0 := fun e => hw (List.length_eq_zero_iff.mp e)
  refine V_aload0 dX5_markAsked_0 ?_
  refine gX5_28 dX5_markAsked_1 ?_
  refine V_aload1 dX5_markAsked_4 ?_
  refine kX5_234 (m_X2_kindOf _ _ (nMk N) r.M l (by omega) (RAn.bit r (by omega)) (nWy N l).length (RAn.len i r (by omega)) (by omega)) (rOK_d (by decide) (by decide)) (Nat.le_of_ble_eq_true rfl) dX5_markAsked_5 (fun r5 h5 hq5 => ?_)
  obtain ⟨e_, rfl⟩ := hq5
  replace e_ := e_.symm
  subst e_
  rw [show kdI (nWy N l).length (swo (nMk N) l) = (if nSw N l = 0 then nI 1 else if nSw N l = nLn N l then nI 2 else nI 3) by rw [kdI, if_neg hw0]; rfl]
  by_cases z1 : nSw N l = 0
  · rw [if_pos z1]
    refine V_lookup 48 dX5_markAsked_8 (by decide) (off := 40) (by decide) (by decide) ?_
    refine V_aload0 dX5_markAsked_48 ?_
    refine V_aload1 dX5_markAsked_49 ?_
    refine kX5_301 (m_X5_markLent _ _ N i r T t l hl) (rOK_d (by decide) (by decide)) (Nat.le_of_ble_eq_true rfl) dX5_markAsked_50 (fun r50 h50 hq50 => ?_)
    obtain ⟨rfl, t3, f3⟩ := hq50
    refine V_ireti dX5_markAsked_53 ?_
    rw [mkA, if_pos z1]
    exact ⟨rfl, t3, f3⟩
  · rw [if_neg z1]
    by_cases z2 : nSw N l = nLn N l
    · rw [if_pos z2]
      refine V_lookup 36 dX5_markAsked_8 (by decide) (off := 28) (by decide) (by decide) ?_
      refine V_aload0 dX5_markAsked_36 ?_
      refine V_aload1 dX5_markAsked_37 ?_
      refine kX5_295 (m_X5_markOfBound _ _ N i r T t l hl) (rOK_d (by decide) (by decide)) (Nat.le_of_ble_eq_true rfl) dX5_markAsked_38 (fun r38 h38 hq38 => ?_)
      obtain ⟨rfl, t3, f3⟩ := hq38
      refine V_ireti dX5_markAsked_41 ?_
      rw [mkA, if_neg z1, if_pos z2]
      exact ⟨rfl, t3, f3⟩
    · rw [if_neg z2]
      refine V_lookup 42 dX5_markAsked_8 (by decide) (off := 34) (by decide) (by decide) ?_
      refine V_aload0 dX5_markAsked_42 ?_
      refine V_aload1 dX5_markAsked_43 ?_
      refine kX5_298 (m_X5_markOfForked _ _ N i r T t l hl) (rOK_d (by decide) (by decide)) (Nat.le_of_ble_eq_true rfl) dX5_markAsked_44 (fun r44 h44 hq44 => ?_)
      obtain ⟨rfl, t3, f3⟩ := hq44
      refine V_ireti dX5_markAsked_47 ?_
      rw [mkA, if_neg z1, if_neg z2]
      exact ⟨rfl, t3, f3⟩
set_option maxRecDepth 4000 in
theorem m_X5_ask (G : GE) (h : Mem) (S : St) (i : Ok S) (a : RA S h) (x w : Int32) : Ct idsA G yX5_ask cX5_ask 4 (some .int) (rmD 7) [.ref (ad G 0), .int x, .int w] h (Qi fun rv h' => rv = (O_ask S x w).1 ∧ RA (O_ask S x w).2 h') := by
  refine Ct.of [some (.ref (ad G 0)), some (.int x), some (.int w), none] (by decide) (Nat.le_of_ble_eq_true rfl) (lvE_ok 1 rfl) ?_
  refine V_aload0 dX5_ask_0 ?_
  refine V_iload1 dX5_ask_1 ?_
  refine kX5_141 (m_X5_isLine _ _ S.2.1 i.1 a.2.1 _) (rOK_d (by decide) (by decide)) (Nat.le_of_ble_eq_true rfl) dX5_ask_2 (fun r2 h2 hq2 => ?_)
  obtain ⟨e_, rfl⟩ := hq2
  replace e_ := e_.symm
  subst e_
  first | refine V_if_eq_z 17 dX5_ask_5 (by decide) (fun c5 => ?_) (fun c5 => ?_) | refine V_if_eq_n 17 dX5_ask_5 (by decide) (by omega) (fun c5 => ?_) (fun c5 => ?_) | refine V_if_eq 17 dX5_ask_5 (by decide) (fun c5 => ?_) (fun c5 => ?_)
  · refine V_ldc ct_X5_57 dX5_ask_17 ?_
    refine V_ireti dX5_ask_19 ?_
    rw [O_ask, ite_f (show ¬ (inR x (nNl S.2.1) ∧ 0 ≤ w ∧ w ≤ nI 1) from fun z => by first | exact c5 z.1 | exact i_lt_n c9 z.2.1 | exact c14 z.2.2)]
    exact ⟨rfl, a⟩
  · refine V_iload2 dX5_ask_8 ?_
    first | refine V_if_lt_n 17 dX5_ask_9 (by decide) (by omega) (fun c9 => ?_) (fun c9 => ?_) | refine V_if_lt 17 dX5_ask_9 (by decide) (fun c9 => ?_) (fun c9 => ?_)
    · refine V_ldc ct_X5_57 dX5_ask_17 ?_
      refine V_ireti dX5_ask_19 ?_
      rw [O_ask, ite_f (show ¬ (inR x (nNl S.2.1) ∧ 0 ≤ w ∧ w ≤ nI 1) from fun z => by first | exact c5 z.1 | exact i_lt_n c9 z.2.1 | exact c14 z.2.2)]
      exact ⟨rfl, a⟩
    · refine V_iload2 dX5_ask_12 ?_
      refine V_iconst (nI 1) dX5_ask_13 (by decide) ?_
      first | refine V_icmp_le_n 20 dX5_ask_14 (by decide) (by omega) (by omega) (fun c14 => ?_) (fun c14 => ?_) | refine V_icmp_le 20 dX5_ask_14 (by decide) (fun c14 => ?_) (fun c14 => ?_)
      · have hg : inR x (nNl S.2.1) ∧ 0 ≤ w ∧ w ≤ nI 1 := ⟨c5, i_nlt c9, c14⟩
        obtain ⟨l, hl, rfl⟩ := (inR_iff (by have := i.1.nl; omega)).mp c5
        have hnl := i.1.nl
        have kl := cl_nI (show l < 2 ^ 31 by omega)
        have hlen := i.1.len (l := l)
        refine V_aload0 dX5_ask_20 ?_
        refine gX5_21 dX5_ask_21 ?_
        refine V_iload1 dX5_ask_24 ?_
        refine V_aaloadL (by decide) rfl (by first | assumption | omega) dX5_ask_25 ?_
        refine V_astore3 dX5_ask_26 (by decide) rfl ?_
        refine V_aload3 dX5_ask_27 ?_
        refine kX5_169 (by first | assumption | omega) (m_X1_hasWay _ _ l (nWy S.2.1 l).length (by omega) (RAn.len i.1 a.2.1 (by omega)) (by omega)) (rOK_d (by decide) (by decide)) (Nat.le_of_ble_eq_true rfl) dX5_ask_28 (fun r28 h28 hq28 => ?_)
        obtain ⟨e_, rfl⟩ := hq28
        replace e_ := e_.symm
        subst e_
        first | refine V_if_ne_z 37 dX5_ask_31 (by decide) (fun c31 => ?_) (fun c31 => ?_) | refine V_if_ne_n 37 dX5_ask_31 (by decide) (by omega) (fun c31 => ?_) (fun c31 => ?_) | refine V_if_ne 37 dX5_ask_31 (by decide) (fun c31 => ?_) (fun c31 => ?_)
        · refine V_aload0 dX5_ask_37 ?_
          refine V_iconst (nI 0) dX5_ask_38 (by decide) ?_
          refine pX5_238 dX5_ask_39 ?_
          have hwn : nWy S.2.1 l ≠ [] := fun z => len0.mpr z c31
          have r2 : RAn S.2.1 (wr h 0 9 (nI 0)) := RAn_wr0 a.2.1 _ (by decide) (by decide)
          have t2 : RAt (0, S.2.2.1.2) (wr h 0 9 (nI 0)) := ⟨Nat.zero_le _, wr_s _ _ _ _, fun k hk => absurd hk (Nat.not_lt_zero _)⟩
          refine V_iload2 dX5_ask_42 ?_
          first | refine V_if_ne_z 54 dX5_ask_43 (by decide) (fun c43 => ?_) (fun c43 => ?_) | refine V_if_ne_n 54 dX5_ask_43 (by decide) (by omega) (fun c43 => ?_) (fun c43 => ?_) | refine V_if_ne 54 dX5_ask_43 (by decide) (fun c43 => ?_) (fun c43 => ?_)
          · refine V_aload0 dX5_ask_54 ?_
            refine V_aload3 dX5_ask_55 ?_
            refine kX5_244 (m_X5_markAsked _ _ S.2.1 i.1 r2 _ t2 l hl hwn) (rOK_d (by decide) (by decide)) (Nat.le_of_ble_eq_true rfl) dX5_ask_56 (fun r56 h56 hq56 => ?_)
            obtain ⟨rfl, t3, f3⟩ := hq56
            refine V_ireti dX5_ask_59 ?_
            rw [O_ask, ite_t hg, kl, ite_f hwn]
            first
            | (rw [ite_t c43]; exact ⟨rfl, (a.1.same (same.rf.wr (cs := [0, 7]) _ _ (by decide)) (by simp)).same f3.1 (by simp), RAn_fr9 r2 f3, t3, by rw [f3.2 10 (by decide), wr_j _ _ (by decide)]; exact a.2.2.2⟩)
            | (rw [ite_f c43]; exact ⟨rfl, (a.1.same (same.rf.wr (cs := [0, 7]) _ _ (by decide)) (by simp)).same f3.1 (by simp), RAn_fr9 r2 f3, t3, by rw [f3.2 10 (by decide), wr_j _ _ (by decide)]; exact a.2.2.2⟩)
          · refine V_aload0 dX5_ask_46 ?_
            refine V_aload3 dX5_ask_47 ?_
            refine kX5_241 (m_X5_sizeAsked _ _ S.2.1 i.1 r2 _ t2 l hl hwn) (rOK_d (by decide) (by decide)) (Nat.le_of_ble_eq_true rfl) dX5_ask_48 (fun r48 h48 hq48 => ?_)
            obtain ⟨rfl, t3, f3⟩ := hq48
            refine V_goto 59 dX5_ask_51 (by decide) ?_
            refine V_ireti dX5_ask_59 ?_
            rw [O_ask, ite_t hg, kl, ite_f hwn]
            first
            | (rw [ite_t c43]; exact ⟨rfl, (a.1.same (same.rf.wr (cs := [0, 7]) _ _ (by decide)) (by simp)).same f3.1 (by simp), RAn_fr9 r2 f3, t3, by rw [f3.2 10 (by decide), wr_j _ _ (by decide)]; exact a.2.2.2⟩)
            | (rw [ite_f c43]; exact ⟨rfl, (a.1.same (same.rf.wr (cs := [0, 7]) _ _ (by decide)) (by simp)).same f3.1 (by simp), RAn_fr9 r2 f3, t3, by rw [f3.2 10 (by decide), wr_j _ _ (by decide)]; exact a.2.2.2⟩)
        · refine V_ldc ct_X5_114 dX5_ask_34 ?_
          refine V_ireti dX5_ask_36 ?_
          rw [O_ask, ite_t hg, kl, ite_t (len0.mp c31)]
          exact ⟨rfl, a⟩
      · refine V_ldc ct_X5_57 dX5_ask_17 ?_
        refine V_ireti dX5_ask_19 ?_
        rw [O_ask, ite_f (show ¬ (inR x (nNl S.2.1) ∧ 0 ≤ w ∧ w ≤ nI 1) from fun z => by first | exact c5 z.1 | exact i_lt_n c9 z.2.1 | exact c14 z.2.2)]
        exact ⟨rfl, a⟩
