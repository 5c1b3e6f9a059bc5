noncomputable def O_point (S : St) (x y : Int32) : Int32 × St := ite' (inR x 10 ∧ inR y 10) (ite' (nSh S.2.1 (cl y * 10 + cl x) = true ∨ ptF (nPp S.2.1) (nNp S.2.1) (cl y * 10 + cl x) ≠ none) (-1000002, S) (ite' (12 ≤ nNp S.2.1) (-1000003, S) (nI (nNp S.2.1), (S.1, addP S.2.1 (cl y * 10 + cl x), S.2.2.1, S.2.2.2)))) (-1000001, S)
noncomputable def O_shut (S : St) (x y : Int32) : Int32 × St := ite' (inR x 10 ∧ inR y 10) (ite' (nSh S.2.1 (cl y * 10 + cl x) = true) (nI 0, S) (ite' (ptF (nPp S.2.1) (nNp S.2.1) (cl y * 10 + cl x) ≠ none ∨ ¬ orL (nMk S.2.1) (cl y * 10 + cl x) 4 = 0) (-1000002, S) (nI 1, (S.1, setSh S.2.1 (cl y * 10 + cl x) true, S.2.2.1, S.2.2.2)))) (-1000001, S)
noncomputable def O_open (S : St) (x y : Int32) : Int32 × St := ite' (inR x 10 ∧ inR y 10) (bz (nSh S.2.1 (cl y * 10 + cl x) = true), (S.1, setSh S.2.1 (cl y * 10 + cl x) false, S.2.2.1, S.2.2.2)) (-1000001, S)
noncomputable def O_line (S : St) (x y : Int32) : Int32 × St := ite' (inR x (nNp S.2.1) ∧ inR y (nNp S.2.1) ∧ x ≠ y) (ite' (12 ≤ nNl S.2.1) (-1000003, S) (nI (nNl S.2.1), (S.1, addL S.2.1 (cl x) (cl y), S.2.2.1, S.2.2.2))) (-1000001, S)
noncomputable def O_rule (S : St) (x v : Int32) : Int32 × St := ite' (x = 0 ∧ nI 1 ≤ v ∧ v ≤ nI 100) (nI (nBs S.2.1), (S.1, setR S.2.1 (cl v) (nSv S.2.1), S.2.2.1, S.2.2.2)) (ite' (x = nI 1 ∧ 0 ≤ v ∧ v ≤ nI 50) (nI (nSv S.2.1), (S.1, setR S.2.1 (nBs S.2.1) (cl v), S.2.2.1, S.2.2.2)) (-1000001, S))
theorem RAn_sh {N : Ng} {h : Mem} (r : RAn N h) {p : Nat} (hp : p < 100) (x : Bool) : RAn (setSh N p x) (wr h 8 p (bz (x = true))) := by
  obtain ⟨r1, r2, r3, r4, r5, r6, r7, r8, r9, r10, r11⟩ := r
  have b : same [8] h (wr h 8 p (bz (x = true))) := same.rf.wr _ _ (by decide)
  have no : ∀ c, c ≠ 8 → c ∉ [8] := fun c hc => by simpa using hc
  refine ⟨by rw [b 0 (by decide)]; exact r1, by rw [b 0 (by decide)]; exact r2, fun k hk => by rw [b 2 (by decide)]; exact r3 k hk, fun q hq => ?_, fun q hq => by rw [b 9 (by decide)]; exact r5 q hq, fun l hl => (r6 l hl).same b (no _ (by omega)) (no _ (by omega)), fun l hl hn => by rw [b (40 + l) (no _ (by omega))]; exact r7 l hl hn, r8.same b (by decide), r9.same b (by decide), by rw [b 4 (by decide)]; exact r10, by rw [b 4 (by decide)]; exact r11⟩
  show wr h 8 p (bz (x = true)) 8 q = bz (va_up (nSh N) p x q = true)
  by_cases e : q = p
  · subst e; rw [wr_s]; exact bz_c (by rw [va_up_s])
  · rw [wr_j _ _ e, r4 q hq]; exact bz_c (by rw [va_up_ne _ _ e])
theorem bz_eq {P Q : Prop} [Decidable P] [Decidable Q] : bz P = bz Q ↔ (P ↔ Q) := by
  unfold bz
  by_cases hp : P <;> by_cases hq : Q <;> simp [hp, hq]
theorem setSh_self {N : Ng} {p : Nat} {x : Bool} (h : nSh N p = x) : setSh N p x = N := by
  have e : va_up (nSh N) p x = nSh N := by
    funext t
    by_cases z : t = p
    · rw [z, va_up_s, h]
    · rw [va_up_ne _ _ z]
  show (va_up (nSh N) p x, nNp N, nPp N, nNl N, nLa N, nLb N, nWy N, nBs N, nSv N) = N
  rw [e]
  rfl
theorem oI_ne {o : Option Nat} (h : ∀ k, o = some k → k < 100) : oI o (-1000000) = -1000000 ↔ o = none := by
  cases o with
  | none => simp [oI]
  | some k =>
    have := h k rfl
    constructor
    · intro e
      have h1 := nI_toInt (show k < 2 ^ 31 by omega)
      rw [show nI k = -1000000 from e] at h1
      have : (-1000000 : Int32).toInt = -1000000 := by decide
      omega
    · intro e; cases e
theorem ptF_lt {N : Ng} (i : Inv N) {p k : Nat} (h : ptF (nPp N) (nNp N) p = some k) : k < 100 := by
  have := (ptF_some h).1
  have := i.np
  omega
set_option maxRecDepth 4000 in
theorem m_X5_turn (G : GE) (h : Mem) (N : Ng) (r : RAn N h) (p : Nat) (hp : p < 100) (x : Bool) : Ct idsA G yX5_turn cX5_turn 3 (some .int) (rmD 0) [.ref (ad G 0), .int (nI p), .int (bz (x = true))] h (Qi fun v h' => v = bz (nSh N p ≠ x) ∧ RAn (setSh N p x) h' ∧ same [8] h h') := by
  refine Ct.of [some (.ref (ad G 0)), some (.int (nI p)), some (.int (bz (x = true)))] (by decide) (Nat.le_of_ble_eq_true rfl) (lvE_ok 0 rfl) ?_
  refine V_aload0 dX5_turn_0 ?_
  refine gX5_28 dX5_turn_1 ?_
  refine gX5_106 dX5_turn_4 ?_
  refine V_iload1 dX5_turn_7 ?_
  refine V_baload (by decide) aZ_8 (by decide) rfl (by first | assumption | omega) dX5_turn_8 ?_
  rw [r.2.2.2.1 p hp]
  refine V_iload2 dX5_turn_9 ?_
  refine V_icmp_ne 15 dX5_turn_10 (by decide) (fun c10 => ?_) (fun c10 => ?_)
  · have hne : nSh N p ≠ x := fun e => c10 (by rw [e])
    refine V_aload0 dX5_turn_15 ?_
    refine gX5_28 dX5_turn_16 ?_
    refine gX5_106 dX5_turn_19 ?_
    refine V_iload1 dX5_turn_22 ?_
    refine V_iload2 dX5_turn_23 ?_
    refine V_bastore (by decide) aZ_8 (by decide) rfl (by first | assumption | omega) (by first | exact bz_01 | exact nI_01 (Or.inl rfl) | exact nI_01 (Or.inr rfl) | assumption) dX5_turn_24 ?_
    refine V_iconst (nI 1) dX5_turn_25 (by decide) ?_
    refine V_ireti dX5_turn_26 ?_
    exact ⟨bz_r1 hne, RAn_sh r hp x, same.rf.wr _ _ (by decide)⟩
  · have heq : nSh N p = x := by have := bz_eq.mp c10; cases x <;> cases hz : nSh N p <;> simp_all
    refine V_iconst (nI 0) dX5_turn_13 (by decide) ?_
    refine V_ireti dX5_turn_14 ?_
    exact ⟨bz_r0 (fun z => z heq), by rw [setSh_self heq]; exact r, same.rf⟩
set_option maxRecDepth 4000 in
theorem m_X5_open (G : GE) (h : Mem) (S : St) (i : Ok S) (a : RA S h) (x y : Int32) : Ct idsA G yX5_open cX5_open 3 (some .int) (rmD 1) [.ref (ad G 0), .int x, .int y] h (Qi fun rv h' => rv = (O_open S x y).1 ∧ RA (O_open S x y).2 h') := by
  refine Ct.of [some (.ref (ad G 0)), some (.int x), some (.int y)] (by decide) (Nat.le_of_ble_eq_true rfl) (lvE_ok 0 rfl) ?_
  refine V_iload1 dX5_open_0 ?_
  refine V_iload2 dX5_open_1 ?_
  refine kX5_100 (m_X5_isPlace _ _ _ _) (rOK_d (by decide) (by decide)) (Nat.le_of_ble_eq_true rfl) dX5_open_2 (fun r2 h2 hq2 => ?_)
  obtain ⟨e_, rfl⟩ := hq2
  replace e_ := e_.symm
  subst e_
  first | refine V_if_eq_z 21 dX5_open_5 (by decide) (fun c5 => ?_) (fun c5 => ?_) | refine V_if_eq_n 21 dX5_open_5 (by decide) (by omega) (fun c5 => ?_) (fun c5 => ?_) | refine V_if_eq 21 dX5_open_5 (by decide) (fun c5 => ?_) (fun c5 => ?_)
  · refine V_ldc ct_X5_57 dX5_open_21 ?_
    refine V_ireti dX5_open_23 ?_
    first
    | (rw [O_open, ite_t c5, kx, ky]; exact ⟨bz_c (by cases nSh S.2.1 (y' * 10 + x') <;> simp), RA_setN a t1 (fun c h1 h2 => t2 c (by simp only [List.mem_cons, List.not_mem_nil, or_false]; omega)) (t2 7 (by decide)) (by rw [t2 0 (by decide)]) (by rw [t2 0 (by decide)])⟩)
    | (rw [O_open, ite_f c5]; exact ⟨rfl, a⟩)
  · obtain ⟨x', hx', rfl⟩ := (inR_iff (by decide)).mp c5.1
    obtain ⟨y', hy', rfl⟩ := (inR_iff (by decide)).mp c5.2
    have kx := cl_nI (show x' < 2 ^ 31 by omega)
    have ky := cl_nI (show y' < 2 ^ 31 by omega)
    have hp : y' * 10 + x' < 100 := by omega
    have i1 := i.1
    refine V_aload0 dX5_open_8 ?_
    refine V_iload1 dX5_open_9 ?_
    refine V_iload2 dX5_open_10 ?_
    refine kX5_103 (m_X5_placeAt _ _ _ _) (rOK_d (by decide) (by decide)) (Nat.le_of_ble_eq_true rfl) dX5_open_11 (fun r11 h11 hq11 => ?_)
    obtain ⟨e_, rfl⟩ := hq11
    replace e_ := e_.symm
    subst e_
    refine V_iconst (nI 0) dX5_open_14 (by decide) ?_
    rw [show nI 0 = bz (false = true) by decide]
    refine kX5_122 (m_X5_turn _ _ S.2.1 a.2.1 _ hp false) (rOK_d (by decide) (by decide)) (Nat.le_of_ble_eq_true rfl) dX5_open_15 (fun r15 h15 hq15 => ?_)
    obtain ⟨rfl, t1, t2⟩ := hq15
    refine V_goto 23 dX5_open_18 (by decide) ?_
    refine V_ireti dX5_open_23 ?_
    first
    | (rw [O_open, ite_t c5, kx, ky]; exact ⟨bz_c (by cases nSh S.2.1 (y' * 10 + x') <;> simp), RA_setN a t1 (fun c h1 h2 => t2 c (by simp only [List.mem_cons, List.not_mem_nil, or_false]; omega)) (t2 7 (by decide)) (by rw [t2 0 (by decide)]) (by rw [t2 0 (by decide)])⟩)
    | (rw [O_open, ite_f c5]; exact ⟨rfl, a⟩)
set_option maxRecDepth 4000 in
theorem m_X5_shut (G : GE) (h : Mem) (S : St) (i : Ok S) (a : RA S h) (x y : Int32) : Ct idsA G yX5_shut cX5_shut 4 (some .int) (rmD 4) [.ref (ad G 0), .int x, .int y] h (Qi fun rv h' => rv = (O_shut S x y).1 ∧ RA (O_shut S x y).2 h') := by
  refine Ct.of [some (.ref (ad G 0)), some (.int x), some (.int y), none] (by decide) (Nat.le_of_ble_eq_true rfl) (lvE_ok 1 rfl) ?_
  refine V_iload1 dX5_shut_0 ?_
  refine V_iload2 dX5_shut_1 ?_
  refine kX5_100 (m_X5_isPlace _ _ _ _) (rOK_d (by decide) (by decide)) (Nat.le_of_ble_eq_true rfl) dX5_shut_2 (fun r2 h2 hq2 => ?_)
  obtain ⟨e_, rfl⟩ := hq2
  replace e_ := e_.symm
  subst e_
  first | refine V_if_ne_z 11 dX5_shut_5 (by decide) (fun c5 => ?_) (fun c5 => ?_) | refine V_if_ne_n 11 dX5_shut_5 (by decide) (by omega) (fun c5 => ?_) (fun c5 => ?_) | refine V_if_ne 11 dX5_shut_5 (by decide) (fun c5 => ?_) (fun c5 => ?_)
  · obtain ⟨x', hx', rfl⟩ := (inR_iff (by decide)).mp c5.1
    obtain ⟨y', hy', rfl⟩ := (inR_iff (by decide)).mp c5.2
    have kx := cl_nI (show x' < 2 ^ 31 by omega)
    have ky := cl_nI (show y' < 2 ^ 31 by omega)
    have hp : y' * 10 + x' < 100 := by omega
    have i1 := i.1
    refine V_iload1 dX5_shut_11 ?_
    refine V_iload2 dX5_shut_12 ?_
    refine kX5_103 (m_X5_placeAt _ _ _ _) (rOK_d (by decide) (by decide)) (Nat.le_of_ble_eq_true rfl) dX5_shut_13 (fun r13 h13 hq13 => ?_)
    obtain ⟨e_, rfl⟩ := hq13
    replace e_ := e_.symm
    subst e_
    refine V_istore3 dX5_shut_16 (by decide) rfl ?_
    refine V_aload0 dX5_shut_17 ?_
    refine gX5_28 dX5_shut_18 ?_
    refine gX5_110 dX5_shut_21 ?_
    refine V_iload3 dX5_shut_24 ?_
    refine V_iaload (by decide) aI_9 (by decide) rfl (by first | assumption | omega) dX5_shut_25 ?_
    rw [a.2.1.2.2.2.2.1 _ hp]
    refine V_ldc ct_X5_113 dX5_shut_26 ?_
    refine V_icmp_ne 42 dX5_shut_28 (by decide) (fun c28 => ?_) (fun c28 => ?_)
    · have hpt : ptF (nPp S.2.1) (nNp S.2.1) (y' * 10 + x') ≠ none := fun e => c28 ((oI_ne (fun k hk => ptF_lt i1 hk)).mpr e)
      refine V_ldc ct_X5_114 dX5_shut_42 ?_
      refine V_ireti dX5_shut_44 ?_
      have hns : nSh S.2.1 (y' * 10 + x') = false := by
        first
        | (cases e : ptF (nPp S.2.1) (nNp S.2.1) (y' * 10 + x') with
           | none => exact absurd e hpt
           | some k => rw [← (ptF_some e).2]; exact (i1.pt (ptF_some e).1).2)
        | (cases hz : nSh S.2.1 (y' * 10 + x') with
           | false => rfl
           | true =>
             exfalso
             refine c39 ((gone_iff i1 hp).mpr (fun l hl hne hpl => ?_))
             rcases i1.wy hl with w | w
             · exact hne w
             · rw [(w.2.2.2 _ hpl).2] at hz; cases hz)
      rw [O_shut, ite_t c5, kx, ky, ite_f (by rw [hns]; decide), ite_t (by first | exact Or.inl hpt | exact Or.inr c39)]
      exact ⟨rfl, a⟩
    · have hpn : ptF (nPp S.2.1) (nNp S.2.1) (y' * 10 + x') = none := (oI_ne (fun k hk => ptF_lt i1 hk)).mp c28
      refine V_aload0 dX5_shut_31 ?_
      refine gX5_28 dX5_shut_32 ?_
      refine V_iload3 dX5_shut_35 ?_
      refine kX5_119 (m_X2_isGoneThrough _ _ (nMk S.2.1) a.2.1.M _ hp) (rOK_d (by decide) (by decide)) (Nat.le_of_ble_eq_true rfl) dX5_shut_36 (fun r36 h36 hq36 => ?_)
      obtain ⟨e_, rfl⟩ := hq36
      replace e_ := e_.symm
      subst e_
      first | refine V_if_eq_z 45 dX5_shut_39 (by decide) (fun c39 => ?_) (fun c39 => ?_) | refine V_if_eq_n 45 dX5_shut_39 (by decide) (by omega) (fun c39 => ?_) (fun c39 => ?_) | refine V_if_eq 45 dX5_shut_39 (by decide) (fun c39 => ?_) (fun c39 => ?_)
      · refine V_aload0 dX5_shut_45 ?_
        refine V_iload3 dX5_shut_46 ?_
        refine V_iconst (nI 1) dX5_shut_47 (by decide) ?_
        rw [show nI 1 = bz (true = true) by decide]
        refine kX5_122 (m_X5_turn _ _ S.2.1 a.2.1 _ hp true) (rOK_d (by decide) (by decide)) (Nat.le_of_ble_eq_true rfl) dX5_shut_48 (fun r48 h48 hq48 => ?_)
        obtain ⟨rfl, t1, t2⟩ := hq48
        refine V_ireti dX5_shut_51 ?_
        by_cases hz : nSh S.2.1 (y' * 10 + x') = true
        · rw [O_shut, ite_t c5, kx, ky, ite_t hz]
          rw [setSh_self hz] at t1
          exact ⟨(bz_r0 (fun z => z hz)).symm, RA_setN a t1 (fun c h1 h2 => t2 c (by simp only [List.mem_cons, List.not_mem_nil, or_false]; omega)) (t2 7 (by decide)) (by rw [t2 0 (by decide)]) (by rw [t2 0 (by decide)])⟩
        · rw [O_shut, ite_t c5, kx, ky, ite_f hz, ite_f (fun z => z.elim (fun y => y hpn) (fun y => y (Classical.byContradiction fun q => c39 q)))]
          exact ⟨(bz_r1 hz).symm, RA_setN a t1 (fun c h1 h2 => t2 c (by simp only [List.mem_cons, List.not_mem_nil, or_false]; omega)) (t2 7 (by decide)) (by rw [t2 0 (by decide)]) (by rw [t2 0 (by decide)])⟩
      · refine V_ldc ct_X5_114 dX5_shut_42 ?_
        refine V_ireti dX5_shut_44 ?_
        have hns : nSh S.2.1 (y' * 10 + x') = false := by
          first
          | (cases e : ptF (nPp S.2.1) (nNp S.2.1) (y' * 10 + x') with
             | none => exact absurd e hpt
             | some k => rw [← (ptF_some e).2]; exact (i1.pt (ptF_some e).1).2)
          | (cases hz : nSh S.2.1 (y' * 10 + x') with
             | false => rfl
             | true =>
               exfalso
               refine c39 ((gone_iff i1 hp).mpr (fun l hl hne hpl => ?_))
               rcases i1.wy hl with w | w
               · exact hne w
               · rw [(w.2.2.2 _ hpl).2] at hz; cases hz)
        rw [O_shut, ite_t c5, kx, ky, ite_f (by rw [hns]; decide), ite_t (by first | exact Or.inl hpt | exact Or.inr c39)]
        exact ⟨rfl, a⟩
  · refine V_ldc ct_X5_57 dX5_shut_8 ?_
    refine V_ireti dX5_shut_10 ?_
    rw [O_shut, ite_f c5]
    exact ⟨rfl, a⟩
