theorem one_fin : ∀ a : Fin 64, ∀ b : Fin 64, (decide (1 < popc (64 * a.val + b.val)) || (decide (64 * a.val + b.val = 0) || (decide ((64 * a.val + b.val).log2 < 12) && decide (64 * a.val + b.val = 2 ^ (64 * a.val + b.val).log2)))) = true := by decide +kernel
theorem one_all (x : Nat) (hx : x < 4096) (h : popc x ≤ 1) : x = 0 ∨ ∃ l, l < 12 ∧ x = 2 ^ l := by
  have := one_fin ⟨x / 64, by omega⟩ ⟨x % 64, by omega⟩
  simp only [show 64 * (x / 64) + x % 64 = x by omega, Bool.or_eq_true, Bool.and_eq_true, decide_eq_true_eq] at this
  rcases this with z | z | z
  · omega
  · exact Or.inl z
  · exact Or.inr ⟨_, z.1, z.2⟩
theorem one_pow : ∀ l, l < 12 → popc (2 ^ l) = 1 := by decide +kernel
theorem swo_b {N : Ng} {l s : Nat} (hl : l < 12) : (nOn N l s && decide (1 < popc (nMk N s))) = decide (¬ nMk N s &&& 2 ^ l = 0 ∧ ¬ nMk N s = 2 ^ l) := by
  have hb : (nMk N s).testBit l = nOn N l s := by unfold nMk; rw [msk_bit]; simp [hl]
  have h1 : nMk N s &&& 2 ^ l = 0 ↔ nOn N l s = false := by rw [fb_bit_nat, hb]
  cases e : nOn N l s with
  | false =>
    rw [Bool.false_and]
    exact (decide_eq_false (fun z => z.1 (h1.mpr e))).symm
  | true =>
    rw [Bool.true_and]
    have h2 : 1 < popc (nMk N s) ↔ ¬ nMk N s = 2 ^ l := by
      constructor
      · intro z y
        rw [y, one_pow l hl] at z
        omega
      · intro z
        refine Nat.lt_of_not_le (fun y => ?_)
        rcases one_all _ (mk_lt N s) y with q | ⟨j, hj, q⟩
        · rw [q, Nat.zero_testBit, e] at hb
          cases hb
        · rw [q, Nat.testBit_two_pow, e] at hb
          have : j = l := by simpa using hb
          exact z (this ▸ q)
    have h3 : ¬ nMk N s &&& 2 ^ l = 0 := fun z => by rw [h1.mp z] at e; cases e
    by_cases q : nMk N s = 2 ^ l
    · rw [decide_eq_false (fun z => h2.mp z q), decide_eq_false (fun z => z.2 q)]
    · rw [decide_eq_true (h2.mpr q), decide_eq_true ⟨h3, q⟩]
theorem swo_eq {N : Ng} (i : Inv N) {l : Nat} (hl : l < 12) : fb_ct (fun s => nOn N l (phi s) && decide (1 < popc (nMk N (phi s)))) 180 = swo (nMk N) l := by
  rw [ct_phi (p := fun s => nOn N l s && decide (1 < popc (nMk N s))) (fun s hs e => by rw [on_img i e]; rfl)]
  exact fb_ct_cong (fun s _ => swo_b hl)
set_option maxRecDepth 4000 in
theorem l_X6_sharedBy (G : GE) (h : Mem) (N : Ng) (i : Inv N) (r : RBn N h) (l m : Nat) (hl : l < 12) (hm : m < 12) (k : Nat) (hk : k ≤ 180) : V idsB G RX6 cX6_sharedBy 5 (some .int) (rmD 0) 5 [some (.ref (ad G 100)), some (.int (nI l)), some (.int (nI m)), some (.int (nI (fb_ct (fun s => nOn N l (phi s) && nOn N m (phi s)) k))), some (.int (nI k))] [] h (Qi (fun v h' => h' = h ∧ v = nI (fb_ct (fun s => nOn N l s && nOn N m s) 200))) := by
  induction hn : 180 - k using Nat.strongRecOn generalizing k with
  | _ n ih =>
    subst hn
    refine V_iload4 dX6_sharedBy_5 ?_
    refine V_sipush (nI 180) dX6_sharedBy_7 (by decide) ?_
    first | refine V_icmp_ge_n 59 dX6_sharedBy_10 (by decide) (by omega) (by omega) (fun c10 => ?_) (fun c10 => ?_) | refine V_icmp_ge 59 dX6_sharedBy_10 (by decide) (fun c10 => ?_) (fun c10 => ?_)
    · refine V_iload3 dX6_sharedBy_59 ?_
      refine V_ireti dX6_sharedBy_60 ?_
      obtain rfl : k = 180 := by omega
      exact ⟨rfl, by rw [ct_phi (p := fun s => nOn N l s && nOn N m s) (fun s hs e => by rw [on_img i e]; rfl)]⟩
    · refine V_iload3 dX6_sharedBy_13 ?_
      refine V_aload0 dX6_sharedBy_14 ?_
      refine gX6_38 dX6_sharedBy_15 ?_
      refine V_sipush (nI 180) dX6_sharedBy_18 (by decide) ?_
      refine V_iload1 dX6_sharedBy_21 ?_
      first | refine V_imul_n dX6_sharedBy_22 ?_ | refine V_imul dX6_sharedBy_22 ?_
      refine V_iload4 dX6_sharedBy_23 ?_
      first | refine V_iadd_n dX6_sharedBy_25 ?_ | refine V_iadd dX6_sharedBy_25 ?_
      refine V_baload (by decide) aZ_113 (by decide) rfl (by first | assumption | omega) dX6_sharedBy_26 ?_
      rw [r.2.2.2.2.2.2.1 l hl k (by omega)]
      first | refine V_if_eq_z 50 dX6_sharedBy_27 (by decide) (fun c27 => ?_) (fun c27 => ?_) | refine V_if_eq_n 50 dX6_sharedBy_27 (by decide) (by omega) (fun c27 => ?_) (fun c27 => ?_) | refine V_if_eq 50 dX6_sharedBy_27 (by decide) (fun c27 => ?_) (fun c27 => ?_)
      · refine V_iconst (nI 0) dX6_sharedBy_50 (by decide) ?_
        first | refine V_iadd_n dX6_sharedBy_51 ?_ | refine V_iadd dX6_sharedBy_51 ?_
        refine V_istore3 dX6_sharedBy_52 (by decide) rfl ?_
        first | refine V_iinc4_n 1 dX6_sharedBy_53 (by decide) (by decide) rfl ?_ | refine V_iinc4 (nI 1) dX6_sharedBy_53 (by decide) (by decide) rfl ?_
        refine V_goto 5 dX6_sharedBy_56 (by decide) ?_
        first
        | rw [ct_t (p := (fun s => nOn N l (phi s) && nOn N m (phi s))) (n := k) (by simp only [c27, c43]; rfl)]
        | rw [Nat.add_zero, ct_f (p := (fun s => nOn N l (phi s) && nOn N m (phi s))) (n := k) (by simp only [Bool.eq_false_iff.mpr c43, Bool.and_false])]
        | rw [Nat.add_zero, ct_f (p := (fun s => nOn N l (phi s) && nOn N m (phi s))) (n := k) (by simp only [Bool.eq_false_iff.mpr c27, Bool.false_and])]
        exact ih _ (by omega) (k + 1) (by omega) rfl
      · refine V_aload0 dX6_sharedBy_30 ?_
        refine gX6_38 dX6_sharedBy_31 ?_
        refine V_sipush (nI 180) dX6_sharedBy_34 (by decide) ?_
        refine V_iload2 dX6_sharedBy_37 ?_
        first | refine V_imul_n dX6_sharedBy_38 ?_ | refine V_imul dX6_sharedBy_38 ?_
        refine V_iload4 dX6_sharedBy_39 ?_
        first | refine V_iadd_n dX6_sharedBy_41 ?_ | refine V_iadd dX6_sharedBy_41 ?_
        refine V_baload (by decide) aZ_113 (by decide) rfl (by first | assumption | omega) dX6_sharedBy_42 ?_
        rw [r.2.2.2.2.2.2.1 m hm k (by omega)]
        first | refine V_if_eq_z 50 dX6_sharedBy_43 (by decide) (fun c43 => ?_) (fun c43 => ?_) | refine V_if_eq_n 50 dX6_sharedBy_43 (by decide) (by omega) (fun c43 => ?_) (fun c43 => ?_) | refine V_if_eq 50 dX6_sharedBy_43 (by decide) (fun c43 => ?_) (fun c43 => ?_)
        · refine V_iconst (nI 0) dX6_sharedBy_50 (by decide) ?_
          first | refine V_iadd_n dX6_sharedBy_51 ?_ | refine V_iadd dX6_sharedBy_51 ?_
          refine V_istore3 dX6_sharedBy_52 (by decide) rfl ?_
          first | refine V_iinc4_n 1 dX6_sharedBy_53 (by decide) (by decide) rfl ?_ | refine V_iinc4 (nI 1) dX6_sharedBy_53 (by decide) (by decide) rfl ?_
          refine V_goto 5 dX6_sharedBy_56 (by decide) ?_
          first
          | rw [ct_t (p := (fun s => nOn N l (phi s) && nOn N m (phi s))) (n := k) (by simp only [c27, c43]; rfl)]
          | rw [Nat.add_zero, ct_f (p := (fun s => nOn N l (phi s) && nOn N m (phi s))) (n := k) (by simp only [Bool.eq_false_iff.mpr c43, Bool.and_false])]
          | rw [Nat.add_zero, ct_f (p := (fun s => nOn N l (phi s) && nOn N m (phi s))) (n := k) (by simp only [Bool.eq_false_iff.mpr c27, Bool.false_and])]
          exact ih _ (by omega) (k + 1) (by omega) rfl
        · refine V_iconst (nI 1) dX6_sharedBy_46 (by decide) ?_
          refine V_goto 51 dX6_sharedBy_47 (by decide) ?_
          first | refine V_iadd_n dX6_sharedBy_51 ?_ | refine V_iadd dX6_sharedBy_51 ?_
          refine V_istore3 dX6_sharedBy_52 (by decide) rfl ?_
          first | refine V_iinc4_n 1 dX6_sharedBy_53 (by decide) (by decide) rfl ?_ | refine V_iinc4 (nI 1) dX6_sharedBy_53 (by decide) (by decide) rfl ?_
          refine V_goto 5 dX6_sharedBy_56 (by decide) ?_
          first
          | rw [ct_t (p := (fun s => nOn N l (phi s) && nOn N m (phi s))) (n := k) (by simp only [c27, c43]; rfl)]
          | rw [Nat.add_zero, ct_f (p := (fun s => nOn N l (phi s) && nOn N m (phi s))) (n := k) (by simp only [Bool.eq_false_iff.mpr c43, Bool.and_false])]
          | rw [Nat.add_zero, ct_f (p := (fun s => nOn N l (phi s) && nOn N m (phi s))) (n := k) (by simp only [Bool.eq_false_iff.mpr c27, Bool.false_and])]
          exact ih _ (by omega) (k + 1) (by omega) rfl
set_option maxRecDepth 4000 in
theorem m_X6_sharedBy (G : GE) (h : Mem) (N : Ng) (i : Inv N) (r : RBn N h) (l m : Nat) (hl : l < 12) (hm : m < 12) : Ct idsB G yX6_sharedBy cX6_sharedBy 5 (some .int) (rmD 0) [.ref (ad G 100), .int (nI l), .int (nI m)] h (Qi fun v h' => h' = h ∧ v = nI (fb_ct (fun s => nOn N l s && nOn N m s) 200)) := by
  refine Ct.of [some (.ref (ad G 100)), some (.int (nI l)), some (.int (nI m)), none, none] (by decide) (Nat.le_of_ble_eq_true rfl) (lvE_ok 2 rfl) ?_
  refine V_iconst (nI 0) dX6_sharedBy_0 (by decide) ?_
  refine V_istore3 dX6_sharedBy_1 (by decide) rfl ?_
  refine V_iconst (nI 0) dX6_sharedBy_2 (by decide) ?_
  refine V_istore4 dX6_sharedBy_3 (by decide) rfl ?_
  exact l_X6_sharedBy G h N i r l m hl hm 0 (by decide)
set_option maxRecDepth 4000 in
theorem l_X6_sharing (G : GE) (h : Mem) (N : Ng) (i : Inv N) (r : RBn N h) (l : Nat) (hl : l < 12) (k : Nat) (hk : k ≤ 180) : V idsB G RX6 cX6_sharing 4 (some .int) (rmD 1) 4 [some (.ref (ad G 100)), some (.int (nI l)), some (.int (nI (fb_ct (fun s => nOn N l (phi s) && decide (1 < popc (nMk N (phi s)))) k))), some (.int (nI k))] [] h (Qi (fun v h' => h' = h ∧ v = nI (swo (nMk N) l))) := by
  induction hn : 180 - k using Nat.strongRecOn generalizing k with
  | _ n ih =>
    subst hn
    refine V_iload3 dX6_sharing_4 ?_
    refine V_sipush (nI 180) dX6_sharing_5 (by decide) ?_
    first | refine V_icmp_ge_n 49 dX6_sharing_8 (by decide) (by omega) (by omega) (fun c8 => ?_) (fun c8 => ?_) | refine V_icmp_ge 49 dX6_sharing_8 (by decide) (fun c8 => ?_) (fun c8 => ?_)
    · refine V_iload2 dX6_sharing_49 ?_
      refine V_ireti dX6_sharing_50 ?_
      obtain rfl : k = 180 := by omega
      exact ⟨rfl, by rw [swo_eq i hl]⟩
    · refine V_iload2 dX6_sharing_11 ?_
      refine V_aload0 dX6_sharing_12 ?_
      refine gX6_38 dX6_sharing_13 ?_
      refine V_sipush (nI 180) dX6_sharing_16 (by decide) ?_
      refine V_iload1 dX6_sharing_19 ?_
      first | refine V_imul_n dX6_sharing_20 ?_ | refine V_imul dX6_sharing_20 ?_
      refine V_iload3 dX6_sharing_21 ?_
      first | refine V_iadd_n dX6_sharing_22 ?_ | refine V_iadd dX6_sharing_22 ?_
      refine V_baload (by decide) aZ_113 (by decide) rfl (by first | assumption | omega) dX6_sharing_23 ?_
      rw [r.2.2.2.2.2.2.1 l hl k (by omega)]
      have hpl := popc_le (nMk N (phi k))
      first | refine V_if_eq_z 40 dX6_sharing_24 (by decide) (fun c24 => ?_) (fun c24 => ?_) | refine V_if_eq_n 40 dX6_sharing_24 (by decide) (by omega) (fun c24 => ?_) (fun c24 => ?_) | refine V_if_eq 40 dX6_sharing_24 (by decide) (fun c24 => ?_) (fun c24 => ?_)
      · refine V_iconst (nI 0) dX6_sharing_40 (by decide) ?_
        first | refine V_iadd_n dX6_sharing_41 ?_ | refine V_iadd dX6_sharing_41 ?_
        refine V_istore2 dX6_sharing_42 (by decide) rfl ?_
        first | refine V_iinc3_n 1 dX6_sharing_43 (by decide) (by decide) rfl ?_ | refine V_iinc3 (nI 1) dX6_sharing_43 (by decide) (by decide) rfl ?_
        refine V_goto 4 dX6_sharing_46 (by decide) ?_
        first
        | rw [ct_t (p := (fun s => nOn N l (phi s) && decide (1 < popc (nMk N (phi s))))) (n := k) (by simp only [c24, Bool.true_and]; exact decide_eq_true (by omega))]
        | rw [Nat.add_zero, ct_f (p := (fun s => nOn N l (phi s) && decide (1 < popc (nMk N (phi s))))) (n := k) (by simp only [c24, Bool.true_and]; exact decide_eq_false (by omega))]
        | rw [Nat.add_zero, ct_f (p := (fun s => nOn N l (phi s) && decide (1 < popc (nMk N (phi s))))) (n := k) (by simp only [Bool.eq_false_iff.mpr c24, Bool.false_and])]
        exact ih _ (by omega) (k + 1) (by omega) rfl
      · refine V_aload0 dX6_sharing_27 ?_
        refine V_iload3 dX6_sharing_28 ?_
        refine kX6_112 (m_X6_widthOf _ _ N i r _ (by omega)) (rOK_d (by decide) (by decide)) (Nat.le_of_ble_eq_true rfl) dX6_sharing_29 (fun r29 h29 hq29 => ?_)
        obtain ⟨e_, rfl⟩ := hq29
        replace e_ := e_.symm
        subst e_
        refine V_iconst (nI 1) dX6_sharing_32 (by decide) ?_
        first | refine V_icmp_le_n 40 dX6_sharing_33 (by decide) (by omega) (by omega) (fun c33 => ?_) (fun c33 => ?_) | refine V_icmp_le 40 dX6_sharing_33 (by decide) (fun c33 => ?_) (fun c33 => ?_)
        · refine V_iconst (nI 0) dX6_sharing_40 (by decide) ?_
          first | refine V_iadd_n dX6_sharing_41 ?_ | refine V_iadd dX6_sharing_41 ?_
          refine V_istore2 dX6_sharing_42 (by decide) rfl ?_
          first | refine V_iinc3_n 1 dX6_sharing_43 (by decide) (by decide) rfl ?_ | refine V_iinc3 (nI 1) dX6_sharing_43 (by decide) (by decide) rfl ?_
          refine V_goto 4 dX6_sharing_46 (by decide) ?_
          first
          | rw [ct_t (p := (fun s => nOn N l (phi s) && decide (1 < popc (nMk N (phi s))))) (n := k) (by simp only [c24, Bool.true_and]; exact decide_eq_true (by omega))]
          | rw [Nat.add_zero, ct_f (p := (fun s => nOn N l (phi s) && decide (1 < popc (nMk N (phi s))))) (n := k) (by simp only [c24, Bool.true_and]; exact decide_eq_false (by omega))]
          | rw [Nat.add_zero, ct_f (p := (fun s => nOn N l (phi s) && decide (1 < popc (nMk N (phi s))))) (n := k) (by simp only [Bool.eq_false_iff.mpr c24, Bool.false_and])]
          exact ih _ (by omega) (k + 1) (by omega) rfl
        · refine V_iconst (nI 1) dX6_sharing_36 (by decide) ?_
          refine V_goto 41 dX6_sharing_37 (by decide) ?_
          first | refine V_iadd_n dX6_sharing_41 ?_ | refine V_iadd dX6_sharing_41 ?_
          refine V_istore2 dX6_sharing_42 (by decide) rfl ?_
          first | refine V_iinc3_n 1 dX6_sharing_43 (by decide) (by decide) rfl ?_ | refine V_iinc3 (nI 1) dX6_sharing_43 (by decide) (by decide) rfl ?_
          refine V_goto 4 dX6_sharing_46 (by decide) ?_
          first
          | rw [ct_t (p := (fun s => nOn N l (phi s) && decide (1 < popc (nMk N (phi s))))) (n := k) (by simp only [c24, Bool.true_and]; exact decide_eq_true (by omega))]
          | rw [Nat.add_zero, ct_f (p := (fun s => nOn N l (phi s) && decide (1 < popc (nMk N (phi s))))) (n := k) (by simp only [c24, Bool.true_and]; exact decide_eq_false (by omega))]
          | rw [Nat.add_zero, ct_f (p := (fun s => nOn N l (phi s) && decide (1 < popc (nMk N (phi s))))) (n := k) (by simp only [Bool.eq_false_iff.mpr c24, Bool.false_and])]
          exact ih _ (by omega) (k + 1) (by omega) rfl
set_option maxRecDepth 4000 in
theorem m_X6_sharing (G : GE) (h : Mem) (N : Ng) (i : Inv N) (r : RBn N h) (l : Nat) (hl : l < 12) : Ct idsB G yX6_sharing cX6_sharing 4 (some .int) (rmD 1) [.ref (ad G 100), .int (nI l)] h (Qi fun v h' => h' = h ∧ v = nI (swo (nMk N) l)) := by
  refine Ct.of [some (.ref (ad G 100)), some (.int (nI l)), none, none] (by decide) (Nat.le_of_ble_eq_true rfl) (lvE_ok 2 rfl) ?_
  refine V_iconst (nI 0) dX6_sharing_0 (by decide) ?_
  refine V_istore2 dX6_sharing_1 (by decide) rfl ?_
  refine V_iconst (nI 0) dX6_sharing_2 (by decide) ?_
  refine V_istore3 dX6_sharing_3 (by decide) rfl ?_
  exact l_X6_sharing G h N i r l hl 0 (by decide)
