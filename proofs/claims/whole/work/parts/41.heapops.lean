set_option maxRecDepth 4000 in
theorem l_X0_reach (G : GE) (h hc : Mem) (q0 q : Nat → Nat) (n p sum a : Nat) (hn : n < 400) (ha : a ≤ n) (hkey : sum * 128 + p < 2 ^ 31) (hq0 : ∀ i, i < n → q0 i < 2 ^ 31) (e1 : same [5, 13, 14] h hc) (e2 : hc 13 = upd (h 13) p (nI sum)) (e3 : ∀ j, j ≠ 3 → hc 5 j = h 5 j) (e4 : hc 5 3 = nI (n + 1)) (e5 : ∀ i, i < n + 1 → i ≠ a → hc 14 i = nI (q i)) (e6 : q a = sum * 128 + p) (e7 : SU q (n + 1) a) (e8 : ∀ k, kc q (n + 1) k = kc q0 n k + (if k = sum * 128 + p then 1 else 0)) : V idsA G RX0 cX0_reach 5 none (rmD 0) 42 [some (.ref (ad G 5)), some (.int (nI p)), some (.int (nI sum)), some (.int (nI (sum * 128 + p))), some (.int (nI a))] [] hc (Qv (fun h' => same [5, 13, 14] h h' ∧ h' 13 = upd (h 13) p (nI sum) ∧ (∀ j, j ≠ 3 → h' 5 j = h 5 j) ∧ ∃ q', hasH q' (n + 1) h' ∧ hOrd q' (n + 1) ∧ ∀ k, kc q' (n + 1) k = kc q0 n k + (if k = sum * 128 + p then 1 else 0))) := by
  induction hm : a using Nat.strongRecOn generalizing hc q a with
  | _ m ih =>
    subst hm
    refine V_iload4 dX0_reach_42 ?_
    first | refine V_if_le_n 91 dX0_reach_44 (by decide) (by omega) (fun c44 => ?_) (fun c44 => ?_) | refine V_if_le 91 dX0_reach_44 (by decide) (fun c44 => ?_) (fun c44 => ?_)
    · refine V_aload0 dX0_reach_91 ?_
      refine gX0_15 dX0_reach_92 ?_
      refine V_iload4 dX0_reach_95 ?_
      refine V_iload3 dX0_reach_97 ?_
      refine V_iastore (by decide) aI_14 (by decide) rfl (by first | assumption | omega) dX0_reach_98 ?_
      refine V_vreti dX0_reach_99 ?_
      refine ⟨e1.wr _ _ (by decide), ?_, ?_, q, ⟨?_, ?_, kc_lt hq0 hkey e8⟩, e7.done (by first | exact Or.inl (by omega) | exact Or.inr (by omega)), e8⟩
      · rw [wr_c _ _ _ (by decide)]; exact e2
      · intro j hj
        rw [wr_c _ _ _ (by decide)]; exact e3 j hj
      · rw [wr_c _ _ _ (by decide)]; exact e4
      · intro i hi
        by_cases z : i = a
        · subst z; rw [wr_s, e6]
        · rw [wr_j _ _ z]; exact e5 i hi z
    · refine V_aload0 dX0_reach_47 ?_
      refine gX0_15 dX0_reach_48 ?_
      refine V_iload4 dX0_reach_51 ?_
      refine V_iconst (nI 1) dX0_reach_53 (by decide) ?_
      first | refine V_isub_n dX0_reach_54 (by omega) ?_ | refine V_isub dX0_reach_54 ?_
      refine V_iconst (nI 2) dX0_reach_55 (by decide) ?_
      first | refine V_idiv_n dX0_reach_56 (by omega) (by omega) (by omega) ?_ | refine V_idiv dX0_reach_56 (by decide) ?_
      refine V_iaload (by decide) aI_14 (by decide) rfl (by first | assumption | omega) dX0_reach_57 ?_
      rw [e5 _ (by omega) (by omega)]
      have hb := kc_lt hq0 hkey e8 ((a - 1) / 2) (by omega)
      refine V_iload3 dX0_reach_58 ?_
      first | refine V_icmp_le_n 91 dX0_reach_59 (by decide) (by omega) (by omega) (fun c59 => ?_) (fun c59 => ?_) | refine V_icmp_le 91 dX0_reach_59 (by decide) (fun c59 => ?_) (fun c59 => ?_)
      · refine V_aload0 dX0_reach_91 ?_
        refine gX0_15 dX0_reach_92 ?_
        refine V_iload4 dX0_reach_95 ?_
        refine V_iload3 dX0_reach_97 ?_
        refine V_iastore (by decide) aI_14 (by decide) rfl (by first | assumption | omega) dX0_reach_98 ?_
        refine V_vreti dX0_reach_99 ?_
        refine ⟨e1.wr _ _ (by decide), ?_, ?_, q, ⟨?_, ?_, kc_lt hq0 hkey e8⟩, e7.done (by first | exact Or.inl (by omega) | exact Or.inr (by omega)), e8⟩
        · rw [wr_c _ _ _ (by decide)]; exact e2
        · intro j hj
          rw [wr_c _ _ _ (by decide)]; exact e3 j hj
        · rw [wr_c _ _ _ (by decide)]; exact e4
        · intro i hi
          by_cases z : i = a
          · subst z; rw [wr_s, e6]
          · rw [wr_j _ _ z]; exact e5 i hi z
      · refine V_aload0 dX0_reach_62 ?_
        refine gX0_15 dX0_reach_63 ?_
        refine V_iload4 dX0_reach_66 ?_
        refine V_aload0 dX0_reach_68 ?_
        refine gX0_15 dX0_reach_69 ?_
        refine V_iload4 dX0_reach_72 ?_
        refine V_iconst (nI 1) dX0_reach_74 (by decide) ?_
        first | refine V_isub_n dX0_reach_75 (by omega) ?_ | refine V_isub dX0_reach_75 ?_
        refine V_iconst (nI 2) dX0_reach_76 (by decide) ?_
        first | refine V_idiv_n dX0_reach_77 (by omega) (by omega) (by omega) ?_ | refine V_idiv dX0_reach_77 (by decide) ?_
        refine V_iaload (by decide) aI_14 (by decide) rfl (by first | assumption | omega) dX0_reach_78 ?_
        rw [e5 _ (by omega) (by omega)]
        refine V_iastore (by decide) aI_14 (by decide) rfl (by first | assumption | omega) dX0_reach_79 ?_
        refine V_iload4 dX0_reach_80 ?_
        refine V_iconst (nI 1) dX0_reach_82 (by decide) ?_
        first | refine V_isub_n dX0_reach_83 (by omega) ?_ | refine V_isub dX0_reach_83 ?_
        refine V_iconst (nI 2) dX0_reach_84 (by decide) ?_
        first | refine V_idiv_n dX0_reach_85 (by omega) (by omega) (by omega) ?_ | refine V_idiv dX0_reach_85 (by decide) ?_
        refine V_istore4 dX0_reach_86 (by decide) rfl ?_
        refine V_goto 42 dX0_reach_88 (by decide) ?_
        have hb := kc_lt hq0 hkey e8
        refine ih _ (by omega) _ (sw q a ((a - 1) / 2)) ((a - 1) / 2) (by omega) (e1.wr _ _ (by decide)) ?_ ?_ ?_ ?_ ?_ (e7.step (by omega) (by omega) (by omega)) ?_ rfl
        · rw [wr_c _ _ _ (by decide)]; exact e2
        · intro j hj
          rw [wr_c _ _ _ (by decide)]; exact e3 j hj
        · rw [wr_c _ _ _ (by decide)]; exact e4
        · intro i hi hne
          by_cases z : i = a
          · subst z; rw [wr_s]; simp [sw]
          · rw [wr_j _ _ z, e5 i hi z]; simp [sw, z, hne]
        · simp only [sw]
          rw [if_neg (by omega), if_pos trivial, e6]
        · intro k
          rw [kc_sw (by omega) (by omega)]; exact e8 k
set_option maxRecDepth 4000 in
theorem m_X0_reach (G : GE) (h : Mem) (q : Nat → Nat) (n p sum : Nat) (hH : hasH q n h) (hO : hOrd q n) (hn : n < 400) (hp : p < 100) (hkey : sum * 128 + p < 2 ^ 31) : Ct idsA G yX0_reach cX0_reach 5 none (rmD 0) [.ref (ad G 5), .int (nI p), .int (nI sum)] h (Qv fun h' => same [5, 13, 14] h h' ∧ h' 13 = upd (h 13) p (nI sum) ∧ (∀ j, j ≠ 3 → h' 5 j = h 5 j) ∧ ∃ q', hasH q' (n + 1) h' ∧ hOrd q' (n + 1) ∧ ∀ k, kc q' (n + 1) k = kc q n k + (if k = sum * 128 + p then 1 else 0)) := by
  refine Ct.of [some (.ref (ad G 5)), some (.int (nI p)), some (.int (nI sum)), none, none] (by decide) (Nat.le_of_ble_eq_true rfl) (lvE_ok 2 rfl) ?_
  refine V_aload0 dX0_reach_0 ?_
  refine gX0_73 dX0_reach_1 ?_
  rw [hH.1]
  refine V_sipush (nI 400) dX0_reach_4 (by decide) ?_
  first | refine V_icmp_lt_n 11 dX0_reach_7 (by decide) (by omega) (by omega) (fun c7 => ?_) (fun c7 => ?_) | refine V_icmp_lt 11 dX0_reach_7 (by decide) (fun c7 => ?_) (fun c7 => ?_)
  · refine V_aload0 dX0_reach_11 ?_
    refine gX0_9 dX0_reach_12 ?_
    refine V_iload1 dX0_reach_15 ?_
    refine V_iload2 dX0_reach_16 ?_
    refine V_iastore (by decide) aI_13 (by decide) rfl (by first | assumption | omega) dX0_reach_17 ?_
    refine V_iload2 dX0_reach_18 ?_
    refine V_sipush (nI 128) dX0_reach_19 (by decide) ?_
    first | refine V_imul_n dX0_reach_22 ?_ | refine V_imul dX0_reach_22 ?_
    refine V_iload1 dX0_reach_23 ?_
    first | refine V_iadd_n dX0_reach_24 ?_ | refine V_iadd dX0_reach_24 ?_
    refine V_istore3 dX0_reach_25 (by decide) rfl ?_
    refine V_aload0 dX0_reach_26 ?_
    refine gX0_73 dX0_reach_27 ?_
    rw [wr_c _ _ _ (by decide), hH.1]
    refine V_istore4 dX0_reach_30 (by decide) rfl ?_
    refine V_aload0 dX0_reach_32 ?_
    refine V_dup dX0_reach_33 rfl ?_
    refine gX0_73 dX0_reach_34 ?_
    rw [wr_c _ _ _ (by decide), hH.1]
    refine V_iconst (nI 1) dX0_reach_37 (by decide) ?_
    first | refine V_iadd_n dX0_reach_38 ?_ | refine V_iadd dX0_reach_38 ?_
    refine pX0_73 dX0_reach_39 ?_
    refine l_X0_reach G h _ q (fun i => if i = n then sum * 128 + p else q i) n p sum n hn (Nat.le_refl _) hkey hH.2.2 ((same.rf.wr _ _ (by decide)).wr _ _ (by decide)) ?_ ?_ (wr_s _ _ _ _) ?_ (if_pos rfl) ⟨?_, ?_⟩ ?_
    · rw [wr_c _ _ _ (by decide), wr_row]
    · intro j hj
      rw [wr_j _ _ hj, wr_c _ _ _ (by decide)]
    · intro i hi hne
      rw [if_neg hne, wr_c _ _ _ (by decide), wr_c _ _ _ (by decide)]
      exact hH.2.1 i (by omega)
    · intro i i0 hi hne
      show (if (i - 1) / 2 = n then sum * 128 + p else q ((i - 1) / 2)) ≤ (if i = n then sum * 128 + p else q i)
      rw [if_neg hne, if_neg (by omega)]
      exact hO i i0 (by omega)
    · intro c c0 hc hcn _
      omega
    · intro k
      rw [kc_succ, if_pos rfl, kc_cong (q' := q) (fun i hi => if_neg (by omega))]
      by_cases z : k = sum * 128 + p
      · rw [if_pos z, if_pos z.symm]
      · rw [if_neg z, if_neg (Ne.symm z)]
  · exact absurd hn c7 --end
set_option maxRecDepth 4000 in
theorem l_X0_pull (G : GE) (h hc : Mem) (q0 q : Nat → Nat) (n key a : Nat) (hn : n < 400) (hb : ∀ i, i < n → q i < 2 ^ 31) (hkey : key < 2 ^ 31) (ha : a < n + 1) (e1 : same [5, 14] h hc) (e3 : ∀ j, j ≠ 3 → hc 5 j = h 5 j) (e4 : hc 5 3 = nI n) (e5 : ∀ i, i < n → i ≠ a → hc 14 i = nI (q i)) (e6 : a < n → q a = key) (e7 : SD q n a) (e8 : ∀ k, kc q n k + (if k = q0 0 then 1 else 0) = kc q0 (n + 1) k) : V idsA G RX0 cX0_pull 5 (some .int) (rmD 0) 32 [some (.ref (ad G 5)), some (.int (nI (q0 0))), some (.int (nI key)), some (.int (nI a)), some (.int (nI (2 * a + 1)))] [] hc (Qi (fun r h' => r = nI (q0 0) ∧ same [5, 14] h h' ∧ (∀ j, j ≠ 3 → h' 5 j = h 5 j) ∧ ∃ q', hasH q' n h' ∧ hOrd q' n ∧ ∀ k, kc q' n k + (if k = q0 0 then 1 else 0) = kc q0 (n + 1) k)) := by
  induction hm : n - a using Nat.strongRecOn generalizing hc q a with
  | _ m ih =>
    subst hm
    refine V_iload4 dX0_pull_32 ?_
    refine V_aload0 dX0_pull_34 ?_
    refine gX0_73 dX0_pull_35 ?_
    rw [e4]
    first | refine V_icmp_ge_n 114 dX0_pull_38 (by decide) (by omega) (by omega) (fun c38 => ?_) (fun c38 => ?_) | refine V_icmp_ge 114 dX0_pull_38 (by decide) (fun c38 => ?_) (fun c38 => ?_)
    · refine V_aload0 dX0_pull_114 ?_
      refine gX0_15 dX0_pull_115 ?_
      refine V_iload3 dX0_pull_118 ?_
      refine V_iload2 dX0_pull_119 ?_
      refine V_iastore (by decide) aI_14 (by decide) rfl (by first | assumption | omega) dX0_pull_120 ?_
      refine V_iload1 dX0_pull_121 ?_
      refine V_ireti dX0_pull_122 ?_
      refine ⟨rfl, e1.wr _ _ (by decide), ?_, q, ⟨?_, ?_, hb⟩, e7.done (fun c c0 hc hcp => by omega), e8⟩
      · intro j hj
        rw [wr_c _ _ _ (by decide)]; exact e3 j hj
      · rw [wr_c _ _ _ (by decide)]; exact e4
      · intro i hi
        by_cases z : i = a
        · subst z; rw [wr_s, e6 hi]
        · rw [wr_j _ _ z]; exact e5 i hi z
    · refine V_iload4 dX0_pull_41 ?_
      refine V_iconst (nI 1) dX0_pull_43 (by decide) ?_
      first | refine V_iadd_n dX0_pull_44 ?_ | refine V_iadd dX0_pull_44 ?_
      refine V_aload0 dX0_pull_45 ?_
      refine gX0_73 dX0_pull_46 ?_
      rw [e4]
      first | refine V_icmp_ge_n 74 dX0_pull_49 (by decide) (by omega) (by omega) (fun c49 => ?_) (fun c49 => ?_) | refine V_icmp_ge 74 dX0_pull_49 (by decide) (fun c49 => ?_) (fun c49 => ?_)
      · refine V_aload0 dX0_pull_74 ?_
        refine gX0_15 dX0_pull_75 ?_
        refine V_iload4 dX0_pull_78 ?_
        refine V_iaload (by decide) aI_14 (by decide) rfl (by first | assumption | omega) dX0_pull_80 ?_
        rw [e5 _ (by omega) (by omega)]
        have hb1 := hb (2 * a + 1) (by omega)
        refine V_iload2 dX0_pull_81 ?_
        first | refine V_icmp_lt_n 88 dX0_pull_82 (by decide) (by omega) (by omega) (fun c82 => ?_) (fun c82 => ?_) | refine V_icmp_lt 88 dX0_pull_82 (by decide) (fun c82 => ?_) (fun c82 => ?_)
        · refine V_aload0 dX0_pull_88 ?_
          refine gX0_15 dX0_pull_89 ?_
          refine V_iload3 dX0_pull_92 ?_
          refine V_aload0 dX0_pull_93 ?_
          refine gX0_15 dX0_pull_94 ?_
          refine V_iload4 dX0_pull_97 ?_
          refine V_iaload (by decide) aI_14 (by decide) rfl (by first | assumption | omega) dX0_pull_99 ?_
          rw [e5 _ (by omega) (by omega)]
          refine V_iastore (by decide) aI_14 (by decide) rfl (by first | assumption | omega) dX0_pull_100 ?_
          refine V_iload4 dX0_pull_101 ?_
          refine V_istore3 dX0_pull_103 (by decide) rfl ?_
          refine V_iconst (nI 2) dX0_pull_104 (by decide) ?_
          refine V_iload3 dX0_pull_105 ?_
          first | refine V_imul_n dX0_pull_106 ?_ | refine V_imul dX0_pull_106 ?_
          refine V_iconst (nI 1) dX0_pull_107 (by decide) ?_
          first | refine V_iadd_n dX0_pull_108 ?_ | refine V_iadd dX0_pull_108 ?_
          refine V_istore4 dX0_pull_109 (by decide) rfl ?_
          refine V_goto 32 dX0_pull_111 (by decide) ?_
          refine ih _ (by omega) _ (sw q a (2 * a + 1)) (2 * a + 1) ?_ (by omega) (e1.wr _ _ (by decide)) ?_ ?_ ?_ ?_ (e7.step (by omega) (by omega) (fun c c0 hc hcp => by rcases (show c = 2 * a + 1 ∨ c = 2 * a + 1 + 1 by omega) with rfl | rfl <;> omega) (by rw [e6 (by omega)]; exact c82)) ?_ rfl
          · intro i hi
            unfold sw
            split
            · exact hb _ (by omega)
            · split
              · exact hb _ (by omega)
              · exact hb _ hi
          · intro j hj
            rw [wr_c _ _ _ (by decide)]; exact e3 j hj
          · rw [wr_c _ _ _ (by decide)]; exact e4
          · intro i hi hne
            by_cases z : i = a
            · subst z; rw [wr_s]; simp [sw]
            · rw [wr_j _ _ z, e5 i hi z]; simp [sw, z, hne]
          · intro _
            simp only [sw]
            rw [if_neg (by omega), if_pos trivial, e6 (by omega)]
          · intro k
            rw [kc_sw (by omega) (by omega)]; exact e8 k
        · refine V_goto 114 dX0_pull_85 (by decide) ?_
          refine V_aload0 dX0_pull_114 ?_
          refine gX0_15 dX0_pull_115 ?_
          refine V_iload3 dX0_pull_118 ?_
          refine V_iload2 dX0_pull_119 ?_
          refine V_iastore (by decide) aI_14 (by decide) rfl (by first | assumption | omega) dX0_pull_120 ?_
          refine V_iload1 dX0_pull_121 ?_
          refine V_ireti dX0_pull_122 ?_
          refine ⟨rfl, e1.wr _ _ (by decide), ?_, q, ⟨?_, ?_, hb⟩, e7.done (fun c c0 hc hcp => by rw [e6 (by omega)]; rcases (show c = 2 * a + 1 ∨ c = 2 * a + 1 + 1 by omega) with rfl | rfl <;> omega), e8⟩
          · intro j hj
            rw [wr_c _ _ _ (by decide)]; exact e3 j hj
          · rw [wr_c _ _ _ (by decide)]; exact e4
          · intro i hi
            by_cases z : i = a
            · subst z; rw [wr_s, e6 hi]
            · rw [wr_j _ _ z]; exact e5 i hi z
      · refine V_aload0 dX0_pull_52 ?_
        refine gX0_15 dX0_pull_53 ?_
        refine V_iload4 dX0_pull_56 ?_
        refine V_iconst (nI 1) dX0_pull_58 (by decide) ?_
        first | refine V_iadd_n dX0_pull_59 ?_ | refine V_iadd dX0_pull_59 ?_
        refine V_iaload (by decide) aI_14 (by decide) rfl (by first | assumption | omega) dX0_pull_60 ?_
        rw [e5 _ (by omega) (by omega)]
        have hba := hb (2 * a + 1 + 1) (by omega)
        refine V_aload0 dX0_pull_61 ?_
        refine gX0_15 dX0_pull_62 ?_
        refine V_iload4 dX0_pull_65 ?_
        refine V_iaload (by decide) aI_14 (by decide) rfl (by first | assumption | omega) dX0_pull_67 ?_
        rw [e5 _ (by omega) (by omega)]
        have hbb := hb (2 * a + 1) (by omega)
        first | refine V_icmp_ge_n 74 dX0_pull_68 (by decide) (by omega) (by omega) (fun c68 => ?_) (fun c68 => ?_) | refine V_icmp_ge 74 dX0_pull_68 (by decide) (fun c68 => ?_) (fun c68 => ?_)
        · refine V_aload0 dX0_pull_74 ?_
          refine gX0_15 dX0_pull_75 ?_
          refine V_iload4 dX0_pull_78 ?_
          refine V_iaload (by decide) aI_14 (by decide) rfl (by first | assumption | omega) dX0_pull_80 ?_
          rw [e5 _ (by omega) (by omega)]
          have hb1 := hb (2 * a + 1) (by omega)
          refine V_iload2 dX0_pull_81 ?_
          first | refine V_icmp_lt_n 88 dX0_pull_82 (by decide) (by omega) (by omega) (fun c82 => ?_) (fun c82 => ?_) | refine V_icmp_lt 88 dX0_pull_82 (by decide) (fun c82 => ?_) (fun c82 => ?_)
          · refine V_aload0 dX0_pull_88 ?_
            refine gX0_15 dX0_pull_89 ?_
            refine V_iload3 dX0_pull_92 ?_
            refine V_aload0 dX0_pull_93 ?_
            refine gX0_15 dX0_pull_94 ?_
            refine V_iload4 dX0_pull_97 ?_
            refine V_iaload (by decide) aI_14 (by decide) rfl (by first | assumption | omega) dX0_pull_99 ?_
            rw [e5 _ (by omega) (by omega)]
            refine V_iastore (by decide) aI_14 (by decide) rfl (by first | assumption | omega) dX0_pull_100 ?_
            refine V_iload4 dX0_pull_101 ?_
            refine V_istore3 dX0_pull_103 (by decide) rfl ?_
            refine V_iconst (nI 2) dX0_pull_104 (by decide) ?_
            refine V_iload3 dX0_pull_105 ?_
            first | refine V_imul_n dX0_pull_106 ?_ | refine V_imul dX0_pull_106 ?_
            refine V_iconst (nI 1) dX0_pull_107 (by decide) ?_
            first | refine V_iadd_n dX0_pull_108 ?_ | refine V_iadd dX0_pull_108 ?_
            refine V_istore4 dX0_pull_109 (by decide) rfl ?_
            refine V_goto 32 dX0_pull_111 (by decide) ?_
            refine ih _ (by omega) _ (sw q a (2 * a + 1)) (2 * a + 1) ?_ (by omega) (e1.wr _ _ (by decide)) ?_ ?_ ?_ ?_ (e7.step (by omega) (by omega) (fun c c0 hc hcp => by rcases (show c = 2 * a + 1 ∨ c = 2 * a + 1 + 1 by omega) with rfl | rfl <;> omega) (by rw [e6 (by omega)]; exact c82)) ?_ rfl
            · intro i hi
              unfold sw
              split
              · exact hb _ (by omega)
              · split
                · exact hb _ (by omega)
                · exact hb _ hi
            · intro j hj
              rw [wr_c _ _ _ (by decide)]; exact e3 j hj
            · rw [wr_c _ _ _ (by decide)]; exact e4
            · intro i hi hne
              by_cases z : i = a
              · subst z; rw [wr_s]; simp [sw]
              · rw [wr_j _ _ z, e5 i hi z]; simp [sw, z, hne]
            · intro _
              simp only [sw]
              rw [if_neg (by omega), if_pos trivial, e6 (by omega)]
            · intro k
              rw [kc_sw (by omega) (by omega)]; exact e8 k
          · refine V_goto 114 dX0_pull_85 (by decide) ?_
            refine V_aload0 dX0_pull_114 ?_
            refine gX0_15 dX0_pull_115 ?_
            refine V_iload3 dX0_pull_118 ?_
            refine V_iload2 dX0_pull_119 ?_
            refine V_iastore (by decide) aI_14 (by decide) rfl (by first | assumption | omega) dX0_pull_120 ?_
            refine V_iload1 dX0_pull_121 ?_
            refine V_ireti dX0_pull_122 ?_
            refine ⟨rfl, e1.wr _ _ (by decide), ?_, q, ⟨?_, ?_, hb⟩, e7.done (fun c c0 hc hcp => by rw [e6 (by omega)]; rcases (show c = 2 * a + 1 ∨ c = 2 * a + 1 + 1 by omega) with rfl | rfl <;> omega), e8⟩
            · intro j hj
              rw [wr_c _ _ _ (by decide)]; exact e3 j hj
            · rw [wr_c _ _ _ (by decide)]; exact e4
            · intro i hi
              by_cases z : i = a
              · subst z; rw [wr_s, e6 hi]
              · rw [wr_j _ _ z]; exact e5 i hi z
        · first | refine V_iinc4_n 1 dX0_pull_71 (by decide) (by decide) rfl ?_ | skip
          refine V_aload0 dX0_pull_74 ?_
          refine gX0_15 dX0_pull_75 ?_
          refine V_iload4 dX0_pull_78 ?_
          refine V_iaload (by decide) aI_14 (by decide) rfl (by first | assumption | omega) dX0_pull_80 ?_
          rw [e5 _ (by omega) (by omega)]
          have hb1 := hb (2 * a + 1 + 1) (by omega)
          refine V_iload2 dX0_pull_81 ?_
          first | refine V_icmp_lt_n 88 dX0_pull_82 (by decide) (by omega) (by omega) (fun c82 => ?_) (fun c82 => ?_) | refine V_icmp_lt 88 dX0_pull_82 (by decide) (fun c82 => ?_) (fun c82 => ?_)
          · refine V_aload0 dX0_pull_88 ?_
            refine gX0_15 dX0_pull_89 ?_
            refine V_iload3 dX0_pull_92 ?_
            refine V_aload0 dX0_pull_93 ?_
            refine gX0_15 dX0_pull_94 ?_
            refine V_iload4 dX0_pull_97 ?_
            refine V_iaload (by decide) aI_14 (by decide) rfl (by first | assumption | omega) dX0_pull_99 ?_
            rw [e5 _ (by omega) (by omega)]
            refine V_iastore (by decide) aI_14 (by decide) rfl (by first | assumption | omega) dX0_pull_100 ?_
            refine V_iload4 dX0_pull_101 ?_
            refine V_istore3 dX0_pull_103 (by decide) rfl ?_
            refine V_iconst (nI 2) dX0_pull_104 (by decide) ?_
            refine V_iload3 dX0_pull_105 ?_
            first | refine V_imul_n dX0_pull_106 ?_ | refine V_imul dX0_pull_106 ?_
            refine V_iconst (nI 1) dX0_pull_107 (by decide) ?_
            first | refine V_iadd_n dX0_pull_108 ?_ | refine V_iadd dX0_pull_108 ?_
            refine V_istore4 dX0_pull_109 (by decide) rfl ?_
            refine V_goto 32 dX0_pull_111 (by decide) ?_
            refine ih _ (by omega) _ (sw q a (2 * a + 1 + 1)) (2 * a + 1 + 1) ?_ (by omega) (e1.wr _ _ (by decide)) ?_ ?_ ?_ ?_ (e7.step (by omega) (by omega) (fun c c0 hc hcp => by rcases (show c = 2 * a + 1 ∨ c = 2 * a + 1 + 1 by omega) with rfl | rfl <;> omega) (by rw [e6 (by omega)]; exact c82)) ?_ rfl
            · intro i hi
              unfold sw
              split
              · exact hb _ (by omega)
              · split
                · exact hb _ (by omega)
                · exact hb _ hi
            · intro j hj
              rw [wr_c _ _ _ (by decide)]; exact e3 j hj
            · rw [wr_c _ _ _ (by decide)]; exact e4
            · intro i hi hne
              by_cases z : i = a
              · subst z; rw [wr_s]; simp [sw]
              · rw [wr_j _ _ z, e5 i hi z]; simp [sw, z, hne]
            · intro _
              simp only [sw]
              rw [if_neg (by omega), if_pos trivial, e6 (by omega)]
            · intro k
              rw [kc_sw (by omega) (by omega)]; exact e8 k
          · refine V_goto 114 dX0_pull_85 (by decide) ?_
            refine V_aload0 dX0_pull_114 ?_
            refine gX0_15 dX0_pull_115 ?_
            refine V_iload3 dX0_pull_118 ?_
            refine V_iload2 dX0_pull_119 ?_
            refine V_iastore (by decide) aI_14 (by decide) rfl (by first | assumption | omega) dX0_pull_120 ?_
            refine V_iload1 dX0_pull_121 ?_
            refine V_ireti dX0_pull_122 ?_
            refine ⟨rfl, e1.wr _ _ (by decide), ?_, q, ⟨?_, ?_, hb⟩, e7.done (fun c c0 hc hcp => by rw [e6 (by omega)]; rcases (show c = 2 * a + 1 ∨ c = 2 * a + 1 + 1 by omega) with rfl | rfl <;> omega), e8⟩
            · intro j hj
              rw [wr_c _ _ _ (by decide)]; exact e3 j hj
            · rw [wr_c _ _ _ (by decide)]; exact e4
            · intro i hi
              by_cases z : i = a
              · subst z; rw [wr_s, e6 hi]
              · rw [wr_j _ _ z]; exact e5 i hi z
set_option maxRecDepth 4000 in
theorem m_X0_pull (G : GE) (h : Mem) (q : Nat → Nat) (n : Nat) (hH : hasH q (n + 1) h) (hO : hOrd q (n + 1)) (hn : n < 400) : Ct idsA G yX0_pull cX0_pull 5 (some .int) (rmD 0) [.ref (ad G 5)] h (Qi fun r h' => r = nI (q 0) ∧ same [5, 14] h h' ∧ (∀ j, j ≠ 3 → h' 5 j = h 5 j) ∧ ∃ q', hasH q' n h' ∧ hOrd q' n ∧ ∀ k, kc q' n k + (if k = q 0 then 1 else 0) = kc q (n + 1) k) := by
  refine Ct.of [some (.ref (ad G 5)), none, none, none, none] (by decide) (Nat.le_of_ble_eq_true rfl) (lvE_ok 4 rfl) ?_
  refine V_aload0 dX0_pull_0 ?_
  refine gX0_15 dX0_pull_1 ?_
  refine V_iconst (nI 0) dX0_pull_4 (by decide) ?_
  refine V_iaload (by decide) aI_14 (by decide) rfl (show 0 < 400 by decide) dX0_pull_5 ?_
  rw [hH.2.1 0 (by omega)]
  refine V_istore1 dX0_pull_6 (by decide) rfl ?_
  refine V_aload0 dX0_pull_7 ?_
  refine V_dup dX0_pull_8 rfl ?_
  refine gX0_73 dX0_pull_9 ?_
  rw [hH.1]
  refine V_iconst (nI 1) dX0_pull_12 (by decide) ?_
  first | refine V_isub_n dX0_pull_13 (by omega) ?_ | refine V_isub dX0_pull_13 ?_
  refine pX0_73 dX0_pull_14 ?_
  refine V_aload0 dX0_pull_17 ?_
  refine gX0_15 dX0_pull_18 ?_
  refine V_aload0 dX0_pull_21 ?_
  refine gX0_73 dX0_pull_22 ?_
  rw [wr_s, show n + 1 - 1 = n by omega]
  refine V_iaload (by decide) aI_14 (by decide) rfl (by first | assumption | omega) dX0_pull_25 ?_
  rw [wr_c _ _ _ (by decide), hH.2.1 n (by omega)]
  refine V_istore2 dX0_pull_26 (by decide) rfl ?_
  refine V_iconst (nI 0) dX0_pull_27 (by decide) ?_
  refine V_istore3 dX0_pull_28 (by decide) rfl ?_
  refine V_iconst (nI 1) dX0_pull_29 (by decide) ?_
  refine V_istore4 dX0_pull_30 (by decide) rfl ?_
  refine l_X0_pull G h _ q (fun i => if i = 0 then q n else q i) n (q n) 0 hn ?_ (hH.2.2 n (by omega)) (by omega) (same.rf.wr _ _ (by decide)) ?_ (wr_s _ _ _ _) ?_ (fun _ => if_pos rfl) ⟨?_, ?_⟩ ?_
  · intro i hi
    show (if i = 0 then q n else q i) < 2 ^ 31
    split
    · exact hH.2.2 n (by omega)
    · exact hH.2.2 i (by omega)
  · intro j hj
    rw [wr_j _ _ hj]
  · intro i hi hne
    rw [if_neg hne, wr_c _ _ _ (by decide)]
    exact hH.2.1 i (by omega)
  · intro i i0 hi hne
    show (if (i - 1) / 2 = 0 then q n else q ((i - 1) / 2)) ≤ (if i = 0 then q n else q i)
    rw [if_neg (show ¬ i = 0 by omega), if_neg hne]
    exact hO i i0 (by omega)
  · intro c c0 hc hcn z
    omega
  · intro k
    rw [kc_succ]
    by_cases hz : n = 0
    · subst hz
      simp [kc, fb_ct, eq_comm]
    · have := kc_upd q (q n) k (show 0 < n by omega)
      by_cases z : k = q 0
      · subst z; simp at this ⊢; omega
      · rw [if_neg z]
        rw [if_neg (Ne.symm z)] at this
        exact this
