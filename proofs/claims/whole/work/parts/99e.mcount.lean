set_option maxRecDepth 4000 in
theorem l_X6_count0 (G : GE) (h : Mem) (S : St) (a : RB S h) (k : Nat) (hk : k ≤ 8) : V idsB G RX6 cX6_count 4 (some .int) (rmD 3) 58 [some (.ref (ad G 100)), some (.int (nI 0)), some (.int (nI (fb_ct (fun k => decide (¬ S.1.1 k = -1)) k))), some (.int (nI k))] [] h (Qi (fun v h' => h' = h ∧ v = nI (fb_ct (fun k => decide (¬ S.1.1 k = -1)) 8))) := by
  induction hn : 8 - k using Nat.strongRecOn generalizing k with
  | _ n ih =>
    subst hn
    refine V_iload3 dX6_count_58 ?_
    refine V_bipush (nI 8) dX6_count_59 (by decide) ?_
    first | refine V_icmp_ge_n 87 dX6_count_61 (by decide) (by omega) (by omega) (fun c61 => ?_) (fun c61 => ?_) | refine V_icmp_ge 87 dX6_count_61 (by decide) (fun c61 => ?_) (fun c61 => ?_)
    · refine V_iload2 dX6_count_87 ?_
      refine V_ireti dX6_count_88 ?_
      obtain rfl : k = 8 := by omega
      exact ⟨rfl, rfl⟩
    · have hmi := ln_neg a.1 (show k < 8 by omega)
      refine V_iload2 dX6_count_64 ?_
      refine V_aload0 dX6_count_65 ?_
      refine gX6_7 dX6_count_66 ?_
      refine V_iload3 dX6_count_69 ?_
      refine V_iaload (by decide) aI_102 (by decide) rfl (by first | assumption | omega) dX6_count_70 ?_
      rw [hmi.1]
      refine V_if_lt 78 dX6_count_71 (by decide) (fun c71 => ?_) (fun c71 => ?_)
      · skip
        refine V_iconst (nI 0) dX6_count_78 (by decide) ?_
        first | refine V_iadd_n dX6_count_79 ?_ | refine V_iadd dX6_count_79 ?_
        refine V_istore2 dX6_count_80 (by decide) rfl ?_
        first | refine V_iinc3_n 1 dX6_count_81 (by decide) (by decide) rfl ?_ | refine V_iinc3 (nI 1) dX6_count_81 (by decide) (by decide) rfl ?_
        refine V_goto 58 dX6_count_84 (by decide) ?_
        first | rw [ct_t (p := (fun k => decide (¬ S.1.1 k = -1))) (n := k) (decide_eq_true (fun z => c71 (hmi.2.mpr z)))] | rw [Nat.add_zero, ct_f (p := (fun k => decide (¬ S.1.1 k = -1))) (n := k) (decide_eq_false (fun z => z (hmi.2.mp c71)))]
        exact ih _ (by omega) (k + 1) (by omega) rfl
      · skip
        refine V_iconst (nI 1) dX6_count_74 (by decide) ?_
        refine V_goto 79 dX6_count_75 (by decide) ?_
        first | refine V_iadd_n dX6_count_79 ?_ | refine V_iadd dX6_count_79 ?_
        refine V_istore2 dX6_count_80 (by decide) rfl ?_
        first | refine V_iinc3_n 1 dX6_count_81 (by decide) (by decide) rfl ?_ | refine V_iinc3 (nI 1) dX6_count_81 (by decide) (by decide) rfl ?_
        refine V_goto 58 dX6_count_84 (by decide) ?_
        first | rw [ct_t (p := (fun k => decide (¬ S.1.1 k = -1))) (n := k) (decide_eq_true (fun z => c71 (hmi.2.mpr z)))] | rw [Nat.add_zero, ct_f (p := (fun k => decide (¬ S.1.1 k = -1))) (n := k) (decide_eq_false (fun z => z (hmi.2.mp c71)))]
        exact ih _ (by omega) (k + 1) (by omega) rfl
set_option maxRecDepth 4000 in
theorem l_X6_count4 (G : GE) (h : Mem) (N : Ng) (i : Inv N) (r : RBn N h) (k : Nat) (hk0 : k < 4) (l : Nat) (hl : l ≤ nNl N) : V idsB G RX6 cX6_count 4 (some .int) (rmD 3) 106 [some (.ref (ad G 100)), some (.int (nI (k + 3))), some (.int (nI (fb_ct (kdF N k) l))), some (.int (nI l))] [] h (Qi (fun v h' => h' = h ∧ v = nI (fb_ct (kdF N k) (nNl N)))) := by
  induction hn : nNl N - l using Nat.strongRecOn generalizing l with
  | _ n ih =>
    subst hn
    have hnl := i.nl
    have hlen := i.len (l := l)
    refine V_iload3 dX6_count_106 ?_
    refine V_aload0 dX6_count_107 ?_
    refine gX6_102 dX6_count_108 ?_
    rw [r.2.1]
    first | refine V_icmp_ge_n 148 dX6_count_111 (by decide) (by omega) (by omega) (fun c111 => ?_) (fun c111 => ?_) | refine V_icmp_ge 148 dX6_count_111 (by decide) (fun c111 => ?_) (fun c111 => ?_)
    · refine V_iload2 dX6_count_148 ?_
      refine V_ireti dX6_count_149 ?_
      obtain rfl : l = nNl N := by omega
      exact ⟨rfl, rfl⟩
    · refine V_iload2 dX6_count_114 ?_
      refine V_aload0 dX6_count_115 ?_
      refine gX6_32 dX6_count_116 ?_
      refine V_iload3 dX6_count_119 ?_
      refine V_iaload (by decide) aI_111 (by decide) rfl (by first | assumption | omega) dX6_count_120 ?_
      rw [(r.2.2.2.2.2.1 l (by omega)).1]
      first | refine V_if_le_n 139 dX6_count_121 (by decide) (by omega) (fun c121 => ?_) (fun c121 => ?_) | refine V_if_le 139 dX6_count_121 (by decide) (fun c121 => ?_) (fun c121 => ?_)
      · refine V_iconst (nI 0) dX6_count_139 (by decide) ?_
        first | refine V_iadd_n dX6_count_140 ?_ | refine V_iadd dX6_count_140 ?_
        refine V_istore2 dX6_count_141 (by decide) rfl ?_
        first | refine V_iinc3_n 1 dX6_count_142 (by decide) (by decide) rfl ?_ | refine V_iinc3 (nI 1) dX6_count_142 (by decide) (by decide) rfl ?_
        refine V_goto 106 dX6_count_145 (by decide) ?_
        first
        | rw [ct_t (p := kdF N k) (n := l) (decide_eq_true c132)]
        | rw [Nat.add_zero, ct_f (p := kdF N k) (n := l) (decide_eq_false c132)]
        | rw [Nat.add_zero, ct_f (p := kdF N k) (n := l) (decide_eq_false (fun z => by unfold kdI at z; rw [if_pos c121] at z; exact nI_m (show k < 2 ^ 31 by omega) z.symm))]
        exact ih _ (by omega) (l + 1) (by omega) rfl
      · refine V_aload0 dX6_count_124 ?_
        refine V_iload3 dX6_count_125 ?_
        refine kX6_184 (m_X6_kindOf _ _ N i r l (by omega) c121) (rOK_d (by decide) (by decide)) (Nat.le_of_ble_eq_true rfl) dX6_count_126 (fun r126 h126 hq126 => ?_)
        obtain ⟨e_, rfl⟩ := hq126
        replace e_ := e_.symm
        subst e_
        refine V_iload1 dX6_count_129 ?_
        refine V_iconst (nI 3) dX6_count_130 (by decide) ?_
        first | refine V_isub_n dX6_count_131 (by omega) ?_ | refine V_isub dX6_count_131 ?_
        rw [Nat.add_sub_cancel]
        refine V_icmp_ne 139 dX6_count_132 (by decide) (fun c132 => ?_) (fun c132 => ?_)
        · skip
          refine V_iconst (nI 0) dX6_count_139 (by decide) ?_
          first | refine V_iadd_n dX6_count_140 ?_ | refine V_iadd dX6_count_140 ?_
          refine V_istore2 dX6_count_141 (by decide) rfl ?_
          first | refine V_iinc3_n 1 dX6_count_142 (by decide) (by decide) rfl ?_ | refine V_iinc3 (nI 1) dX6_count_142 (by decide) (by decide) rfl ?_
          refine V_goto 106 dX6_count_145 (by decide) ?_
          first
          | rw [ct_t (p := kdF N k) (n := l) (decide_eq_true c132)]
          | rw [Nat.add_zero, ct_f (p := kdF N k) (n := l) (decide_eq_false c132)]
          | rw [Nat.add_zero, ct_f (p := kdF N k) (n := l) (decide_eq_false (fun z => by unfold kdI at z; rw [if_pos c121] at z; exact nI_m (show k < 2 ^ 31 by omega) z.symm))]
          exact ih _ (by omega) (l + 1) (by omega) rfl
        · skip
          refine V_iconst (nI 1) dX6_count_135 (by decide) ?_
          refine V_goto 140 dX6_count_136 (by decide) ?_
          first | refine V_iadd_n dX6_count_140 ?_ | refine V_iadd dX6_count_140 ?_
          refine V_istore2 dX6_count_141 (by decide) rfl ?_
          first | refine V_iinc3_n 1 dX6_count_142 (by decide) (by decide) rfl ?_ | refine V_iinc3 (nI 1) dX6_count_142 (by decide) (by decide) rfl ?_
          refine V_goto 106 dX6_count_145 (by decide) ?_
          first
          | rw [ct_t (p := kdF N k) (n := l) (decide_eq_true c132)]
          | rw [Nat.add_zero, ct_f (p := kdF N k) (n := l) (decide_eq_false c132)]
          | rw [Nat.add_zero, ct_f (p := kdF N k) (n := l) (decide_eq_false (fun z => by unfold kdI at z; rw [if_pos c121] at z; exact nI_m (show k < 2 ^ 31 by omega) z.symm))]
          exact ih _ (by omega) (l + 1) (by omega) rfl
set_option maxRecDepth 4000 in
theorem l_X6_count7 (G : GE) (h : Mem) (N : Ng) (i : Inv N) (r : RBn N h) (k : Nat) (hk : k ≤ 100) : V idsB G RX6 cX6_count 4 (some .int) (rmD 3) 152 [some (.ref (ad G 100)), some (.int (nI 7)), some (.int (nI (fb_ct (nSh N) k))), some (.int (nI k))] [] h (Qi (fun v h' => h' = h ∧ v = nI (fb_ct (nSh N) 100))) := by
  induction hn : 100 - k using Nat.strongRecOn generalizing k with
  | _ n ih =>
    subst hn
    refine V_iload3 dX6_count_152 ?_
    refine V_bipush (nI 100) dX6_count_153 (by decide) ?_
    first | refine V_icmp_ge_n 181 dX6_count_155 (by decide) (by omega) (by omega) (fun c155 => ?_) (fun c155 => ?_) | refine V_icmp_ge 181 dX6_count_155 (by decide) (fun c155 => ?_) (fun c155 => ?_)
    · refine V_iload2 dX6_count_181 ?_
      refine V_ireti dX6_count_182 ?_
      obtain rfl : k = 100 := by omega
      exact ⟨rfl, rfl⟩
    · refine V_iload2 dX6_count_158 ?_
      refine V_aload0 dX6_count_159 ?_
      refine gX6_19 dX6_count_160 ?_
      refine V_iload3 dX6_count_163 ?_
      refine V_baload (by decide) aZ_105 (by decide) rfl (by first | assumption | omega) dX6_count_164 ?_
      rw [r.2.2.2.1 k (by omega)]
      first | refine V_if_eq_z 172 dX6_count_165 (by decide) (fun c165 => ?_) (fun c165 => ?_) | refine V_if_eq_n 172 dX6_count_165 (by decide) (by omega) (fun c165 => ?_) (fun c165 => ?_) | refine V_if_eq 172 dX6_count_165 (by decide) (fun c165 => ?_) (fun c165 => ?_)
      · refine V_iconst (nI 0) dX6_count_172 (by decide) ?_
        first | refine V_iadd_n dX6_count_173 ?_ | refine V_iadd dX6_count_173 ?_
        refine V_istore2 dX6_count_174 (by decide) rfl ?_
        first | refine V_iinc3_n 1 dX6_count_175 (by decide) (by decide) rfl ?_ | refine V_iinc3 (nI 1) dX6_count_175 (by decide) (by decide) rfl ?_
        refine V_goto 152 dX6_count_178 (by decide) ?_
        first | rw [ct_t (p := nSh N) (n := k) c165] | rw [Nat.add_zero, ct_f (p := nSh N) (n := k) (Bool.eq_false_iff.mpr c165)]
        exact ih _ (by omega) (k + 1) (by omega) rfl
      · refine V_iconst (nI 1) dX6_count_168 (by decide) ?_
        refine V_goto 173 dX6_count_169 (by decide) ?_
        first | refine V_iadd_n dX6_count_173 ?_ | refine V_iadd dX6_count_173 ?_
        refine V_istore2 dX6_count_174 (by decide) rfl ?_
        first | refine V_iinc3_n 1 dX6_count_175 (by decide) (by decide) rfl ?_ | refine V_iinc3 (nI 1) dX6_count_175 (by decide) (by decide) rfl ?_
        refine V_goto 152 dX6_count_178 (by decide) ?_
        first | rw [ct_t (p := nSh N) (n := k) c165] | rw [Nat.add_zero, ct_f (p := nSh N) (n := k) (Bool.eq_false_iff.mpr c165)]
        exact ih _ (by omega) (k + 1) (by omega) rfl
set_option maxRecDepth 4000 in
theorem m_X6_count (G : GE) (h : Mem) (S : St) (i : Ok S) (a : RB S h) (x : Int32) : Ct idsB G yX6_count cX6_count 4 (some .int) (rmD 3) [.ref (ad G 100), .int x] h (Qi fun rv h' => rv = (O_count S x).1 ∧ RB (O_count S x).2 h') := by
  refine Ct.of [some (.ref (ad G 100)), some (.int x), none, none] (by decide) (Nat.le_of_ble_eq_true rfl) (lvE_ok 2 rfl) ?_
  refine V_aload0 dX6_count_0 ?_
  refine V_iconst (nI 0) dX6_count_1 (by decide) ?_
  refine pX6_62 dX6_count_2 ?_
  replace a := a.th (nI 0)
  generalize wr h 100 0 (nI 0) = g at a ⊢
  refine V_iconst (nI 0) dX6_count_5 (by decide) ?_
  refine V_istore2 dX6_count_6 (by decide) rfl ?_
  refine V_iload1 dX6_count_7 ?_
  by_cases hx : inR x 8
  · obtain ⟨k, hk, rfl⟩ := (inR_iff (by decide)).mp hx
    rcases (show k = 0 ∨ k = 1 ∨ k = 2 ∨ k = 3 ∨ k = 4 ∨ k = 5 ∨ k = 6 ∨ k = 7 by omega) with rfl | rfl | rfl | rfl | rfl | rfl | rfl | rfl
    · refine V_tableIn 56 dX6_count_8 (by decide) (by decide) rfl (by decide) ?_
      refine V_iconst (nI 0) dX6_count_56 (by decide) ?_
      refine V_istore3 dX6_count_57 (by decide) rfl ?_
      refine V_post (l_X6_count0 G g S a 0 (by decide)) (Qi_mono (fun v h2 hz => ?_))
      obtain ⟨rfl, rfl⟩ := hz
      rw [O_count, vCount, ite_t rfl]
      exact ⟨rfl, a⟩
    · refine V_tableIn 89 dX6_count_8 (by decide) (by decide) rfl (by decide) ?_
      refine V_aload0 dX6_count_89 ?_
      refine gX6_94 dX6_count_90 ?_
      rw [a.2.1.1]
      refine V_ireti dX6_count_93 ?_
      rw [O_count, vCount, ite_f (show ¬ nI 1 = nI 0 by decide), ite_t rfl]
      exact ⟨rfl, a⟩
    · refine V_tableIn 94 dX6_count_8 (by decide) (by decide) rfl (by decide) ?_
      refine V_aload0 dX6_count_94 ?_
      refine gX6_102 dX6_count_95 ?_
      rw [a.2.1.2.1]
      refine V_ireti dX6_count_98 ?_
      rw [O_count, vCount, ite_f (show ¬ nI 2 = nI 0 by decide), ite_f (show ¬ nI 2 = nI 1 by decide), ite_t rfl]
      exact ⟨rfl, a⟩
    · refine V_tableIn 99 dX6_count_8 (by decide) (by decide) rfl (by decide) ?_
      refine V_aload0 dX6_count_99 ?_
      refine kX6_169 (m_X6_ways _ _ S.2.1 i.1 a.2.1) (rOK_d (by decide) (by decide)) (Nat.le_of_ble_eq_true rfl) dX6_count_100 (fun r100 h100 hq100 => ?_)
      obtain ⟨e_, rfl⟩ := hq100
      replace e_ := e_.symm
      subst e_
      refine V_ireti dX6_count_103 ?_
      rw [O_count, vCount, ite_f (show ¬ nI 3 = nI 0 by decide), ite_f (show ¬ nI 3 = nI 1 by decide), ite_f (show ¬ nI 3 = nI 2 by decide), ite_t rfl]
      exact ⟨rfl, a⟩
    · refine V_tableIn 104 dX6_count_8 (by decide) (by decide) rfl (by decide) ?_
      refine V_iconst (nI 0) dX6_count_104 (by decide) ?_
      refine V_istore3 dX6_count_105 (by decide) rfl ?_
      refine V_post (l_X6_count4 G g S.2.1 i.1 a.2.1 1 (by decide) 0 (Nat.zero_le _)) (Qi_mono (fun v h2 hz => ?_))
      obtain ⟨rfl, rfl⟩ := hz
      rw [O_count, vCount, ite_f (show ¬ nI 4 = nI 0 by decide), ite_f (show ¬ nI 4 = nI 1 by decide), ite_f (show ¬ nI 4 = nI 2 by decide), ite_f (show ¬ nI 4 = nI 3 by decide), ite_t rfl]
      exact ⟨rfl, a⟩
    · refine V_tableIn 104 dX6_count_8 (by decide) (by decide) rfl (by decide) ?_
      refine V_iconst (nI 0) dX6_count_104 (by decide) ?_
      refine V_istore3 dX6_count_105 (by decide) rfl ?_
      refine V_post (l_X6_count4 G g S.2.1 i.1 a.2.1 2 (by decide) 0 (Nat.zero_le _)) (Qi_mono (fun v h2 hz => ?_))
      obtain ⟨rfl, rfl⟩ := hz
      rw [O_count, vCount, ite_f (show ¬ nI 5 = nI 0 by decide), ite_f (show ¬ nI 5 = nI 1 by decide), ite_f (show ¬ nI 5 = nI 2 by decide), ite_f (show ¬ nI 5 = nI 3 by decide), ite_f (show ¬ nI 5 = nI 4 by decide), ite_t rfl]
      exact ⟨rfl, a⟩
    · refine V_tableIn 104 dX6_count_8 (by decide) (by decide) rfl (by decide) ?_
      refine V_iconst (nI 0) dX6_count_104 (by decide) ?_
      refine V_istore3 dX6_count_105 (by decide) rfl ?_
      refine V_post (l_X6_count4 G g S.2.1 i.1 a.2.1 3 (by decide) 0 (Nat.zero_le _)) (Qi_mono (fun v h2 hz => ?_))
      obtain ⟨rfl, rfl⟩ := hz
      rw [O_count, vCount, ite_f (show ¬ nI 6 = nI 0 by decide), ite_f (show ¬ nI 6 = nI 1 by decide), ite_f (show ¬ nI 6 = nI 2 by decide), ite_f (show ¬ nI 6 = nI 3 by decide), ite_f (show ¬ nI 6 = nI 4 by decide), ite_f (show ¬ nI 6 = nI 5 by decide), ite_t rfl]
      exact ⟨rfl, a⟩
    · refine V_tableIn 150 dX6_count_8 (by decide) (by decide) rfl (by decide) ?_
      refine V_iconst (nI 0) dX6_count_150 (by decide) ?_
      refine V_istore3 dX6_count_151 (by decide) rfl ?_
      refine V_post (l_X6_count7 G g S.2.1 i.1 a.2.1 0 (by decide)) (Qi_mono (fun v h2 hz => ?_))
      obtain ⟨rfl, rfl⟩ := hz
      rw [O_count, vCount, ite_f (show ¬ nI 7 = nI 0 by decide), ite_f (show ¬ nI 7 = nI 1 by decide), ite_f (show ¬ nI 7 = nI 2 by decide), ite_f (show ¬ nI 7 = nI 3 by decide), ite_f (show ¬ nI 7 = nI 4 by decide), ite_f (show ¬ nI 7 = nI 5 by decide), ite_f (show ¬ nI 7 = nI 6 by decide), ite_t rfl]
      exact ⟨rfl, a⟩
  · refine V_tableOut 183 dX6_count_8 (by have := inR_out (by decide) hx; omega) (by decide) ?_
    refine V_ldc ct_X6_82 dX6_count_183 ?_
    refine V_ireti dX6_count_185 ?_
    rw [O_count, vCount, ite_f (show ¬ x = nI 0 from fun e => hx (by rw [e]; exact inR_nI (by decide) (by decide))), ite_f (show ¬ x = nI 1 from fun e => hx (by rw [e]; exact inR_nI (by decide) (by decide))), ite_f (show ¬ x = nI 2 from fun e => hx (by rw [e]; exact inR_nI (by decide) (by decide))), ite_f (show ¬ x = nI 3 from fun e => hx (by rw [e]; exact inR_nI (by decide) (by decide))), ite_f (show ¬ x = nI 4 from fun e => hx (by rw [e]; exact inR_nI (by decide) (by decide))), ite_f (show ¬ x = nI 5 from fun e => hx (by rw [e]; exact inR_nI (by decide) (by decide))), ite_f (show ¬ x = nI 6 from fun e => hx (by rw [e]; exact inR_nI (by decide) (by decide))), ite_f (show ¬ x = nI 7 from fun e => hx (by rw [e]; exact inR_nI (by decide) (by decide)))]
    exact ⟨rfl, a⟩
