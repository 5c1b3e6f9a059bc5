def cpI (h hc : Mem) (pa pb i j n f k : Nat) : Prop := same [104] h hc ∧ (∀ t, t < n → ((f = 1 ∧ t < k) ∨ (f = 0 ∧ n - k ≤ t)) → hc 104 (60 * pb + j + t) = h 104 (60 * pa + i + t)) ∧ ∀ u, (∀ t, t < n → ((f = 1 ∧ t < k) ∨ (f = 0 ∧ n - k ≤ t)) → u ≠ 60 * pb + j + t) → hc 104 u = h 104 u
theorem cp_step {h hc : Mem} {pa pb i j n f k I : Nat} (e : cpI h hc pa pb i j n f k) (hk : k < n) (hI : (f = 1 ∧ I = k) ∨ (f = 0 ∧ I = n - 1 - k)) (hi : i + n ≤ 60) (hj : j + n ≤ 60) (hf : (f = 1 ∧ j ≤ i) ∨ (f = 0 ∧ i < j)) : cpI h (wr hc 104 (60 * pb + j + I) (hc 104 (60 * pa + i + I))) pa pb i j n f (k + 1) := by
  obtain ⟨e1, e2, e3⟩ := e
  refine ⟨e1.wr _ _ (by decide), fun t ht hw => ?_, fun u hu => ?_⟩
  · by_cases e : t = I
    · rw [e, wr_s]
      exact e3 _ (fun t2 ht2 hw2 => by omega)
    · rw [wr_j _ _ (by omega)]
      exact e2 t ht (by omega)
  · rw [wr_j _ _ (hu I (by omega) (by omega))]
    exact e3 u (fun t ht hw => hu t ht (by omega))
set_option maxRecDepth 4000 in
theorem l_X6_copy (G : GE) (h hc : Mem) (pa pb i j n f : Nat) (ha : pa < 8) (hb : pb < 8) (hi : i + n ≤ 60) (hj : j + n ≤ 60) (hf : (f = 1 ∧ j ≤ i) ∨ (f = 0 ∧ i < j)) (k : Nat) (w : OV) (hk : k ≤ n) (e : cpI h hc pa pb i j n f k) : V idsB G RX6 cX6_copy 9 (some .int) (rmD 2) 143 [some (.ref (ad G 100)), some (.int (nI pa)), some (.int (nI i)), some (.int (nI pb)), some (.int (nI j)), some (.int (nI n)), some (.int (nI f)), some (.int (nI k)), w] [] hc (Qi (fun v h' => v = nI n ∧ cpI h h' pa pb i j n f n)) := by
  induction hz : n - k using Nat.strongRecOn generalizing hc k w with
  | _ z ih =>
    subst hz
    refine V_iload7 dX6_copy_143 ?_
    refine V_iload5 dX6_copy_145 ?_
    first | refine V_icmp_ge_n 204 dX6_copy_147 (by decide) (by omega) (by omega) (fun c147 => ?_) (fun c147 => ?_) | refine V_icmp_ge 204 dX6_copy_147 (by decide) (fun c147 => ?_) (fun c147 => ?_)
    · refine V_iload5 dX6_copy_204 ?_
      refine V_ireti dX6_copy_206 ?_
      obtain rfl : k = n := by omega
      exact ⟨rfl, e⟩
    · refine V_iload6 dX6_copy_150 ?_
      first | refine V_if_eq_z 160 dX6_copy_152 (by decide) (fun c152 => ?_) (fun c152 => ?_) | refine V_if_eq_n 160 dX6_copy_152 (by decide) (by omega) (fun c152 => ?_) (fun c152 => ?_) | refine V_if_eq 160 dX6_copy_152 (by decide) (fun c152 => ?_) (fun c152 => ?_)
      · refine V_iload5 dX6_copy_160 ?_
        refine V_iconst (nI 1) dX6_copy_162 (by decide) ?_
        first | refine V_isub_n dX6_copy_163 (by omega) ?_ | refine V_isub dX6_copy_163 ?_
        refine V_iload7 dX6_copy_164 ?_
        first | refine V_isub_n dX6_copy_166 (by omega) ?_ | refine V_isub dX6_copy_166 ?_
        refine V_istore8 dX6_copy_167 (by decide) rfl ?_
        refine V_aload0 dX6_copy_169 ?_
        refine gX6_16 dX6_copy_170 ?_
        refine V_bipush (nI 60) dX6_copy_173 (by decide) ?_
        refine V_iload3 dX6_copy_175 ?_
        first | refine V_imul_n dX6_copy_176 ?_ | refine V_imul dX6_copy_176 ?_
        refine V_iload4 dX6_copy_177 ?_
        first | refine V_iadd_n dX6_copy_179 ?_ | refine V_iadd dX6_copy_179 ?_
        refine V_iload8 dX6_copy_180 ?_
        first | refine V_iadd_n dX6_copy_182 ?_ | refine V_iadd dX6_copy_182 ?_
        refine V_aload0 dX6_copy_183 ?_
        refine gX6_16 dX6_copy_184 ?_
        refine V_bipush (nI 60) dX6_copy_187 (by decide) ?_
        refine V_iload1 dX6_copy_189 ?_
        first | refine V_imul_n dX6_copy_190 ?_ | refine V_imul dX6_copy_190 ?_
        refine V_iload2 dX6_copy_191 ?_
        first | refine V_iadd_n dX6_copy_192 ?_ | refine V_iadd dX6_copy_192 ?_
        refine V_iload8 dX6_copy_193 ?_
        first | refine V_iadd_n dX6_copy_195 ?_ | refine V_iadd dX6_copy_195 ?_
        refine V_iaload (by decide) aI_104 (by decide) rfl (by first | assumption | omega) dX6_copy_196 ?_
        refine V_iastore (by decide) aI_104 (by decide) rfl (by first | assumption | omega) dX6_copy_197 ?_
        first | refine V_iinc7_n 1 dX6_copy_198 (by decide) (by decide) rfl ?_ | refine V_iinc7 (nI 1) dX6_copy_198 (by decide) (by decide) rfl ?_
        refine V_goto 143 dX6_copy_201 (by decide) ?_
        first
        | exact ih _ (by omega) _ (k + 1) _ (by omega) (cp_step (I := k) e (by omega) (by omega) hi hj hf) rfl
        | exact ih _ (by omega) _ (k + 1) _ (by omega) (cp_step (I := n - 1 - k) e (by omega) (by omega) hi hj hf) rfl
      · refine V_iload7 dX6_copy_155 ?_
        refine V_goto 167 dX6_copy_157 (by decide) ?_
        refine V_istore8 dX6_copy_167 (by decide) rfl ?_
        refine V_aload0 dX6_copy_169 ?_
        refine gX6_16 dX6_copy_170 ?_
        refine V_bipush (nI 60) dX6_copy_173 (by decide) ?_
        refine V_iload3 dX6_copy_175 ?_
        first | refine V_imul_n dX6_copy_176 ?_ | refine V_imul dX6_copy_176 ?_
        refine V_iload4 dX6_copy_177 ?_
        first | refine V_iadd_n dX6_copy_179 ?_ | refine V_iadd dX6_copy_179 ?_
        refine V_iload8 dX6_copy_180 ?_
        first | refine V_iadd_n dX6_copy_182 ?_ | refine V_iadd dX6_copy_182 ?_
        refine V_aload0 dX6_copy_183 ?_
        refine gX6_16 dX6_copy_184 ?_
        refine V_bipush (nI 60) dX6_copy_187 (by decide) ?_
        refine V_iload1 dX6_copy_189 ?_
        first | refine V_imul_n dX6_copy_190 ?_ | refine V_imul dX6_copy_190 ?_
        refine V_iload2 dX6_copy_191 ?_
        first | refine V_iadd_n dX6_copy_192 ?_ | refine V_iadd dX6_copy_192 ?_
        refine V_iload8 dX6_copy_193 ?_
        first | refine V_iadd_n dX6_copy_195 ?_ | refine V_iadd dX6_copy_195 ?_
        refine V_iaload (by decide) aI_104 (by decide) rfl (by first | assumption | omega) dX6_copy_196 ?_
        refine V_iastore (by decide) aI_104 (by decide) rfl (by first | assumption | omega) dX6_copy_197 ?_
        first | refine V_iinc7_n 1 dX6_copy_198 (by decide) (by decide) rfl ?_ | refine V_iinc7 (nI 1) dX6_copy_198 (by decide) (by decide) rfl ?_
        refine V_goto 143 dX6_copy_201 (by decide) ?_
        first
        | exact ih _ (by omega) _ (k + 1) _ (by omega) (cp_step (I := k) e (by omega) (by omega) hi hj hf) rfl
        | exact ih _ (by omega) _ (k + 1) _ (by omega) (cp_step (I := n - 1 - k) e (by omega) (by omega) hi hj hf) rfl
set_option maxRecDepth 4000 in
theorem m_X6_copy (G : GE) (h : Mem) (S : St) (i : Ok S) (a : RB S h) (p x q y n : Int32) : Ct idsB G yX6_copy cX6_copy 9 (some .int) (rmD 2) [.ref (ad G 100), .int p, .int x, .int q, .int y, .int n] h (Qi fun rv h' => rv = (O_copy S p x q y n).1 ∧ RB (O_copy S p x q y n).2 h') := by
  refine Ct.of [some (.ref (ad G 100)), some (.int p), some (.int x), some (.int q), some (.int y), some (.int n), none, none, none] (by decide) (Nat.le_of_ble_eq_true rfl) (lvE_ok 3 rfl) ?_
  refine V_aload0 dX6_copy_0 ?_
  refine V_iconst (nI 0) dX6_copy_1 (by decide) ?_
  refine pX6_62 dX6_copy_2 ?_
  replace a := a.th (nI 0)
  generalize wr h 100 0 (nI 0) = g at a ⊢
  refine V_iload1 dX6_copy_5 ?_
  refine kX6_76 (m_X6_isSheet _ _ _) (rOK_d (by decide) (by decide)) (Nat.le_of_ble_eq_true rfl) dX6_copy_6 (fun r6 h6 hq6 => ?_)
  obtain ⟨e_, rfl⟩ := hq6
  replace e_ := e_.symm
  subst e_
  first | refine V_if_eq_z 19 dX6_copy_9 (by decide) (fun c9 => ?_) (fun c9 => ?_) | refine V_if_eq_n 19 dX6_copy_9 (by decide) (by omega) (fun c9 => ?_) (fun c9 => ?_) | refine V_if_eq 19 dX6_copy_9 (by decide) (fun c9 => ?_) (fun c9 => ?_)
  · refine V_ldc ct_X6_82 dX6_copy_19 ?_
    refine V_ireti dX6_copy_21 ?_
    rw [O_copy, ite_f (fun z => by first | exact c9 z.1 | exact c16 z.2)]
    exact ⟨rfl, a⟩
  · refine V_iload3 dX6_copy_12 ?_
    refine kX6_76 (m_X6_isSheet _ _ _) (rOK_d (by decide) (by decide)) (Nat.le_of_ble_eq_true rfl) dX6_copy_13 (fun r13 h13 hq13 => ?_)
    obtain ⟨e_, rfl⟩ := hq13
    replace e_ := e_.symm
    subst e_
    first | refine V_if_ne_z 22 dX6_copy_16 (by decide) (fun c16 => ?_) (fun c16 => ?_) | refine V_if_ne_n 22 dX6_copy_16 (by decide) (by omega) (fun c16 => ?_) (fun c16 => ?_) | refine V_if_ne 22 dX6_copy_16 (by decide) (fun c16 => ?_) (fun c16 => ?_)
    · have hg : inR p 8 ∧ inR q 8 := ⟨c9, c16⟩
      obtain ⟨p', hp', rfl⟩ := (inR_iff (by decide)).mp c9
      obtain ⟨q', hq', rfl⟩ := (inR_iff (by decide)).mp c16
      have kp := cl_nI (show p' < 2 ^ 31 by omega)
      have kq := cl_nI (show q' < 2 ^ 31 by omega)
      refine V_aload0 dX6_copy_22 ?_
      refine V_iconst (nI 0) dX6_copy_23 (by decide) ?_
      refine pX6_66 dX6_copy_24 ?_
      replace a := a.st 0
      generalize wr g 100 1 (nI 0) = g1 at a ⊢
      obtain ⟨l1, l2⟩ := ln_neg a.1 hp'
      obtain ⟨l3, l4⟩ := ln_neg a.1 hq'
      refine V_aload0 dX6_copy_27 ?_
      refine gX6_7 dX6_copy_28 ?_
      refine V_iload1 dX6_copy_31 ?_
      refine V_iaload (by decide) aI_102 (by decide) rfl (by first | assumption | omega) dX6_copy_32 ?_
      rw [l1]
      first | refine V_if_lt_n 45 dX6_copy_33 (by decide) (by omega) (fun c33 => ?_) (fun c33 => ?_) | refine V_if_lt 45 dX6_copy_33 (by decide) (fun c33 => ?_) (fun c33 => ?_)
      · refine V_aload0 dX6_copy_45 ?_
        refine V_iconst (nI 1) dX6_copy_46 (by decide) ?_
        refine kX6_83 (m_X6_found _ _ _) (rOK_d (by decide) (by decide)) (Nat.le_of_ble_eq_true rfl) dX6_copy_47 (fun r47 h47 hq47 => ?_)
        obtain ⟨e_, rfl⟩ := hq47
        replace e_ := e_.symm
        subst e_
        refine V_ireti dX6_copy_50 ?_
        rw [O_copy, ite_t hg, kp, kq, ite_t (by first | exact Or.inl (l2.mp c33) | exact Or.inr (l4.mp (i_nle c42)))]
        exact ⟨rfl, a.st 1⟩
      · refine V_aload0 dX6_copy_36 ?_
        refine gX6_7 dX6_copy_37 ?_
        refine V_iload3 dX6_copy_40 ?_
        refine V_iaload (by decide) aI_102 (by decide) rfl (by first | assumption | omega) dX6_copy_41 ?_
        rw [l3]
        first | refine V_if_ge_n 51 dX6_copy_42 (by decide) (by omega) (fun c42 => ?_) (fun c42 => ?_) | refine V_if_ge 51 dX6_copy_42 (by decide) (fun c42 => ?_) (fun c42 => ?_)
        · have na : ¬ S.1.1 p' = -1 := fun z => c33 (l2.mpr z)
          have nb_ : ¬ S.1.1 q' = -1 := fun z => i_le_n c42 (l4.mpr z)
          obtain ⟨y1, y2, y3, y4, y5⟩ := (a.1 p' hp').resolve_left (fun z => na z.1)
          replace y2 : S.1.2.1 p' ≤ 60 := y2
          replace y4 : g1 103 p' = nI (S.1.2.1 p') := y4
          obtain ⟨z1, z2, z3, z4, z5⟩ := (a.1 q' hq').resolve_left (fun z => nb_ z.1)
          replace z2 : S.1.2.1 q' ≤ 60 := z2
          replace z4 : g1 103 q' = nI (S.1.2.1 q') := z4
          refine V_aload0 dX6_copy_51 ?_
          refine gX6_7 dX6_copy_52 ?_
          refine V_iload1 dX6_copy_55 ?_
          refine V_iaload (by decide) aI_102 (by decide) rfl (by first | assumption | omega) dX6_copy_56 ?_
          rw [l1]
          refine V_aload0 dX6_copy_57 ?_
          refine gX6_7 dX6_copy_58 ?_
          refine V_iload3 dX6_copy_61 ?_
          refine V_iaload (by decide) aI_102 (by decide) rfl (by first | assumption | omega) dX6_copy_62 ?_
          rw [l3]
          first | refine V_icmp_eq_n 72 dX6_copy_63 (by decide) (by omega) (by omega) (fun c63 => ?_) (fun c63 => ?_) | refine V_icmp_eq 72 dX6_copy_63 (by decide) (fun c63 => ?_) (fun c63 => ?_)
          · refine V_iload2 dX6_copy_72 ?_
            first | refine V_if_lt_n 121 dX6_copy_73 (by decide) (by omega) (fun c73 => ?_) (fun c73 => ?_) | refine V_if_lt 121 dX6_copy_73 (by decide) (fun c73 => ?_) (fun c73 => ?_)
            · refine V_aload0 dX6_copy_121 ?_
              refine V_iconst (nI 2) dX6_copy_122 (by decide) ?_
              refine kX6_83 (m_X6_found _ _ _) (rOK_d (by decide) (by decide)) (Nat.le_of_ble_eq_true rfl) dX6_copy_123 (fun r123 h123 hq123 => ?_)
              obtain ⟨e_, rfl⟩ := hq123
              replace e_ := e_.symm
              subst e_
              refine V_ireti dX6_copy_126 ?_
              rw [O_copy, ite_t hg, kp, kq, ite_f (show ¬ (S.1.1 p' = -1 ∨ S.1.1 q' = -1) from fun z => z.elim na nb_), ite_t c63, ite_f (fun z => by first | exact i_le_n z.1.1 c73 | exact i_le_n z.2.1 c78 | exact i_le_n z.1.2.1 c83 | exact (cp_gt y2 c73 c83).mp c100 z.1 | exact (cp_gt z2 c78 c83).mp (i_nle c118) z.2)]
              exact ⟨rfl, a.st 2⟩
            · refine V_iload4 dX6_copy_76 ?_
              first | refine V_if_lt_n 121 dX6_copy_78 (by decide) (by omega) (fun c78 => ?_) (fun c78 => ?_) | refine V_if_lt 121 dX6_copy_78 (by decide) (fun c78 => ?_) (fun c78 => ?_)
              · refine V_aload0 dX6_copy_121 ?_
                refine V_iconst (nI 2) dX6_copy_122 (by decide) ?_
                refine kX6_83 (m_X6_found _ _ _) (rOK_d (by decide) (by decide)) (Nat.le_of_ble_eq_true rfl) dX6_copy_123 (fun r123 h123 hq123 => ?_)
                obtain ⟨e_, rfl⟩ := hq123
                replace e_ := e_.symm
                subst e_
                refine V_ireti dX6_copy_126 ?_
                rw [O_copy, ite_t hg, kp, kq, ite_f (show ¬ (S.1.1 p' = -1 ∨ S.1.1 q' = -1) from fun z => z.elim na nb_), ite_t c63, ite_f (fun z => by first | exact i_le_n z.1.1 c73 | exact i_le_n z.2.1 c78 | exact i_le_n z.1.2.1 c83 | exact (cp_gt y2 c73 c83).mp c100 z.1 | exact (cp_gt z2 c78 c83).mp (i_nle c118) z.2)]
                exact ⟨rfl, a.st 2⟩
              · refine V_iload5 dX6_copy_81 ?_
                first | refine V_if_lt_n 121 dX6_copy_83 (by decide) (by omega) (fun c83 => ?_) (fun c83 => ?_) | refine V_if_lt 121 dX6_copy_83 (by decide) (fun c83 => ?_) (fun c83 => ?_)
                · refine V_aload0 dX6_copy_121 ?_
                  refine V_iconst (nI 2) dX6_copy_122 (by decide) ?_
                  refine kX6_83 (m_X6_found _ _ _) (rOK_d (by decide) (by decide)) (Nat.le_of_ble_eq_true rfl) dX6_copy_123 (fun r123 h123 hq123 => ?_)
                  obtain ⟨e_, rfl⟩ := hq123
                  replace e_ := e_.symm
                  subst e_
                  refine V_ireti dX6_copy_126 ?_
                  rw [O_copy, ite_t hg, kp, kq, ite_f (show ¬ (S.1.1 p' = -1 ∨ S.1.1 q' = -1) from fun z => z.elim na nb_), ite_t c63, ite_f (fun z => by first | exact i_le_n z.1.1 c73 | exact i_le_n z.2.1 c78 | exact i_le_n z.1.2.1 c83 | exact (cp_gt y2 c73 c83).mp c100 z.1 | exact (cp_gt z2 c78 c83).mp (i_nle c118) z.2)]
                  exact ⟨rfl, a.st 2⟩
                · refine V_iload2 dX6_copy_86 ?_
                  refine V_i2l dX6_copy_87 ?_
                  refine V_iload5 dX6_copy_88 ?_
                  refine V_i2l dX6_copy_90 ?_
                  refine V_ladd dX6_copy_91 ?_
                  refine V_aload0 dX6_copy_92 ?_
                  refine gX6_13 dX6_copy_93 ?_
                  refine V_iload1 dX6_copy_96 ?_
                  refine V_iaload (by decide) aI_103 (by decide) rfl (by first | assumption | omega) dX6_copy_97 ?_
                  rw [y4]
                  refine V_i2l dX6_copy_98 ?_
                  refine V_lcmp dX6_copy_99 ?_
                  refine V_if_gt 121 dX6_copy_100 (by decide) (fun c100 => ?_) (fun c100 => ?_)
                  · skip
                    refine V_aload0 dX6_copy_121 ?_
                    refine V_iconst (nI 2) dX6_copy_122 (by decide) ?_
                    refine kX6_83 (m_X6_found _ _ _) (rOK_d (by decide) (by decide)) (Nat.le_of_ble_eq_true rfl) dX6_copy_123 (fun r123 h123 hq123 => ?_)
                    obtain ⟨e_, rfl⟩ := hq123
                    replace e_ := e_.symm
                    subst e_
                    refine V_ireti dX6_copy_126 ?_
                    rw [O_copy, ite_t hg, kp, kq, ite_f (show ¬ (S.1.1 p' = -1 ∨ S.1.1 q' = -1) from fun z => z.elim na nb_), ite_t c63, ite_f (fun z => by first | exact i_le_n z.1.1 c73 | exact i_le_n z.2.1 c78 | exact i_le_n z.1.2.1 c83 | exact (cp_gt y2 c73 c83).mp c100 z.1 | exact (cp_gt z2 c78 c83).mp (i_nle c118) z.2)]
                    exact ⟨rfl, a.st 2⟩
                  · skip
                    refine V_iload4 dX6_copy_103 ?_
                    refine V_i2l dX6_copy_105 ?_
                    refine V_iload5 dX6_copy_106 ?_
                    refine V_i2l dX6_copy_108 ?_
                    refine V_ladd dX6_copy_109 ?_
                    refine V_aload0 dX6_copy_110 ?_
                    refine gX6_13 dX6_copy_111 ?_
                    refine V_iload3 dX6_copy_114 ?_
                    refine V_iaload (by decide) aI_103 (by decide) rfl (by first | assumption | omega) dX6_copy_115 ?_
                    rw [z4]
                    refine V_i2l dX6_copy_116 ?_
                    refine V_lcmp dX6_copy_117 ?_
                    refine V_if_le 127 dX6_copy_118 (by decide) (fun c118 => ?_) (fun c118 => ?_)
                    · skip
                      have hh : hld (S.1.2.1 p') x n ∧ hld (S.1.2.1 q') y n := ⟨Classical.byContradiction (fun z => c100 ((cp_gt y2 c73 c83).mpr z)), Classical.byContradiction (fun z => i_lt_n ((cp_gt z2 c78 c83).mpr z) c118)⟩
                      obtain ⟨i', n', rfl, rfl, hin⟩ := (hld_iff y2).mp hh.1
                      obtain ⟨j', n2, rfl, hn2, hjn⟩ := (hld_iff z2).mp hh.2
                      obtain rfl : n' = n2 := by
                        have e1 := nI_toInt (n := n') (by omega)
                        have e2 := nI_toInt (n := n2) (by omega)
                        rw [hn2] at e1
                        omega
                      have ki := cl_nI (show i' < 2 ^ 31 by omega)
                      have kj := cl_nI (show j' < 2 ^ 31 by omega)
                      have kn := cl_nI (show n' < 2 ^ 31 by omega)
                      refine V_iload2 dX6_copy_127 ?_
                      refine V_iload4 dX6_copy_128 ?_
                      first | refine V_icmp_lt_n 137 dX6_copy_130 (by decide) (by omega) (by omega) (fun c130 => ?_) (fun c130 => ?_) | refine V_icmp_lt 137 dX6_copy_130 (by decide) (fun c130 => ?_) (fun c130 => ?_)
                      · refine V_iconst (nI 0) dX6_copy_137 (by decide) ?_
                        refine V_istore6 dX6_copy_138 (by decide) rfl ?_
                        refine V_iconst (nI 0) dX6_copy_140 (by decide) ?_
                        refine V_istore7 dX6_copy_141 (by decide) rfl ?_
                        refine V_post (l_X6_copy G g1 g1 p' q' i' j' n' _ hp' hq' (by omega) (by omega) (by omega) 0 _ (by omega) ⟨same.rf, fun t ht hw => by omega, fun u hu => rfl⟩) (Qi_mono (fun v h' q => ?_))
                        obtain ⟨rfl, w1, w2, w3⟩ := q
                        rw [O_copy, ite_t hg, kp, kq, ite_f (show ¬ (S.1.1 p' = -1 ∨ S.1.1 q' = -1) from fun z => z.elim na nb_), ite_t c63, ite_t hh, ki, kj, kn]
                        refine ⟨rfl, RB_sheets (cs := [104]) a w1 (by decide) (RBs_up a.1 (fun i hi hne => ⟨by rw [w1 102 (by decide)], by rw [w1 103 (by decide)], fun t ht => w3 _ (fun t2 ht2 hw2 => by omega)⟩) (Or.inr ⟨z1, z2, by rw [w1 102 (by decide)]; exact z3, by rw [w1 103 (by decide)]; exact z4, fun t ht => ?_⟩))⟩
                        unfold va_cpy
                        by_cases e : j' ≤ t ∧ t < j' + n'
                        · rw [if_pos e, show 60 * q' + t = 60 * q' + j' + (t - j') by omega, w2 (t - j') (by omega) (by omega), show 60 * p' + i' + (t - j') = 60 * p' + (i' + (t - j')) by omega]
                          exact y5 _ (show i' + (t - j') < S.1.2.1 p' by omega)
                        · rw [if_neg e, w3 _ (fun t2 ht2 hw2 => by omega)]
                          exact z5 t ht
                      · refine V_iconst (nI 1) dX6_copy_133 (by decide) ?_
                        refine V_goto 138 dX6_copy_134 (by decide) ?_
                        refine V_istore6 dX6_copy_138 (by decide) rfl ?_
                        refine V_iconst (nI 0) dX6_copy_140 (by decide) ?_
                        refine V_istore7 dX6_copy_141 (by decide) rfl ?_
                        refine V_post (l_X6_copy G g1 g1 p' q' i' j' n' _ hp' hq' (by omega) (by omega) (by omega) 0 _ (by omega) ⟨same.rf, fun t ht hw => by omega, fun u hu => rfl⟩) (Qi_mono (fun v h' q => ?_))
                        obtain ⟨rfl, w1, w2, w3⟩ := q
                        rw [O_copy, ite_t hg, kp, kq, ite_f (show ¬ (S.1.1 p' = -1 ∨ S.1.1 q' = -1) from fun z => z.elim na nb_), ite_t c63, ite_t hh, ki, kj, kn]
                        refine ⟨rfl, RB_sheets (cs := [104]) a w1 (by decide) (RBs_up a.1 (fun i hi hne => ⟨by rw [w1 102 (by decide)], by rw [w1 103 (by decide)], fun t ht => w3 _ (fun t2 ht2 hw2 => by omega)⟩) (Or.inr ⟨z1, z2, by rw [w1 102 (by decide)]; exact z3, by rw [w1 103 (by decide)]; exact z4, fun t ht => ?_⟩))⟩
                        unfold va_cpy
                        by_cases e : j' ≤ t ∧ t < j' + n'
                        · rw [if_pos e, show 60 * q' + t = 60 * q' + j' + (t - j') by omega, w2 (t - j') (by omega) (by omega), show 60 * p' + i' + (t - j') = 60 * p' + (i' + (t - j')) by omega]
                          exact y5 _ (show i' + (t - j') < S.1.2.1 p' by omega)
                        · rw [if_neg e, w3 _ (fun t2 ht2 hw2 => by omega)]
                          exact z5 t ht
                    · skip
                      refine V_aload0 dX6_copy_121 ?_
                      refine V_iconst (nI 2) dX6_copy_122 (by decide) ?_
                      refine kX6_83 (m_X6_found _ _ _) (rOK_d (by decide) (by decide)) (Nat.le_of_ble_eq_true rfl) dX6_copy_123 (fun r123 h123 hq123 => ?_)
                      obtain ⟨e_, rfl⟩ := hq123
                      replace e_ := e_.symm
                      subst e_
                      refine V_ireti dX6_copy_126 ?_
                      rw [O_copy, ite_t hg, kp, kq, ite_f (show ¬ (S.1.1 p' = -1 ∨ S.1.1 q' = -1) from fun z => z.elim na nb_), ite_t c63, ite_f (fun z => by first | exact i_le_n z.1.1 c73 | exact i_le_n z.2.1 c78 | exact i_le_n z.1.2.1 c83 | exact (cp_gt y2 c73 c83).mp c100 z.1 | exact (cp_gt z2 c78 c83).mp (i_nle c118) z.2)]
                      exact ⟨rfl, a.st 2⟩
          · refine V_aload0 dX6_copy_66 ?_
            refine V_iconst (nI 5) dX6_copy_67 (by decide) ?_
            refine kX6_83 (m_X6_found _ _ _) (rOK_d (by decide) (by decide)) (Nat.le_of_ble_eq_true rfl) dX6_copy_68 (fun r68 h68 hq68 => ?_)
            obtain ⟨e_, rfl⟩ := hq68
            replace e_ := e_.symm
            subst e_
            refine V_ireti dX6_copy_71 ?_
            rw [O_copy, ite_t hg, kp, kq, ite_f (show ¬ (S.1.1 p' = -1 ∨ S.1.1 q' = -1) from fun z => z.elim na nb_), ite_f c63]
            exact ⟨rfl, a.st 5⟩
        · refine V_aload0 dX6_copy_45 ?_
          refine V_iconst (nI 1) dX6_copy_46 (by decide) ?_
          refine kX6_83 (m_X6_found _ _ _) (rOK_d (by decide) (by decide)) (Nat.le_of_ble_eq_true rfl) dX6_copy_47 (fun r47 h47 hq47 => ?_)
          obtain ⟨e_, rfl⟩ := hq47
          replace e_ := e_.symm
          subst e_
          refine V_ireti dX6_copy_50 ?_
          rw [O_copy, ite_t hg, kp, kq, ite_t (by first | exact Or.inl (l2.mp c33) | exact Or.inr (l4.mp (i_nle c42)))]
          exact ⟨rfl, a.st 1⟩
    · refine V_ldc ct_X6_82 dX6_copy_19 ?_
      refine V_ireti dX6_copy_21 ?_
      rw [O_copy, ite_f (fun z => by first | exact c9 z.1 | exact c16 z.2)]
      exact ⟨rfl, a⟩
