set_option maxRecDepth 4000 in
theorem l_X6_follow_d (G : GE) (h : Mem) (N : Ng) (i : Inv N) (l n : Nat) (D : Nat → Option Nat) (hC : hasC D h) (hW : hasW N h) (p y : Nat) (hp : p < 100) (hy : D p = some y) (d : Nat) (hd : d < 4) (hok : okd (bw N) D p d) (hno : ∀ d', d' < d → ¬ okd (bw N) D p d') (Q : Option Value → Mem → Prop) (K : ∀ o5 o6, V idsB G RX6 cX6_follow 7 none (rmD 3) 129 [some (.ref (ad G 100)), some (.int (nI l)), some (.int (nI p)), some (.int (nI n)), some (.int (nI d)), o5, o6] [] h Q) (k : Nat) (hk : k ≤ 4) (v4 : Int32) (hv : k ≤ d → v4 = nI d) (o6 : OV) : V idsB G RX6 cX6_follow 7 none (rmD 3) 36 [some (.ref (ad G 100)), some (.int (nI l)), some (.int (nI p)), some (.int (nI n)), some (.int v4), some (.int (dn k)), o6] [] h Q := by
  obtain ⟨j1, j2, j3, j4⟩ := (hC p hp).2 y hy
  induction k generalizing v4 o6 with
  | zero =>
    refine V_iload5 dX6_follow_36 ?_
    refine V_if_lt 129 dX6_follow_38 (by decide) (fun _ => ?_) (fun c => absurd (by decide) c)
    rw [hv (Nat.zero_le _)]
    exact K _ _
  | succ k ih =>
    have hk4 : k < 4 := by omega
    refine V_iload5 dX6_follow_36 ?_
    refine V_if_lt_n 129 dX6_follow_38 (by decide) (show k < 2 ^ 31 by omega) (fun c => c.elim) (fun _ => ?_)
    refine V_iload2 dX6_follow_41 ?_
    refine V_iload5 dX6_follow_42 ?_
    refine kX6_105 (m_X6_go _ _ _ _ hp hk4) (rOK_d (by decide) (by decide)) (Nat.le_of_ble_eq_true rfl) dX6_follow_44 (fun r44 h44 hq44 => ?_)
    obtain ⟨e_, rfl⟩ := hq44
    replace e_ := e_.symm
    subst e_
    cases e : nb p k with
    | none =>
      rw [oI_n]
      refine V_istore6 dX6_follow_47 (by decide) rfl ?_
      refine V_iload6 dX6_follow_49 ?_
      refine V_ldc ct_X6_93 dX6_follow_51 ?_
      refine V_icmp_eq 119 dX6_follow_53 (by decide) (fun c53 => ?_) (fun c53 => absurd rfl c53)
      have hnk : ¬ okd (bw N) D p k := fun ⟨q', x', h1, h2, h3⟩ => by rw [e] at h1; cases h1
      refine V_iload4 dX6_follow_119 ?_
      refine V_istore4 dX6_follow_121 (by decide) rfl ?_
      refine V_iinc5 (-1) dX6_follow_123 (by decide) (by decide) rfl ?_
      refine V_goto 36 dX6_follow_126 (by decide) ?_
      first
      | (
        rw [dn_dec hk4]
        exact ih (by omega) v4 (fun hkd => by
            by_cases e9 : k = d
            · subst e9; exact absurd hok hnk
            · exact hv (by omega)) _)
      | (
        rw [dn_dec hk4]
        exact ih (by omega) (nI k) (fun hkd => by
            by_cases e9 : k = d
            · rw [e9]
            · exact absurd hyk (hno k (by omega))) _)
    | some q =>
      rw [oI_s]
      have hq := nb_lt hp e
      have hps := phi_sB hp hk4 e
      refine V_istore6 dX6_follow_47 (by decide) rfl ?_
      refine V_iload6 dX6_follow_49 ?_
      refine V_ldc ct_X6_93 dX6_follow_51 ?_
      refine V_icmp_eq 119 dX6_follow_53 (by decide) (fun c53 => absurd c53 (nI_m (show q < 2 ^ 31 by omega))) (fun c53 => ?_)
      refine V_aload0 dX6_follow_56 ?_
      refine gX6_44 dX6_follow_57 ?_
      refine V_iload6 dX6_follow_60 ?_
      refine V_iaload (by decide) aI_115 (by decide) rfl (by first | assumption | omega) dX6_follow_62 ?_
      cases e2 : D q with
      | none =>
        rw [(hC q hq).1 e2]
        refine V_ldc ct_X6_93 dX6_follow_63 ?_
        refine V_icmp_eq 119 dX6_follow_65 (by decide) (fun c65 => ?_) (fun c65 => absurd rfl c65)
        have hnk : ¬ okd (bw N) D p k := fun ⟨q', x', h1, h2, h3⟩ => by rw [e] at h1; cases h1; rw [e2] at h2; cases h2
        refine V_iload4 dX6_follow_119 ?_
        refine V_istore4 dX6_follow_121 (by decide) rfl ?_
        refine V_iinc5 (-1) dX6_follow_123 (by decide) (by decide) rfl ?_
        refine V_goto 36 dX6_follow_126 (by decide) ?_
        first
        | (
          rw [dn_dec hk4]
          exact ih (by omega) v4 (fun hkd => by
              by_cases e9 : k = d
              · subst e9; exact absurd hok hnk
              · exact hv (by omega)) _)
        | (
          rw [dn_dec hk4]
          exact ih (by omega) (nI k) (fun hkd => by
              by_cases e9 : k = d
              · rw [e9]
              · exact absurd hyk (hno k (by omega))) _)
      | some x =>
        obtain ⟨k1, k2, k3, k4⟩ := (hC q hq).2 x e2
        have hbw : bw N (sA p q k) = pw N (sA p q k) * 128 + 1 := rfl
        have hpw := pw_b i (sA p q k)
        rw [k1]
        refine V_ldc ct_X6_93 dX6_follow_63 ?_
        refine V_icmp_eq 119 dX6_follow_65 (by decide) (fun c65 => absurd c65 (nI_m (by omega))) (fun c65 => ?_)
        refine V_aload0 dX6_follow_68 ?_
        refine gX6_44 dX6_follow_69 ?_
        refine V_iload6 dX6_follow_72 ?_
        refine V_iaload (by decide) aI_115 (by decide) rfl (by first | assumption | omega) dX6_follow_74 ?_
        rw [k1]
        refine V_aload0 dX6_follow_75 ?_
        refine gX6_50 dX6_follow_76 ?_
        refine V_iload2 dX6_follow_79 ?_
        refine V_iload5 dX6_follow_80 ?_
        refine kX6_109 (m_X6_side _ _ _ _ hp hk4 (nb_h3 e) (nb_h0 e)) (rOK_d (by decide) (by decide)) (Nat.le_of_ble_eq_true rfl) dX6_follow_82 (fun r82 h82 hq82 => ?_)
        obtain ⟨e_, rfl⟩ := hq82
        replace e_ := e_.symm
        subst e_
        refine V_iaload (by decide) aI_117 (by decide) rfl hps.1 dX6_follow_85 ?_
        rw [hW _ hps.1, hps.2]
        first | refine V_iadd_n dX6_follow_86 ?_ | refine V_iadd dX6_follow_86 ?_
        refine V_aload0 dX6_follow_87 ?_
        refine gX6_44 dX6_follow_88 ?_
        refine V_iload2 dX6_follow_91 ?_
        refine V_iaload (by decide) aI_115 (by decide) rfl (by first | assumption | omega) dX6_follow_92 ?_
        rw [j1]
        first | refine V_icmp_ne_n 119 dX6_follow_93 (by decide) (by omega) (by omega) (fun c93 => ?_) (fun c93 => ?_) | refine V_icmp_ne 119 dX6_follow_93 (by decide) (fun c93 => ?_) (fun c93 => ?_)
        · have hnk : ¬ okd (bw N) D p k := fun ⟨q1, x1, h1, h2, h3⟩ => by rw [e] at h1; cases h1; rw [e2] at h2; cases h2; rw [hy] at h3; have h3 := Option.some.inj h3; omega
          refine V_iload4 dX6_follow_119 ?_
          refine V_istore4 dX6_follow_121 (by decide) rfl ?_
          refine V_iinc5 (-1) dX6_follow_123 (by decide) (by decide) rfl ?_
          refine V_goto 36 dX6_follow_126 (by decide) ?_
          first
          | (
            rw [dn_dec hk4]
            exact ih (by omega) v4 (fun hkd => by
                by_cases e9 : k = d
                · subst e9; exact absurd hok hnk
                · exact hv (by omega)) _)
          | (
            rw [dn_dec hk4]
            exact ih (by omega) (nI k) (fun hkd => by
                by_cases e9 : k = d
                · rw [e9]
                · exact absurd hyk (hno k (by omega))) _)
        · refine V_aload0 dX6_follow_96 ?_
          refine gX6_47 dX6_follow_97 ?_
          refine V_iload6 dX6_follow_100 ?_
          refine V_iaload (by decide) aI_116 (by decide) rfl (by first | assumption | omega) dX6_follow_102 ?_
          rw [k2]
          refine V_iconst (nI 1) dX6_follow_103 (by decide) ?_
          first | refine V_iadd_n dX6_follow_104 ?_ | refine V_iadd dX6_follow_104 ?_
          refine V_aload0 dX6_follow_105 ?_
          refine gX6_47 dX6_follow_106 ?_
          refine V_iload2 dX6_follow_109 ?_
          refine V_iaload (by decide) aI_116 (by decide) rfl (by first | assumption | omega) dX6_follow_110 ?_
          rw [j2]
          first | refine V_icmp_ne_n 119 dX6_follow_111 (by decide) (by omega) (by omega) (fun c111 => ?_) (fun c111 => ?_) | refine V_icmp_ne 119 dX6_follow_111 (by decide) (fun c111 => ?_) (fun c111 => ?_)
          · have hnk : ¬ okd (bw N) D p k := fun ⟨q1, x1, h1, h2, h3⟩ => by rw [e] at h1; cases h1; rw [e2] at h2; cases h2; rw [hy] at h3; have h3 := Option.some.inj h3; omega
            refine V_iload4 dX6_follow_119 ?_
            refine V_istore4 dX6_follow_121 (by decide) rfl ?_
            refine V_iinc5 (-1) dX6_follow_123 (by decide) (by decide) rfl ?_
            refine V_goto 36 dX6_follow_126 (by decide) ?_
            first
            | (
              rw [dn_dec hk4]
              exact ih (by omega) v4 (fun hkd => by
                  by_cases e9 : k = d
                  · subst e9; exact absurd hok hnk
                  · exact hv (by omega)) _)
            | (
              rw [dn_dec hk4]
              exact ih (by omega) (nI k) (fun hkd => by
                  by_cases e9 : k = d
                  · rw [e9]
                  · exact absurd hyk (hno k (by omega))) _)
          · have hyk : okd (bw N) D p k := ⟨q, x, e, e2, by rw [hy]; exact congrArg some (by omega)⟩
            refine V_iload5 dX6_follow_114 ?_
            refine V_goto 121 dX6_follow_116 (by decide) ?_
            refine V_istore4 dX6_follow_121 (by decide) rfl ?_
            refine V_iinc5 (-1) dX6_follow_123 (by decide) (by decide) rfl ?_
            refine V_goto 36 dX6_follow_126 (by decide) ?_
            first
            | (
              rw [dn_dec hk4]
              exact ih (by omega) v4 (fun hkd => by
                  by_cases e9 : k = d
                  · subst e9; exact absurd hok hnk
                  · exact hv (by omega)) _)
            | (
              rw [dn_dec hk4]
              exact ih (by omega) (nI k) (fun hkd => by
                  by_cases e9 : k = d
                  · rw [e9]
                  · exact absurd hyk (hno k (by omega))) _)
set_option maxRecDepth 4000 in
theorem l_X6_follow (G : GE) (h hc : Mem) (N : Ng) (i : Inv N) (r : RBn N h) (l : Nat) (hl : l < nNl N) (hC : hasC (nD N l) h) (hW : hasW N h) (W : List Nat) (u w : List Nat) (p y : Nat) (hp : p < 100) (hy : nD N l p = some y) (he : endW (nSt N l) u = p) (hP : isP (bw N) (nD N l) (nGl N l) p w) (hu : u.length + w.length ≤ 99) (hWW : u ++ w = W) (e1 : same [112, 113] h hc) (rc : RBn (setW N l u) (wr hc 111 l (nI u.length))) (o4 o5 o6 : OV) : V idsB G RX6 cX6_follow 7 none (rmD 3) 14 [some (.ref (ad G 100)), some (.int (nI l)), some (.int (nI p)), some (.int (nI u.length)), o4, o5, o6] [] hc (Qv (fun h' => same [111, 112, 113] h h' ∧ RBn (setW N l W) h')) := by
  induction hn : w.length using Nat.strongRecOn generalizing hc u w p y o4 o5 o6 with
  | _ n ih =>
    subst hn
    have hnl := i.nl
    have hnp := i.np
    have hab := i.ab hl
    have hgl : nPp N (nLb N l) < 100 := i.gl hl
    refine V_iload2 dX6_follow_14 ?_
    refine V_aload0 dX6_follow_15 ?_
    refine gX6_23 dX6_follow_16 ?_
    refine V_aload0 dX6_follow_19 ?_
    refine gX6_29 dX6_follow_20 ?_
    refine V_iload1 dX6_follow_23 ?_
    refine V_iaload (by decide) aI_110 (by decide) rfl (by omega) dX6_follow_24 ?_
    rw [e1 110 (by decide), (r.2.2.2.2.1 l hl).2]
    refine V_iaload (by decide) aI_107 (by decide) rfl (by omega) dX6_follow_25 ?_
    rw [e1 107 (by decide), r.2.2.1 _ hab.2.1]
    first | refine V_icmp_eq_n 173 dX6_follow_26 (by decide) (by omega) (by omega) (fun c26 => ?_) (fun c26 => ?_) | refine V_icmp_eq 173 dX6_follow_26 (by decide) (fun c26 => ?_) (fun c26 => ?_)
    · cases w with
      | cons d w => exact absurd c26 hP.1
      | nil =>
        refine V_aload0 dX6_follow_173 ?_
        refine gX6_32 dX6_follow_174 ?_
        refine V_iload1 dX6_follow_177 ?_
        refine V_iload3 dX6_follow_178 ?_
        refine V_iastore (by decide) aI_111 (by decide) rfl (by omega) dX6_follow_179 ?_
        refine V_vreti dX6_follow_180 ?_
        rw [List.append_nil] at hWW
        subst hWW
        exact ⟨(e1.mono (fun c hcc => by simp at hcc ⊢; omega)).wr _ _ (by decide), rc⟩
    · cases w with
      | nil => exact absurd hP c26
      | cons d w =>
        obtain ⟨-, hd, hok, hno, hP2⟩ := hP
        obtain ⟨q, x, hn, hx, hyx⟩ := id hok
        have hq := nb_lt hp hn
        have hps := phi_sB hp hd hn
        rw [stp_eq hn] at hP2
        have hu2 : u.length + (w.length + 1) ≤ 99 := hu
        refine V_ldc ct_X6_93 dX6_follow_29 ?_
        refine V_istore4 dX6_follow_31 (by decide) rfl ?_
        refine V_iconst (nI 3) dX6_follow_33 (by decide) ?_
        refine V_istore5 dX6_follow_34 (by decide) rfl ?_
        refine l_X6_follow_d G hc N i l u.length (nD N l) (hC.same e1 (by decide) (by decide)) (hW.same e1 (by decide)) p y hp hy d hd hok hno _ (fun o5 o6 => ?_) 4 (by decide) _ (fun z => absurd z (by omega)) _
        refine V_aload0 dX6_follow_129 ?_
        refine gX6_35 dX6_follow_130 ?_
        refine V_bipush (nI 100) dX6_follow_133 (by decide) ?_
        refine V_iload1 dX6_follow_135 ?_
        first | refine V_imul_n dX6_follow_136 ?_ | refine V_imul dX6_follow_136 ?_
        refine V_iload3 dX6_follow_137 ?_
        first | refine V_iadd_n dX6_follow_138 ?_ | refine V_iadd dX6_follow_138 ?_
        refine V_iload4 dX6_follow_139 ?_
        refine V_iastore (by decide) aI_112 (by decide) rfl (by omega) dX6_follow_141 ?_
        refine V_aload0 dX6_follow_142 ?_
        refine gX6_38 dX6_follow_143 ?_
        refine V_sipush (nI 180) dX6_follow_146 (by decide) ?_
        refine V_iload1 dX6_follow_149 ?_
        first | refine V_imul_n dX6_follow_150 ?_ | refine V_imul dX6_follow_150 ?_
        refine V_iload2 dX6_follow_151 ?_
        refine V_iload4 dX6_follow_152 ?_
        refine kX6_109 (m_X6_side _ _ _ _ hp hd (nb_h3 hn) (nb_h0 hn)) (rOK_d (by decide) (by decide)) (Nat.le_of_ble_eq_true rfl) dX6_follow_154 (fun r154 h154 hq154 => ?_)
        obtain ⟨e_, rfl⟩ := hq154
        replace e_ := e_.symm
        subst e_
        first | refine V_iadd_n dX6_follow_157 ?_ | refine V_iadd dX6_follow_157 ?_
        refine V_iconst (nI 1) dX6_follow_158 (by decide) ?_
        refine V_bastore (by decide) aZ_113 (by decide) rfl (by omega) (by first | exact bz_01 | exact nI_01 (Or.inl rfl) | exact nI_01 (Or.inr rfl) | assumption) dX6_follow_159 ?_
        first | refine V_iinc3_n 1 dX6_follow_160 (by decide) (by decide) rfl ?_ | refine V_iinc3 (nI 1) dX6_follow_160 (by decide) (by decide) rfl ?_
        refine V_iload2 dX6_follow_163 ?_
        refine V_iload4 dX6_follow_164 ?_
        refine kX6_105 (m_X6_go _ _ _ _ hp hd) (rOK_d (by decide) (by decide)) (Nat.le_of_ble_eq_true rfl) dX6_follow_166 (fun r166 h166 hq166 => ?_)
        obtain ⟨e_, rfl⟩ := hq166
        replace e_ := e_.symm
        subst e_
        rw [hn, oI_s]
        refine V_istore2 dX6_follow_169 (by decide) rfl ?_
        refine V_goto 14 dX6_follow_170 (by decide) ?_
        have hz := ih _ (show w.length < (d :: w).length from Nat.lt_succ_self _) (wr (wr hc 112 (100 * l + u.length) (nI d)) 113 (180 * l + sB p d) (nI 1)) (u ++ [d]) w q x hq hx (by rw [endW_app, he]; show stp p d = q; exact stp_eq hn) hP2 (by rw [List.length_append]; show u.length + 1 + w.length ≤ 99; omega) (by rw [← hWW, List.append_assoc]; rfl) ((e1.wr _ _ (by decide)).wr _ _ (by decide)) (by rw [List.length_append]; exact RBn_push i (by omega) rc hp hd he hn (by omega)) (some (.int (nI d))) o5 o6 rfl
        rw [List.length_append] at hz
        exact hz
set_option maxRecDepth 4000 in
theorem m_X6_follow (G : GE) (h : Mem) (N : Ng) (i : Inv N) (r : RBn N h) (l : Nat) (hl : l < nNl N) (hw0 : nWy N l = []) (hC : hasC (nD N l) h) (hW : hasW N h) (W : List Nat) (y : Nat) (hy : nD N l (nSt N l) = some y) (hP : isP (bw N) (nD N l) (nGl N l) (nSt N l) W) : Ct idsB G yX6_follow cX6_follow 7 none (rmD 3) [.ref (ad G 100), .int (nI l)] h (Qv fun h' => same [111, 112, 113] h h' ∧ RBn (setW N l W) h') := by
  refine Ct.of [some (.ref (ad G 100)), some (.int (nI l)), none, none, none, none, none] (by decide) (Nat.le_of_ble_eq_true rfl) (lvE_ok 5 rfl) ?_
  have hnl := i.nl
  have hnp := i.np
  have hab := i.ab hl
  refine V_aload0 dX6_follow_0 ?_
  refine gX6_23 dX6_follow_1 ?_
  refine V_aload0 dX6_follow_4 ?_
  refine gX6_26 dX6_follow_5 ?_
  refine V_iload1 dX6_follow_8 ?_
  refine V_iaload (by decide) aI_109 (by decide) rfl (by omega) dX6_follow_9 ?_
  rw [(r.2.2.2.2.1 l hl).1]
  refine V_iaload (by decide) aI_107 (by decide) rfl (by omega) dX6_follow_10 ?_
  rw [r.2.2.1 _ hab.1]
  refine V_istore2 dX6_follow_11 (by decide) rfl ?_
  refine V_iconst (nI 0) dX6_follow_12 (by decide) ?_
  refine V_istore3 dX6_follow_13 (by decide) rfl ?_
  have hway := isP_way i hl hy (by rw [bw_eq hw0]; exact hP)
  have hz : RBn (setW N l []) (wr h 111 l (nI 0)) := by
    have e := (r.2.2.2.2.2.1 l (by omega)).1
    rw [hw0] at e
    rw [setW_nil hw0, show nI 0 = h 111 l from e.symm, wr_id]
    exact r
  exact l_X6_follow G h h N i r l hl hC hW W [] W (nSt N l) y (i.st hl) hy rfl hP (by have := hway.len; show 0 + W.length ≤ 99; omega) rfl same.rf hz none none none
