set_option maxRecDepth 4000 in
theorem l_X6_passed (G : GE) (h hc : Mem) (N : Ng) (i : Inv N) (k : Nat) (hk : k ≤ nNl N) (r2 : RBn (psF N k).2 hc) (s2 : same [111, 112, 113, 115, 116, 117, 118] h hc) (o3 o4 o5 o6 o7 : OV) : V idsB G RX6 cX6_passed 8 (some .int) (rmD 4) 4 [some (.ref (ad G 100)), some (.int (nI (psF N k).1)), some (.int (nI k)), o3, o4, o5, o6, o7] [] hc (Qi (fun v h' => v = nI (o_pass N).1 ∧ RBn (o_pass N).2 h' ∧ same [111, 112, 113, 115, 116, 117, 118] h h')) := by
  induction hn : nNl N - k using Nat.strongRecOn generalizing hc k o3 o4 o5 o6 o7 with
  | _ n ih =>
    subst hn
    obtain ⟨j1, j2, j3⟩ := psF_ok i k hk
    have hnl := i.nl
    obtain ⟨M, hM⟩ : ∃ M, (psF N k).2 = M := ⟨_, rfl⟩
    rw [hM] at r2 j1 j2
    have hnp := j1.np
    refine V_iload2 dX6_passed_4 ?_
    refine V_aload0 dX6_passed_5 ?_
    refine gX6_102 dX6_passed_6 ?_
    rw [r2.2.1, j2]
    first | refine V_icmp_ge_n 211 dX6_passed_9 (by decide) (by omega) (by omega) (fun c9 => ?_) (fun c9 => ?_) | refine V_icmp_ge 211 dX6_passed_9 (by decide) (fun c9 => ?_) (fun c9 => ?_)
    · refine V_iload1 dX6_passed_211 ?_
      refine V_ireti dX6_passed_212 ?_
      obtain rfl : k = nNl N := by omega
      refine ⟨rfl, ?_, s2⟩
      unfold o_pass
      rw [hM]
      exact r2
    · have hkl : k < nNl M := by omega
      have hab := j1.ab hkl
      obtain ⟨w1, w2⟩ := r2.2.2.2.2.2.1 k (by omega)
      have hlen := j1.len (l := k)
      have hst : nPp M (nLa M k) < 100 := j1.st hkl
      refine V_aload0 dX6_passed_12 ?_
      refine gX6_32 dX6_passed_13 ?_
      refine V_iload2 dX6_passed_16 ?_
      refine V_iaload (by decide) aI_111 (by decide) rfl (by first | assumption | omega) dX6_passed_17 ?_
      rw [w1]
      refine V_istore3 dX6_passed_18 (by decide) rfl ?_
      refine V_aload0 dX6_passed_19 ?_
      refine V_iload2 dX6_passed_20 ?_
      refine kX6_145 (m_X6_ownCost _ _ M j1 r2 k (by omega)) (rOK_d (by decide) (by decide)) (Nat.le_of_ble_eq_true rfl) dX6_passed_21 (fun r21 h21 hq21 => ?_)
      obtain ⟨e_, rfl⟩ := hq21
      replace e_ := e_.symm
      subst e_
      refine V_istore4 dX6_passed_24 (by decide) rfl ?_
      refine V_iconst (nI 0) dX6_passed_26 (by decide) ?_
      refine V_istore5 dX6_passed_27 (by decide) rfl ?_
      have hown := ownC_le j1 k
      refine l_X6_passed_1 G hc hc _ k (by omega) (nWy M k) hlen _ _ _ w2 0 (Nat.zero_le _) _ same.rf (fun _ z => absurd z (Nat.not_lt_zero _)) (fun h1 s3 kp => ?_)
      have r3 := r2.same s3 (by unfold offB; decide)
      refine V_aload0 dX6_passed_60 ?_
      refine V_iload2 dX6_passed_61 ?_
      refine kX6_131 (m_X6_wipe _ _ k (by omega)) (rOK_d (by decide) (by decide)) (Nat.le_of_ble_eq_true rfl) dX6_passed_62 (fun h62 hq62 => ?_)
      obtain ⟨t1, t2, t3, t4, t5⟩ := hq62
      have r4 := RBn_wipe j1 r3 t1 t2 t3 t4 t5
      have i1 : Inv (setW M k []) := j1.set hkl (Or.inl rfl)
      have hwz : nWy (setW M k []) k = [] := va_up_s _ _ _
      refine V_aload0 dX6_passed_65 ?_
      refine V_iload2 dX6_passed_66 ?_
      refine kX6_135 (m_X6_find _ _ (setW M k []) i1 r4 k hkl hwz) (rOK_d (by decide) (by decide)) (Nat.le_of_ble_eq_true rfl) dX6_passed_67 (fun r67 h67 hq67 => ?_)
      obtain ⟨s5, C5, W5, e_⟩ := hq67
      replace e_ := e_.symm
      subst e_
      rw [nD_set] at C5 ⊢
      have r5 := r4.same s5 (by unfold offB; decide)
      have kp5 : ∀ x, x < (nWy M k).length → h67 118 x = nI ((nWy M k).getD x 0) := fun x hx => by rw [s5 118 (by decide), t1 118 (by decide)]; exact kp x hx
      have s6 : same [111, 112, 113, 115, 116, 117, 118] h h67 := s2.tr (fun c hcc => by rw [s5 c (fun z => hcc (by simp at z ⊢; omega)), t1 c (fun z => hcc (by simp at z ⊢; omega)), s3 c (fun z => hcc (by simp at z ⊢; omega))])
      refine V_istore5 dX6_passed_70 (by decide) rfl ?_
      refine V_iload5 dX6_passed_72 ?_
      first | refine V_if_eq_z 113 dX6_passed_74 (by decide) (fun c74 => ?_) (fun c74 => ?_) | refine V_if_eq_n 113 dX6_passed_74 (by decide) (by omega) (fun c74 => ?_) (fun c74 => ?_) | refine V_if_eq 113 dX6_passed_74 (by decide) (fun c74 => ?_) (fun c74 => ?_)
      · have hbet : o_bet M k = (false, M) := by
          have hnn : nD M k (nSt M k) = none := Classical.byContradiction c74
          unfold o_bet; rw [ldO_none hnn]
        refine V_aload0 dX6_passed_113 ?_
        refine gX6_23 dX6_passed_114 ?_
        refine V_aload0 dX6_passed_117 ?_
        refine gX6_26 dX6_passed_118 ?_
        refine V_iload2 dX6_passed_121 ?_
        refine V_iaload (by decide) aI_109 (by decide) rfl (by omega) dX6_passed_122 ?_
        rw [show h67 109 k = nI (nLa M k) from (r5.2.2.2.2.1 k hkl).1]
        refine V_iaload (by decide) aI_107 (by decide) rfl (by omega) dX6_passed_123 ?_
        rw [show h67 107 (nLa M k) = nI (nPp M (nLa M k)) from r5.2.2.1 _ hab.1]
        refine V_istore6 dX6_passed_124 (by decide) rfl ?_
        refine V_iconst (nI 0) dX6_passed_126 (by decide) ?_
        refine V_istore7 dX6_passed_127 (by decide) rfl ?_
        have hz5 : RBn (setW (setW M k []) k []) (wr h67 111 k (nI 0)) := by
          rw [set_set]
          have e := (r5.2.2.2.2.2.1 k (by omega)).1
          rw [hwz] at e
          rw [show nI 0 = h67 111 k from e.symm, wr_id]
          exact r5
        refine l_X6_passed_2 G h67 h67 (setW M k []) i1 _ k (by omega) (nWy M k) hlen _ _ kp5 _ (fun h8 p8 s8 r8 => ?_) [] (nWy M k) (nSt M k) (j1.st hkl) rfl (j1.ok hkl) rfl same.rf hz5
        rw [set_set, setW_self] at r8
        refine V_aload0 dX6_passed_198 ?_
        refine gX6_32 dX6_passed_199 ?_
        refine V_iload2 dX6_passed_202 ?_
        refine V_iload3 dX6_passed_203 ?_
        refine V_iastore (by decide) aI_111 (by decide) rfl (by omega) dX6_passed_204 ?_
        first | refine V_iinc2_n 1 dX6_passed_205 (by decide) (by decide) rfl ?_ | refine V_iinc2 (nI 1) dX6_passed_205 (by decide) (by decide) rfl ?_
        refine V_goto 4 dX6_passed_208 (by decide) ?_
        first
        | (
          have e9 : psF N (k + 1) = ((psF N k).1 + 1, setW M k w) := by rw [psF, hM, hbet]; rfl
          have hz := fun a1 a2 a3 a4 a5 => ih _ (by omega) h104 (k + 1) (by omega) (by rw [e9]; exact r7) (s6.tr (fun c hcc => s7 c (fun z => hcc (by simp at z ⊢; omega)))) a1 a2 a3 a4 a5 rfl
          rw [e9] at hz
          exact hz _ _ _ _ _)
        | (
          have e9 : psF N (k + 1) = ((psF N k).1, M) := by rw [psF, hM, hbet]; rfl
          have hz := fun a1 a2 a3 a4 a5 => ih _ (by omega) (wr h8 111 k (nI (nWy M k).length)) (k + 1) (by omega) (by rw [e9]; exact r8) ((s6.tr (fun c hcc => s8 c (fun z => hcc (by simp at z ⊢; omega)))).wr _ _ (by decide)) a1 a2 a3 a4 a5 rfl
          rw [e9] at hz
          exact hz _ _ _ _ _)
      · obtain ⟨y, hy⟩ : ∃ y, nD M k (nSt M k) = some y := by
          cases e : nD M k (nSt M k) with
          | none => exact absurd e c74
          | some y => exact ⟨y, rfl⟩
        obtain ⟨w, hP, hld⟩ := ld_path j1 hkl hy
        obtain ⟨k1, k2, k3, k4⟩ := (C5 _ (j1.st hkl)).2 y hy
        refine V_iload3 dX6_passed_77 ?_
        first | refine V_if_eq_z 102 dX6_passed_78 (by decide) (fun c78 => ?_) (fun c78 => ?_) | refine V_if_eq_n 102 dX6_passed_78 (by decide) (by omega) (fun c78 => ?_) (fun c78 => ?_) | refine V_if_eq 102 dX6_passed_78 (by decide) (fun c78 => ?_) (fun c78 => ?_)
        · have hbet : o_bet M k = (true, setW M k w) := by
            unfold o_bet
            rw [hld]
            exact if_neg (fun z => by first | exact c99 z.2 | exact z.1 (List.length_eq_zero_iff.mp c78))
          refine V_aload0 dX6_passed_102 ?_
          refine V_iload2 dX6_passed_103 ?_
          refine kX6_138 (m_X6_follow _ _ (setW M k []) i1 r5 k hkl hwz (by rw [nD_set]; exact C5) W5 w y (by rw [nD_set]; exact hy) (by rw [nD_set]; exact hP)) (rOK_d (by decide) (by decide)) (Nat.le_of_ble_eq_true rfl) dX6_passed_104 (fun h104 hq104 => ?_)
          obtain ⟨s7, r7⟩ := hq104
          rw [set_set] at r7
          first | refine V_iinc1_n 1 dX6_passed_107 (by decide) (by decide) rfl ?_ | refine V_iinc1 (nI 1) dX6_passed_107 (by decide) (by decide) rfl ?_
          refine V_goto 205 dX6_passed_110 (by decide) ?_
          first | refine V_iinc2_n 1 dX6_passed_205 (by decide) (by decide) rfl ?_ | refine V_iinc2 (nI 1) dX6_passed_205 (by decide) (by decide) rfl ?_
          refine V_goto 4 dX6_passed_208 (by decide) ?_
          first
          | (
            have e9 : psF N (k + 1) = ((psF N k).1 + 1, setW M k w) := by rw [psF, hM, hbet]; rfl
            have hz := fun a1 a2 a3 a4 a5 => ih _ (by omega) h104 (k + 1) (by omega) (by rw [e9]; exact r7) (s6.tr (fun c hcc => s7 c (fun z => hcc (by simp at z ⊢; omega)))) a1 a2 a3 a4 a5 rfl
            rw [e9] at hz
            exact hz _ _ _ _ _)
          | (
            have e9 : psF N (k + 1) = ((psF N k).1, M) := by rw [psF, hM, hbet]; rfl
            have hz := fun a1 a2 a3 a4 a5 => ih _ (by omega) (wr h8 111 k (nI (nWy M k).length)) (k + 1) (by omega) (by rw [e9]; exact r8) ((s6.tr (fun c hcc => s8 c (fun z => hcc (by simp at z ⊢; omega)))).wr _ _ (by decide)) a1 a2 a3 a4 a5 rfl
            rw [e9] at hz
            exact hz _ _ _ _ _)
        · refine V_aload0 dX6_passed_81 ?_
          refine gX6_44 dX6_passed_82 ?_
          refine V_aload0 dX6_passed_85 ?_
          refine gX6_23 dX6_passed_86 ?_
          refine V_aload0 dX6_passed_89 ?_
          refine gX6_26 dX6_passed_90 ?_
          refine V_iload2 dX6_passed_93 ?_
          refine V_iaload (by decide) aI_109 (by decide) rfl (by omega) dX6_passed_94 ?_
          rw [show h67 109 k = nI (nLa M k) from (r5.2.2.2.2.1 k hkl).1]
          refine V_iaload (by decide) aI_107 (by decide) rfl (by omega) dX6_passed_95 ?_
          rw [show h67 107 (nLa M k) = nI (nPp M (nLa M k)) from r5.2.2.1 _ hab.1]
          refine V_iaload (by decide) aI_115 (by decide) rfl (by first | assumption | omega) dX6_passed_96 ?_
          rw [show h67 115 (nPp M (nLa M k)) = nI (y / 128) from k1]
          refine V_iload4 dX6_passed_97 ?_
          first | refine V_icmp_ge_n 113 dX6_passed_99 (by decide) (by omega) (by omega) (fun c99 => ?_) (fun c99 => ?_) | refine V_icmp_ge 113 dX6_passed_99 (by decide) (fun c99 => ?_) (fun c99 => ?_)
          · have hbet : o_bet M k = (false, M) := by unfold o_bet; rw [hld]; exact if_pos ⟨fun z => c78 (by rw [z]; rfl), c99⟩
            refine V_aload0 dX6_passed_113 ?_
            refine gX6_23 dX6_passed_114 ?_
            refine V_aload0 dX6_passed_117 ?_
            refine gX6_26 dX6_passed_118 ?_
            refine V_iload2 dX6_passed_121 ?_
            refine V_iaload (by decide) aI_109 (by decide) rfl (by omega) dX6_passed_122 ?_
            rw [show h67 109 k = nI (nLa M k) from (r5.2.2.2.2.1 k hkl).1]
            refine V_iaload (by decide) aI_107 (by decide) rfl (by omega) dX6_passed_123 ?_
            rw [show h67 107 (nLa M k) = nI (nPp M (nLa M k)) from r5.2.2.1 _ hab.1]
            refine V_istore6 dX6_passed_124 (by decide) rfl ?_
            refine V_iconst (nI 0) dX6_passed_126 (by decide) ?_
            refine V_istore7 dX6_passed_127 (by decide) rfl ?_
            have hz5 : RBn (setW (setW M k []) k []) (wr h67 111 k (nI 0)) := by
              rw [set_set]
              have e := (r5.2.2.2.2.2.1 k (by omega)).1
              rw [hwz] at e
              rw [show nI 0 = h67 111 k from e.symm, wr_id]
              exact r5
            refine l_X6_passed_2 G h67 h67 (setW M k []) i1 _ k (by omega) (nWy M k) hlen _ _ kp5 _ (fun h8 p8 s8 r8 => ?_) [] (nWy M k) (nSt M k) (j1.st hkl) rfl (j1.ok hkl) rfl same.rf hz5
            rw [set_set, setW_self] at r8
            refine V_aload0 dX6_passed_198 ?_
            refine gX6_32 dX6_passed_199 ?_
            refine V_iload2 dX6_passed_202 ?_
            refine V_iload3 dX6_passed_203 ?_
            refine V_iastore (by decide) aI_111 (by decide) rfl (by omega) dX6_passed_204 ?_
            first | refine V_iinc2_n 1 dX6_passed_205 (by decide) (by decide) rfl ?_ | refine V_iinc2 (nI 1) dX6_passed_205 (by decide) (by decide) rfl ?_
            refine V_goto 4 dX6_passed_208 (by decide) ?_
            first
            | (
              have e9 : psF N (k + 1) = ((psF N k).1 + 1, setW M k w) := by rw [psF, hM, hbet]; rfl
              have hz := fun a1 a2 a3 a4 a5 => ih _ (by omega) h104 (k + 1) (by omega) (by rw [e9]; exact r7) (s6.tr (fun c hcc => s7 c (fun z => hcc (by simp at z ⊢; omega)))) a1 a2 a3 a4 a5 rfl
              rw [e9] at hz
              exact hz _ _ _ _ _)
            | (
              have e9 : psF N (k + 1) = ((psF N k).1, M) := by rw [psF, hM, hbet]; rfl
              have hz := fun a1 a2 a3 a4 a5 => ih _ (by omega) (wr h8 111 k (nI (nWy M k).length)) (k + 1) (by omega) (by rw [e9]; exact r8) ((s6.tr (fun c hcc => s8 c (fun z => hcc (by simp at z ⊢; omega)))).wr _ _ (by decide)) a1 a2 a3 a4 a5 rfl
              rw [e9] at hz
              exact hz _ _ _ _ _)
          · have hbet : o_bet M k = (true, setW M k w) := by
              unfold o_bet
              rw [hld]
              exact if_neg (fun z => by first | exact c99 z.2 | exact z.1 (List.length_eq_zero_iff.mp c78))
            refine V_aload0 dX6_passed_102 ?_
            refine V_iload2 dX6_passed_103 ?_
            refine kX6_138 (m_X6_follow _ _ (setW M k []) i1 r5 k hkl hwz (by rw [nD_set]; exact C5) W5 w y (by rw [nD_set]; exact hy) (by rw [nD_set]; exact hP)) (rOK_d (by decide) (by decide)) (Nat.le_of_ble_eq_true rfl) dX6_passed_104 (fun h104 hq104 => ?_)
            obtain ⟨s7, r7⟩ := hq104
            rw [set_set] at r7
            first | refine V_iinc1_n 1 dX6_passed_107 (by decide) (by decide) rfl ?_ | refine V_iinc1 (nI 1) dX6_passed_107 (by decide) (by decide) rfl ?_
            refine V_goto 205 dX6_passed_110 (by decide) ?_
            first | refine V_iinc2_n 1 dX6_passed_205 (by decide) (by decide) rfl ?_ | refine V_iinc2 (nI 1) dX6_passed_205 (by decide) (by decide) rfl ?_
            refine V_goto 4 dX6_passed_208 (by decide) ?_
            first
            | (
              have e9 : psF N (k + 1) = ((psF N k).1 + 1, setW M k w) := by rw [psF, hM, hbet]; rfl
              have hz := fun a1 a2 a3 a4 a5 => ih _ (by omega) h104 (k + 1) (by omega) (by rw [e9]; exact r7) (s6.tr (fun c hcc => s7 c (fun z => hcc (by simp at z ⊢; omega)))) a1 a2 a3 a4 a5 rfl
              rw [e9] at hz
              exact hz _ _ _ _ _)
            | (
              have e9 : psF N (k + 1) = ((psF N k).1, M) := by rw [psF, hM, hbet]; rfl
              have hz := fun a1 a2 a3 a4 a5 => ih _ (by omega) (wr h8 111 k (nI (nWy M k).length)) (k + 1) (by omega) (by rw [e9]; exact r8) ((s6.tr (fun c hcc => s8 c (fun z => hcc (by simp at z ⊢; omega)))).wr _ _ (by decide)) a1 a2 a3 a4 a5 rfl
              rw [e9] at hz
              exact hz _ _ _ _ _)
set_option maxRecDepth 4000 in
theorem m_X6_passed (G : GE) (h : Mem) (N : Ng) (i : Inv N) (r : RBn N h) : Ct idsB G yX6_passed cX6_passed 8 (some .int) (rmD 4) [.ref (ad G 100)] h (Qi fun v h' => v = nI (o_pass N).1 ∧ RBn (o_pass N).2 h' ∧ same [111, 112, 113, 115, 116, 117, 118] h h') := by
  refine Ct.of [some (.ref (ad G 100)), none, none, none, none, none, none, none] (by decide) (Nat.le_of_ble_eq_true rfl) (lvE_ok 7 rfl) ?_
  refine V_iconst (nI 0) dX6_passed_0 (by decide) ?_
  refine V_istore1 dX6_passed_1 (by decide) rfl ?_
  refine V_iconst (nI 0) dX6_passed_2 (by decide) ?_
  refine V_istore2 dX6_passed_3 (by decide) rfl ?_
  exact l_X6_passed G h h N i 0 (Nat.zero_le _) r same.rf _ _ _ _ _
set_option maxRecDepth 4000 in
theorem m_X6_pass (G : GE) (h : Mem) (S : St) (i : Ok S) (a : RB S h) : Ct idsB G yX6_pass cX6_pass 1 (some .int) (rmD 5) [.ref (ad G 100)] h (Qi fun rv h' => rv = (O_pass S ).1 ∧ RB (O_pass S ).2 h') := by
  refine Ct.of [some (.ref (ad G 100))] (by decide) (Nat.le_of_ble_eq_true rfl) (lvE_ok 0 rfl) ?_
  refine V_aload0 dX6_pass_0 ?_
  refine V_iconst (nI 0) dX6_pass_1 (by decide) ?_
  refine pX6_62 dX6_pass_2 ?_
  replace a := a.th (nI 0)
  generalize wr h 100 0 (nI 0) = g at a ⊢
  refine V_aload0 dX6_pass_5 ?_
  refine kX6_148 (m_X6_passed _ _ S.2.1 i.1 a.2.1) (rOK_d (by decide) (by decide)) (Nat.le_of_ble_eq_true rfl) dX6_pass_6 (fun r6 h6 hq6 => ?_)
  obtain ⟨rfl, q2, q3⟩ := hq6
  refine V_ireti dX6_pass_9 ?_
  exact ⟨rfl, RB_net a q2 (q3 _ (by decide)) (q3 _ (by decide)) (q3 _ (by decide)) (q3 _ (by decide)) (by rw [q3 100 (by decide)]) (by rw [q3 100 (by decide)])⟩
set_option maxRecDepth 4000 in
theorem l_X6_rest (G : GE) (h hc : Mem) (N : Ng) (i : Inv N) (k : Nat) (hk : k ≤ rsK N) (r2 : RBn (psI N k) hc) (s2 : same [111, 112, 113, 115, 116, 117, 118] h hc) : V idsB G RX6 cX6_rest 2 (some .int) (rmD 5) 7 [some (.ref (ad G 100)), some (.int (nI k))] [] hc (Qi (fun v h' => v = nI (rsK N) ∧ RBn (psI N (rsK N + 1)) h' ∧ same [111, 112, 113, 115, 116, 117, 118] h h')) := by
  induction hn : rsK N - k using Nat.strongRecOn generalizing hc k with
  | _ n ih =>
    subst hn
    obtain ⟨z1, z2, z3⟩ := rsK_ok i
    obtain ⟨j1, j2⟩ := psI_ok i k
    have hps := (psF_ok j1 (nNl (psI N k)) (Nat.le_refl _)).2.2
    have hpb : (o_pass (psI N k)).1 ≤ 12 := Nat.le_trans hps j1.nl
    refine V_aload0 dX6_rest_7 ?_
    refine kX6_148 (m_X6_passed _ _ (psI N k) j1 r2) (rOK_d (by decide) (by decide)) (Nat.le_of_ble_eq_true rfl) dX6_rest_8 (fun r8 h8 hq8 => ?_)
    obtain ⟨rfl, t1, t2⟩ := hq8
    first | refine V_if_le_n 20 dX6_rest_11 (by decide) (by omega) (fun c11 => ?_) (fun c11 => ?_) | refine V_if_le 20 dX6_rest_11 (by decide) (fun c11 => ?_) (fun c11 => ?_)
    · refine V_iload1 dX6_rest_20 ?_
      refine V_ireti dX6_rest_21 ?_
      have he : k = rsK N := by
        rcases (show k < rsK N ∨ k = rsK N by omega) with y | y
        · exact absurd c11 (z2 k y)
        · exact y
      rw [← he]
      exact ⟨rfl, t1, s2.tr t2⟩
    · first | refine V_iinc1_n 1 dX6_rest_14 (by decide) (by decide) rfl ?_ | refine V_iinc1 (nI 1) dX6_rest_14 (by decide) (by decide) rfl ?_
      refine V_goto 7 dX6_rest_17 (by decide) ?_
      have hlt : k < rsK N := by
        rcases (show k < rsK N ∨ k = rsK N by omega) with y | y
        · exact y
        · rw [y] at c11; exact absurd z1 c11
      exact ih _ (by omega) _ (k + 1) (by omega) t1 (s2.tr t2) rfl
set_option maxRecDepth 4000 in
theorem m_X6_rest (G : GE) (h : Mem) (S : St) (i : Ok S) (a : RB S h) : Ct idsB G yX6_rest cX6_rest 2 (some .int) (rmD 5) [.ref (ad G 100)] h (Qi fun rv h' => rv = (O_rest S ).1 ∧ RB (O_rest S ).2 h') := by
  refine Ct.of [some (.ref (ad G 100)), none] (by decide) (Nat.le_of_ble_eq_true rfl) (lvE_ok 1 rfl) ?_
  refine V_aload0 dX6_rest_0 ?_
  refine V_iconst (nI 0) dX6_rest_1 (by decide) ?_
  refine pX6_62 dX6_rest_2 ?_
  replace a := a.th (nI 0)
  generalize wr h 100 0 (nI 0) = g at a ⊢
  refine V_iconst (nI 0) dX6_rest_5 (by decide) ?_
  refine V_istore1 dX6_rest_6 (by decide) rfl ?_
  refine V_post (l_X6_rest G g g S.2.1 i.1 0 (Nat.zero_le _) a.2.1 same.rf) (Qi_mono (fun v h2 hz => ?_))
  obtain ⟨rfl, q2, q3⟩ := hz
  exact ⟨rfl, RB_net a q2 (q3 _ (by decide)) (q3 _ (by decide)) (q3 _ (by decide)) (q3 _ (by decide)) (by rw [q3 100 (by decide)]) (by rw [q3 100 (by decide)])⟩
