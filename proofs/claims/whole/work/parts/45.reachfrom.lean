def FX (M pr : Nat → Nat) (sh : Nat → Bool) (l a b : Nat) (h : Mem) : Prop := hasM M h ∧ hasP pr h ∧ (∀ p, p < 100 → h 8 p = bz (sh p = true)) ∧ h (40 + l) 0 = nI (2 ^ l) ∧ h (40 + l) 2 = nI a ∧ h (40 + l) 3 = nI b
theorem FX.same {M pr : Nat → Nat} {sh : Nat → Bool} {l a b : Nat} {h h' : Mem} {cs : List Nat} (x : FX M pr sh l a b h) (y : same cs h h') (h1 : 10 ∉ cs) (h2 : 4 ∉ cs) (h3 : 8 ∉ cs) (h4 : 40 + l ∉ cs) : FX M pr sh l a b h' := by
  obtain ⟨x1, x2, x3, x4⟩ := x
  exact ⟨x1.same y h1, x2.same y h2, fun p hp => by rw [y 8 h3]; exact x3 p hp, by rw [y _ h4]; exact x4⟩
set_option maxRecDepth 4000 in
theorem l_X0_reachFrom (G : GE) (h hc : Mem) (M pr : Nat → Nat) (sh : Nat → Bool) (l a b : Nat) (hl : l < 12) (D : Nat → Option Nat) (hB : Bell sh (wgt M pr l) b D) (hw : wtOK (wgt M pr l)) (hX : FX M pr sh l a b h) (F : Nat → Bool) (p n0 : Nat) (hp : p < 100) (hFp : F p = true) (hn0 : n0 + 4 ≤ 400) (lf q : Nat → Nat) (n d : Nat) (hd : d ≤ 4) (v5 v6 : OV) (hv5 : okc v5 = true) (e1 : same [5, 13, 14] h hc) (e2 : ∀ j, j ≠ 3 → hc 5 j = h 5 j) (hF : hasF lf hc) (hH : hasH q n hc) (hO : hOrd q n) (hJ : DJ sh (wgt M pr l) b D F lf q n p d) (hn : n ≤ n0 + d) : V idsA G RX0 cX0_reachFrom 7 none (rmD 3) 3 [some (.ref (ad G 5)), some (.ref (ad G 4)), some (.ref (ad G (40 + l))), some (.int (nI p)), some (.int (nI d)), v5, v6] [] hc (Qv (fun h' => same [5, 13, 14] h h' ∧ (∀ j, j ≠ 3 → h' 5 j = h 5 j) ∧ ∃ lf' q' n', hasF lf' h' ∧ hasH q' n' h' ∧ hOrd q' n' ∧ DJ sh (wgt M pr l) b D F lf' q' n' p 4 ∧ n' ≤ n0 + 4)) := by
  induction hm : 4 - d using Nat.strongRecOn generalizing hc lf q n d v5 v6 with
  | _ m ih =>
    subst hm
    refine V_iload4 dX0_reachFrom_3 ?_
    refine V_iconst (nI 4) dX0_reachFrom_5 (by decide) ?_
    first | refine V_icmp_ge_n 80 dX0_reachFrom_6 (by decide) (by omega) (by omega) (fun c6 => ?_) (fun c6 => ?_) | refine V_icmp_ge 80 dX0_reachFrom_6 (by decide) (fun c6 => ?_) (fun c6 => ?_)
    · refine V_vreti dX0_reachFrom_80 ?_
      obtain rfl : d = 4 := by omega
      exact ⟨e1, e2, lf, q, n, hF, hH, hO, hJ, hn⟩
    · refine V_iload3 dX0_reachFrom_9 ?_
      refine V_iload4 dX0_reachFrom_10 ?_
      refine kX0_45 (m_X5_beside _ _ _ _ (by first | assumption | omega) (by first | assumption | omega)) (rOK_d (by decide) (by decide)) (Nat.le_of_ble_eq_true rfl) dX0_reachFrom_12 (fun r12 h12 hq12 => ?_)
      obtain ⟨e_, rfl⟩ := hq12
      replace e_ := e_.symm
      subst e_
      have hX' := (hX.same e1 (by decide) (by decide) (by decide) (by first | (simp; done) | (simp; omega)))
      cases e : nb p d with
      | none =>
        simp only [oI]
        refine V_istore5 dX0_reachFrom_15 (by decide) rfl ?_
        refine V_iload5 dX0_reachFrom_17 ?_
        first | refine V_if_lt_n 74 dX0_reachFrom_19 (by decide) (by omega) (fun c19 => ?_) (fun c19 => ?_) | refine V_if_lt 74 dX0_reachFrom_19 (by decide) (fun c19 => ?_) (fun c19 => ?_)
        · first | refine V_iinc4_n 1 dX0_reachFrom_74 (by decide) (by decide) rfl ?_ | refine V_iinc4 (nI 1) dX0_reachFrom_74 (by decide) (by decide) rfl ?_
          refine V_goto 3 dX0_reachFrom_77 (by decide) ?_
          exact ih _ (by omega) hc lf q n (d + 1) (by omega) _ _ rfl e1 e2 hF hH hO (hJ.skip (fun t hn _ => by rw [e] at hn; cases hn)) (by omega) rfl
        · exact absurd (by decide) c19 --end
      | some t =>
        have ht := nb_lt hp e
        have hwt := hw (sA p t d)
        simp only [oI]
        refine V_istore5 dX0_reachFrom_15 (by decide) rfl ?_
        refine V_iload5 dX0_reachFrom_17 ?_
        first | refine V_if_lt_n 74 dX0_reachFrom_19 (by decide) (by omega) (fun c19 => ?_) (fun c19 => ?_) | refine V_if_lt 74 dX0_reachFrom_19 (by decide) (fun c19 => ?_) (fun c19 => ?_)
        · exact c19.elim --end
        · refine V_aload1 dX0_reachFrom_22 ?_
          refine gX0_88 dX0_reachFrom_23 ?_
          refine V_iload5 dX0_reachFrom_26 ?_
          refine V_baload (by decide) aZ_8 (by decide) rfl (by first | assumption | omega) dX0_reachFrom_28 ?_
          rw [hX'.2.2.1 t ht]
          first | refine V_if_ne_z 74 dX0_reachFrom_29 (by decide) (fun c29 => ?_) (fun c29 => ?_) | refine V_if_ne_n 74 dX0_reachFrom_29 (by decide) (by omega) (fun c29 => ?_) (fun c29 => ?_) | refine V_if_ne 74 dX0_reachFrom_29 (by decide) (fun c29 => ?_) (fun c29 => ?_)
          · first | refine V_iinc4_n 1 dX0_reachFrom_74 (by decide) (by decide) rfl ?_ | refine V_iinc4 (nI 1) dX0_reachFrom_74 (by decide) (by decide) rfl ?_
            refine V_goto 3 dX0_reachFrom_77 (by decide) ?_
            first
            | exact ih _ (by omega) hc lf q n (d + 1) (by omega) _ _ rfl e1 e2 hF hH hO (hJ.skip (fun t' hn' ho' => by rw [e] at hn'; cases hn'; rw [c29] at ho'; cases ho')) (by omega) rfl
            | exact ih _ (by omega) hc lf q n (d + 1) (by omega) _ _ rfl e1 e2 hF hH hO (hJ.skip (fun t' hn' ho' => by rw [e] at hn'; cases hn'; exact c63)) (by omega) rfl
            | skip
          · refine V_aload0 dX0_reachFrom_32 ?_
            refine gX0_9 dX0_reachFrom_33 ?_
            refine V_iload3 dX0_reachFrom_36 ?_
            refine V_iaload (by decide) aI_13 (by decide) rfl (by first | assumption | omega) dX0_reachFrom_37 ?_
            rw [hF.1 p hp]
            refine V_aload1 dX0_reachFrom_38 ?_
            refine V_aload2 dX0_reachFrom_39 ?_
            refine V_iload3 dX0_reachFrom_40 ?_
            refine V_iload5 dX0_reachFrom_41 ?_
            refine V_iload4 dX0_reachFrom_43 ?_
            refine kX0_66 (m_X5_sideBetween _ _ _ _ _ (by first | assumption | omega) (by first | assumption | omega) (by first | assumption | omega)) (rOK_d (by decide) (by decide)) (Nat.le_of_ble_eq_true rfl) dX0_reachFrom_45 (fun r45 h45 hq45 => ?_)
            obtain ⟨e_, rfl⟩ := hq45
            replace e_ := e_.symm
            subst e_
            refine kX0_70 (m_X0_weight _ _ M hX'.1 pr hX'.2.1 _ _ hl hX'.2.2.2.1 (sA_lt hp)) (rOK_d (by decide) (by decide)) (Nat.le_of_ble_eq_true rfl) dX0_reachFrom_48 (fun r48 h48 hq48 => ?_)
            obtain ⟨e_, rfl⟩ := hq48
            replace e_ := e_.symm
            subst e_
            first | refine V_iadd_n dX0_reachFrom_51 ?_ | refine V_iadd dX0_reachFrom_51 ?_
            refine V_istore6 dX0_reachFrom_52 (by decide) rfl ?_
            refine V_iload6 dX0_reachFrom_54 ?_
            refine V_aload0 dX0_reachFrom_56 ?_
            refine gX0_9 dX0_reachFrom_57 ?_
            refine V_iload5 dX0_reachFrom_60 ?_
            refine V_iaload (by decide) aI_13 (by decide) rfl (by first | assumption | omega) dX0_reachFrom_62 ?_
            rw [hF.1 t ht]
            have f1 := hF.2 p
            have f2 := hF.2 t
            have f3 := hB.max hw hp (hJ.2.1 p hp hFp)
            first | refine V_icmp_ge_n 74 dX0_reachFrom_63 (by decide) (by omega) (by omega) (fun c63 => ?_) (fun c63 => ?_) | refine V_icmp_ge 74 dX0_reachFrom_63 (by decide) (fun c63 => ?_) (fun c63 => ?_)
            · first | refine V_iinc4_n 1 dX0_reachFrom_74 (by decide) (by decide) rfl ?_ | refine V_iinc4 (nI 1) dX0_reachFrom_74 (by decide) (by decide) rfl ?_
              refine V_goto 3 dX0_reachFrom_77 (by decide) ?_
              first
              | exact ih _ (by omega) hc lf q n (d + 1) (by omega) _ _ rfl e1 e2 hF hH hO (hJ.skip (fun t' hn' ho' => by rw [e] at hn'; cases hn'; rw [c29] at ho'; cases ho')) (by omega) rfl
              | exact ih _ (by omega) hc lf q n (d + 1) (by omega) _ _ rfl e1 e2 hF hH hO (hJ.skip (fun t' hn' ho' => by rw [e] at hn'; cases hn'; exact c63)) (by omega) rfl
              | skip
            · refine V_aload0 dX0_reachFrom_66 ?_
              refine V_iload5 dX0_reachFrom_67 ?_
              refine V_iload6 dX0_reachFrom_69 ?_
              refine kX0_76 (m_X0_reach _ _ q n t (lf p + wgt M pr l (sA p t d)) hH hO (by omega) ht (by omega)) (rOK_d (by decide) (by decide)) (Nat.le_of_ble_eq_true rfl) dX0_reachFrom_71 (fun h71 hq71 => ?_)
              obtain ⟨s1, s2, s3, q2, s4, s5, s6⟩ := hq71
              first | refine V_iinc4_n 1 dX0_reachFrom_74 (by decide) (by decide) rfl ?_ | refine V_iinc4 (nI 1) dX0_reachFrom_74 (by decide) (by decide) rfl ?_
              refine V_goto 3 dX0_reachFrom_77 (by decide) ?_
              have hF2 : hasF (va_up lf t (lf p + wgt M pr l (sA p t d))) h71 := by
                refine ⟨fun x hx => ?_, fun x => ?_⟩
                · rw [s2]
                  by_cases z : x = t
                  · rw [z, va_up_s]; exact pk_us
                  · rw [va_up_ne _ _ z]
                    exact (pk_un z).trans (hF.1 x hx)
                · by_cases z : x = t
                  · rw [z, va_up_s]; omega
                  · rw [va_up_ne _ _ z]; exact hF.2 x
              exact ih _ (by omega) h71 (va_up lf t (lf p + wgt M pr l (sA p t d))) q2 (n + 1) (d + 1) (by omega) _ _ rfl (e1.tr s1) (fun j hj => (s3 j hj).trans (e2 j hj)) hF2 s4 s5 (hJ.relax hB hw hp (by omega) hFp e (Bool.eq_false_iff.mpr c29) (Nat.lt_of_not_le c63) s6) (by omega) rfl
set_option maxRecDepth 4000 in
theorem m_X0_reachFrom (G : GE) (h : Mem) (M pr : Nat → Nat) (sh : Nat → Bool) (l a b : Nat) (hl : l < 12) (D : Nat → Option Nat) (hB : Bell sh (wgt M pr l) b D) (hw : wtOK (wgt M pr l)) (hX : FX M pr sh l a b h) (F : Nat → Bool) (p n0 : Nat) (hp : p < 100) (hFp : F p = true) (hn0 : n0 + 4 ≤ 400) (lf q : Nat → Nat) (hF : hasF lf h) (hH : hasH q n0 h) (hO : hOrd q n0) (hJ : DJ sh (wgt M pr l) b D F lf q n0 p 0) : Ct idsA G yX0_reachFrom cX0_reachFrom 7 none (rmD 3) [.ref (ad G 5), .ref (ad G 4), .ref (ad G (40 + l)), .int (nI p)] h (Qv fun h' => same [5, 13, 14] h h' ∧ (∀ j, j ≠ 3 → h' 5 j = h 5 j) ∧ ∃ lf' q' n', hasF lf' h' ∧ hasH q' n' h' ∧ hOrd q' n' ∧ DJ sh (wgt M pr l) b D F lf' q' n' p 4 ∧ n' ≤ n0 + 4) := by
  refine Ct.of [some (.ref (ad G 5)), some (.ref (ad G 4)), some (.ref (ad G (40 + l))), some (.int (nI p)), none, none, none] (by decide) (Nat.le_of_ble_eq_true rfl) (lvE_ok 3 rfl) ?_
  refine V_iconst (nI 0) dX0_reachFrom_0 (by decide) ?_
  refine V_istore4 dX0_reachFrom_1 (by decide) rfl ?_
  exact l_X0_reachFrom G h h M pr sh l a b hl D hB hw hX F p n0 hp hFp hn0 lf q n0 0 (by decide) _ _ rfl same.rf (fun _ _ => rfl) hF hH hO hJ (Nat.le_refl _)
