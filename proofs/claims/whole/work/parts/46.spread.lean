theorem ct_up {F : Nat → Bool} {p : Nat} (hp : p < 100) (h : F p = false) : fb_ct (va_up F p true) 100 = fb_ct F 100 + 1 := by
  have h1 := fb_ct_upd F true hp
  rw [h] at h1
  simp only [Bool.false_eq_true, if_false, if_true, Nat.add_zero] at h1
  exact h1
theorem ct_lt {F : Nat → Bool} {a : Nat} (ha : a < 100) (h : F a = false) : fb_ct F 100 ≤ 99 := by
  have h1 := fb_ct_le F 100
  rcases Nat.lt_or_ge (fb_ct F 100) 100 with z | z
  · omega
  · have := (fb_ct_all (p := F)).mp (Nat.le_antisymm h1 z) a ha
    rw [h] at this
    cases this
def spOK (D : Nat → Option Nat) (a : Nat) (lf : Nat → Nat) : Prop := (D a = none ∧ lf a = 536870912) ∨ ∃ y, D a = some y ∧ lf a = y ∧ ∀ p, p < 100 → (∀ z, D p = some z → z < y → lf p = z) ∧ (lf p = 536870912 ∨ ∃ z, D p = some z ∧ z ≤ lf p)
set_option maxRecDepth 4000 in
theorem l_X0_spread (G : GE) (h hc : Mem) (M pr : Nat → Nat) (sh : Nat → Bool) (l a b : Nat) (hl : l < 12) (D : Nat → Option Nat) (hB : Bell sh (wgt M pr l) b D) (hw : wtOK (wgt M pr l)) (hX : FX M pr sh l a b h) (ha : a < 100) (F : Nat → Bool) (lf q : Nat → Nat) (n i : Nat) (v4 v5 : OV) (hv4 : okc v4 = true) (e1 : same [5, 13, 14] h hc) (e2 : ∀ j, j ≠ 3 → hc 5 j = h 5 j) (hF : hasF lf hc) (hH : hasH q n hc) (hO : hOrd q n) (hJ : DJ sh (wgt M pr l) b D F lf q n 100 0) (hFa : F a = false) (hct : i + n ≤ 1 + 4 * fb_ct F 100) : V idsA G RX0 cX0_spread 6 none (rmD 4) 38 [some (.ref (ad G 5)), some (.ref (ad G 4)), some (.ref (ad G (40 + l))), some (.int (nI i)), v4, v5] [] hc (Qv (fun h' => same [5, 13, 14] h h' ∧ (∀ j, j ≠ 3 → h' 5 j = h 5 j) ∧ ∃ lf, hasF lf h' ∧ spOK D a lf)) := by
  induction hm : 400 - i using Nat.strongRecOn generalizing hc F lf q n i v4 v5 with
  | _ m ih =>
    subst hm
    have hcl := ct_lt ha hFa
    refine V_iload3 dX0_spread_38 ?_
    refine V_sipush (nI 400) dX0_spread_39 (by decide) ?_
    first | refine V_icmp_ge_n 106 dX0_spread_42 (by decide) (by omega) (by omega) (fun c42 => ?_) (fun c42 => ?_) | refine V_icmp_ge 106 dX0_spread_42 (by decide) (fun c42 => ?_) (fun c42 => ?_)
    · exact absurd c42 (by omega) --end
    · refine V_aload0 dX0_spread_45 ?_
      refine gX0_73 dX0_spread_46 ?_
      rw [hH.1]
      first | refine V_if_le_n 106 dX0_spread_49 (by decide) (by omega) (fun c49 => ?_) (fun c49 => ?_) | refine V_if_le 106 dX0_spread_49 (by decide) (fun c49 => ?_) (fun c49 => ?_)
      · refine V_vreti dX0_spread_106 ?_
        obtain rfl : n = 0 := by omega
        refine ⟨e1, e2, lf, hF, Or.inl ?_⟩
        have hnone : D a = none := by
          cases z : D a with
          | none => rfl
          | some y =>
            rcases DJ.front (Nat.le_refl _) hJ hB hw y a ha z with w | ⟨v, v1, v2, v3, v4⟩
            · rw [hFa] at w; cases w
            · exact absurd (hJ.2.2.2.1 v v1 v2 v3) (Nat.lt_irrefl 0)
        refine ⟨hnone, ?_⟩
        rcases hJ.1 a ha with y | ⟨-, z, y, -⟩
        · exact y
        · rw [hnone] at y; cases y
      · obtain ⟨n', rfl⟩ : ∃ m, n = m + 1 := ⟨n - 1, by omega⟩
        have hk0 := hH.2.2 0 (by omega)
        obtain ⟨hpl, hpl2, hpl3⟩ := hJ.pos (kc_mem.mpr ⟨0, by omega, rfl⟩ : 0 < kc q (n' + 1) (q 0))
        refine V_aload0 dX0_spread_52 ?_
        refine kX0_80 (m_X0_pull _ _ q n' hH hO (by omega)) (rOK_d (by decide) (by decide)) (Nat.le_of_ble_eq_true rfl) dX0_spread_53 (fun r53 h53 hq53 => ?_)
        obtain ⟨rfl, s1, s3, q2, s4, s5, s6⟩ := hq53
        have e1' : same [5, 13, 14] h h53 := e1.tr (s1.mono (by simp))
        have e2' : ∀ j, j ≠ 3 → h53 5 j = h 5 j := fun j hj => (s3 j hj).trans (e2 j hj)
        have hF' : hasF lf h53 := hF.same s1 (by decide)
        have hX' := hX.same e1' (by decide) (by decide) (by decide) (by first | (simp; done) | (simp; omega))
        refine V_istore4 dX0_spread_56 (by decide) rfl ?_
        refine V_iload4 dX0_spread_58 ?_
        refine V_sipush (nI 128) dX0_spread_60 (by decide) ?_
        first | refine V_irem_n dX0_spread_63 (by omega) (by omega) (by omega) ?_ | refine V_irem dX0_spread_63 (by decide) ?_
        refine V_istore5 dX0_spread_64 (by decide) rfl ?_
        refine V_iload5 dX0_spread_66 ?_
        refine V_aload2 dX0_spread_68 ?_
        refine gX0_29 (by first | assumption | omega) dX0_spread_69 ?_
        rw [hX'.2.2.2.2.1]
        first | refine V_icmp_ne_n 76 dX0_spread_72 (by decide) (by omega) (by omega) (fun c72 => ?_) (fun c72 => ?_) | refine V_icmp_ne 76 dX0_spread_72 (by decide) (fun c72 => ?_) (fun c72 => ?_)
        · refine V_iload4 dX0_spread_76 ?_
          refine V_sipush (nI 128) dX0_spread_78 (by decide) ?_
          first | refine V_idiv_n dX0_spread_81 (by omega) (by omega) (by omega) ?_ | refine V_idiv dX0_spread_81 (by decide) ?_
          refine V_aload0 dX0_spread_82 ?_
          refine gX0_9 dX0_spread_83 ?_
          refine V_iload5 dX0_spread_86 ?_
          refine V_iaload (by decide) aI_13 (by decide) rfl (by first | assumption | omega) dX0_spread_88 ?_
          rw [hF'.1 _ hpl]
          have f9 := hF'.2 (q 0 % 128)
          first | refine V_icmp_ne_n 100 dX0_spread_89 (by decide) (by omega) (by omega) (fun c89 => ?_) (fun c89 => ?_) | refine V_icmp_ne 100 dX0_spread_89 (by decide) (fun c89 => ?_) (fun c89 => ?_)
          · first | refine V_iinc3_n 1 dX0_spread_100 (by decide) (by decide) rfl ?_ | refine V_iinc3 (nI 1) dX0_spread_100 (by decide) (by decide) rfl ?_
            refine V_goto 38 dX0_spread_103 (by decide) ?_
            exact ih _ (by omega) h53 F lf q2 n' (i + 1) _ _ rfl e1' e2' hF' s4 s5 (hJ.stale s6 c89) hFa (by omega) rfl
          · refine V_aload0 dX0_spread_92 ?_
            refine V_aload1 dX0_spread_93 ?_
            refine V_aload2 dX0_spread_94 ?_
            refine V_iload5 dX0_spread_95 ?_
            obtain ⟨f1, f2, f3⟩ := DJ.fresh (Nat.le_refl _) hJ hO hB hw s6 c89
            have hFa2 : va_up F (q 0 % 128) true a = false := (va_up_ne _ _ (fun z => c72 z.symm)).trans hFa
            have hc2 := ct_up hpl f1
            have hc3 := ct_lt ha hFa2
            refine kX0_84 (m_X0_reachFrom _ _ M pr sh l a b hl D hB hw hX' (va_up F (q 0 % 128) true) (q 0 % 128) n' hpl (va_up_s _ _ _) (by omega) lf q2 hF' s4 s5 f3) (rOK_d (by decide) (by decide)) (Nat.le_of_ble_eq_true rfl) dX0_spread_97 (fun h97 hq97 => ?_)
            obtain ⟨t1, t2, lf2, q3, n3, t3, t4, t5, t6, t7⟩ := hq97
            first | refine V_iinc3_n 1 dX0_spread_100 (by decide) (by decide) rfl ?_ | refine V_iinc3 (nI 1) dX0_spread_100 (by decide) (by decide) rfl ?_
            refine V_goto 38 dX0_spread_103 (by decide) ?_
            exact ih _ (by omega) h97 (va_up F (q 0 % 128) true) lf2 q3 n3 (i + 1) _ _ rfl (e1'.tr t1) (fun j hj => (t2 j hj).trans (e2' j hj)) t3 t4 t5 t6.full hFa2 (by omega) rfl
        · refine V_vreti dX0_spread_75 ?_
          refine ⟨e1', e2', lf, hF', Or.inr ?_⟩
          have hst : q 0 / 128 = lf (q 0 % 128) := by
            rcases Nat.lt_or_ge (lf (q 0 % 128)) (q 0 / 128) with z | z
            · exfalso
              have := DJ.least (Nat.le_refl _) hJ hO hB hw (q 0 % 128) hpl (by rw [c72]; exact hFa) (by omega)
              omega
            · omega
          obtain ⟨f1, f2, -⟩ := DJ.fresh (Nat.le_refl _) hJ hO hB hw s6 hst
          rw [c72] at f2
          refine ⟨lf a, f2, rfl, fun p hp => ⟨fun z hz hzl => ?_, ?_⟩⟩
          · rcases DJ.front (Nat.le_refl _) hJ hB hw z p hp hz with y | ⟨v, v1, v2, v3, v4⟩
            · have := hJ.2.1 p hp y
              rw [hz] at this
              exact (Option.some.inj this).symm
            · have := DJ.least (Nat.le_refl _) hJ hO hB hw v v1 v2 v3
              rw [hst, c72] at this
              omega
          · rcases hJ.1 p hp with y | ⟨-, y⟩
            · exact Or.inl y
            · exact Or.inr y
set_option maxRecDepth 4000 in
theorem l_X0_spread_1 (G : GE) (h hc : Mem) (l p : Nat) (Q : Option Value → Mem → Prop) (hp : p ≤ 100) (e1 : same [13] h hc) (e2 : ∀ x, x < p → hc 13 x = nI 536870912) (K : ∀ hc, same [13] h hc → (∀ x, x < 100 → hc 13 x = nI 536870912) → V idsA G RX0 cX0_spread 6 none (rmD 4) 22 [some (.ref (ad G 5)), some (.ref (ad G 4)), some (.ref (ad G (40 + l))), some (.int (nI 100)), none, none] [] hc Q) : V idsA G RX0 cX0_spread 6 none (rmD 4) 2 [some (.ref (ad G 5)), some (.ref (ad G 4)), some (.ref (ad G (40 + l))), some (.int (nI p)), none, none] [] hc Q := by
  induction hm : 100 - p using Nat.strongRecOn generalizing hc p with
  | _ m ih =>
    subst hm
    refine V_iload3 dX0_spread_2 ?_
    refine V_bipush (nI 100) dX0_spread_3 (by decide) ?_
    first | refine V_icmp_ge_n 22 dX0_spread_5 (by decide) (by omega) (by omega) (fun c5 => ?_) (fun c5 => ?_) | refine V_icmp_ge 22 dX0_spread_5 (by decide) (fun c5 => ?_) (fun c5 => ?_)
    · obtain rfl : p = 100 := by omega
      exact K hc e1 e2
    · refine V_aload0 dX0_spread_8 ?_
      refine gX0_9 dX0_spread_9 ?_
      refine V_iload3 dX0_spread_12 ?_
      refine V_ldc ct_X0_34 dX0_spread_13 ?_
      refine V_iastore (by decide) aI_13 (by decide) rfl (by first | assumption | omega) dX0_spread_15 ?_
      first | refine V_iinc3_n 1 dX0_spread_16 (by decide) (by decide) rfl ?_ | refine V_iinc3 (nI 1) dX0_spread_16 (by decide) (by decide) rfl ?_
      refine V_goto 2 dX0_spread_19 (by decide) ?_
      exact ih _ (by omega) _ (p + 1) (by omega) (e1.wr _ _ (by decide)) (lt_s (fun x h1 => by rw [wr_j _ _ (by omega)]; exact e2 x h1) (wr_s _ _ _ _)) rfl
set_option maxRecDepth 4000 in
theorem m_X0_spread (G : GE) (h : Mem) (M pr : Nat → Nat) (sh : Nat → Bool) (l a b : Nat) (hl : l < 12) (D : Nat → Option Nat) (hB : Bell sh (wgt M pr l) b D) (hw : wtOK (wgt M pr l)) (hX : FX M pr sh l a b h) (ha : a < 100) (hb : b < 100) : Ct idsA G yX0_spread cX0_spread 6 none (rmD 4) [.ref (ad G 5), .ref (ad G 4), .ref (ad G (40 + l))] h (Qv fun h' => same [5, 13, 14] h h' ∧ (∀ j, j ≠ 3 → h' 5 j = h 5 j) ∧ ∃ lf, hasF lf h' ∧ spOK D a lf) := by
  refine Ct.of [some (.ref (ad G 5)), some (.ref (ad G 4)), some (.ref (ad G (40 + l))), none, none, none] (by decide) (Nat.le_of_ble_eq_true rfl) (lvE_ok 3 rfl) ?_
  refine V_iconst (nI 0) dX0_spread_0 (by decide) ?_
  refine V_istore3 dX0_spread_1 (by decide) rfl ?_
  refine l_X0_spread_1 G h h l 0 _ (by decide) same.rf (fun _ z => absurd z (Nat.not_lt_zero _)) (fun hc e1 e2 => ?_)
  refine V_aload0 dX0_spread_22 ?_
  refine V_iconst (nI 0) dX0_spread_23 (by decide) ?_
  refine pX0_73 dX0_spread_24 ?_
  refine V_aload0 dX0_spread_27 ?_
  refine V_aload2 dX0_spread_28 ?_
  refine gX0_38 (by first | assumption | omega) dX0_spread_29 ?_
  rw [wr_c _ _ _ (by omega), e1.at _ _ (by first | (simp; done) | (simp; omega)), hX.2.2.2.2.2]
  refine V_iconst (nI 0) dX0_spread_32 (by decide) ?_
  refine kX0_76 (m_X0_reach _ _ (fun _ => 0) 0 b 0 ⟨wr_s _ _ _ _, fun _ z => absurd z (Nat.not_lt_zero _), fun _ z => absurd z (Nat.not_lt_zero _)⟩ (fun _ _ z => absurd z (Nat.not_lt_zero _)) (by decide) hb (by omega)) (rOK_d (by decide) (by decide)) (Nat.le_of_ble_eq_true rfl) dX0_spread_33 (fun h33 hq33 => ?_)
  obtain ⟨s1, s2, s3, q2, s4, s5, s6⟩ := hq33
  refine V_iconst (nI 0) dX0_spread_36 (by decide) ?_
  refine V_istore3 dX0_spread_37 (by decide) rfl ?_
  have hkc : ∀ k, kc q2 1 k = if k = b then 1 else 0 := fun k => by
    have := s6 k
    rw [show kc (fun _ => 0) 0 k = 0 from rfl] at this
    simp only [Nat.zero_add, Nat.zero_mul] at this
    exact this
  have hup : ∀ x, x ≠ b → va_up (fun _ => 536870912) b 0 x = 536870912 := fun x hx => va_up_ne _ _ hx
  have hup0 : va_up (fun _ => 536870912) b 0 b = 0 := va_up_s _ _ _
  refine l_X0_spread G h _ M pr sh l a b hl D hB hw hX ha (fun _ => false) (va_up (fun _ => 536870912) b 0) q2 1 0 _ _ rfl (((e1.mono (by simp)).wr _ _ (by decide)).tr s1) ?_ ?_ s4 s5 ?_ rfl (by omega)
  · intro j hj
    rw [s3 j hj, wr_j _ _ hj, e1.at _ _ (by decide)]
  · refine ⟨fun x hx => ?_, fun x => ?_⟩
    · rw [s2]
      by_cases z : x = b
      · rw [z, hup0]; exact pk_us
      · rw [hup x z, pk_un z, wr_c _ _ _ (by decide)]; exact e2 x hx
    · by_cases z : x = b
      · rw [z, hup0]; decide
      · rw [hup x z]; exact Nat.le_refl _
  · refine ⟨fun x hx => ?_, fun x hx z => (by cases z), fun x hx z => (by cases z), fun x hx _ z => ?_, fun k hk => ?_, fun k => ?_, fun x hx z => (by cases z), hup0, fun x => ?_⟩
    · by_cases z : x = b
      · rw [z, hup0]; exact Or.inr ⟨by decide, 0, hB.1, Nat.le_refl _⟩
      · exact Or.inl (hup x z)
    · by_cases w : x = b
      · rw [w, hup0, hkc, if_pos (by omega)]; decide
      · rw [hup x w] at z; omega
    · rw [hkc] at hk
      by_cases z : k = b
      · rw [z, show b % 128 = b by omega, hup0]; exact ⟨hb, Nat.zero_le _, by omega⟩
      · rw [if_neg z] at hk; omega
    · rw [hkc]; split <;> omega
    · by_cases z : x = b
      · rw [z, hup0]; decide
      · rw [hup x z]; exact Nat.le_refl _
