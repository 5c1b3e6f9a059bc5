theorem okl_iff {sh : Nat → Bool} {wt lf : Nat → Nat} {g p d y z : Nat} {D : Nat → Option Nat} (hB : Bell sh wt g D) (hw : wtOK wt) (hp : p < 100) (hd : d < 4) (hpg : p ≠ g) (hz : D p = some z) (hlp : lf p = z) (hzy : z ≤ y) (hlf : ∀ t, t < 100 → (∀ x, D t = some x → x < y → lf t = x) ∧ (lf t = 536870912 ∨ ∃ x, D t = some x ∧ x ≤ lf t)) : okl wt lf p d ↔ okd wt D p d := by
  have hzm := hB.max hw hp hz
  have ho := (hB.2.2 p z hp hpg hz).1
  constructor
  · rintro ⟨q, hn, he⟩
    have hwt := hw (sA p q d)
    rcases (hlf q (nb_lt hp hn)).2 with h1 | ⟨x, hx, hxl⟩
    · omega
    · obtain ⟨y', hy', hyl⟩ := hB.2.1 p q d x hp hd hn ho hx
      rw [hz] at hy'
      cases hy'
      exact ⟨q, x, hn, hx, by rw [hz]; congr 1; omega⟩
  · rintro ⟨q, x, hn, hx, he⟩
    rw [hz] at he
    have he := Option.some.inj he
    have hwt := hw (sA p q d)
    have := (hlf q (nb_lt hp hn)).1 x hx (by omega)
    exact ⟨q, hn, by omega⟩
theorem getD_app {pre v : List Nat} {k : Nat} (h : k < pre.length) : (pre ++ v).getD k 0 = pre.getD k 0 := by
  rw [List.getD_eq_getElem?_getD, List.getD_eq_getElem?_getD, List.getElem?_append_left h]
theorem getD_mid {pre v : List Nat} {d : Nat} : (pre ++ d :: v).getD pre.length 0 = d := by
  rw [List.getD_eq_getElem?_getD, List.getElem?_append_right (Nat.le_refl _), Nat.sub_self]; rfl
set_option maxRecDepth 4000 in
theorem l_X0_findWay (G : GE) (h : Mem) (M pr : Nat → Nat) (sh : Nat → Bool) (l a b : Nat) (hl : l < 12) (D : Nat → Option Nat) (hB : Bell sh (wgt M pr l) b D) (hw : wtOK (wgt M pr l)) (hX : FX M pr sh l a b h) (hb : b < 100) (lf : Nat → Nat) (y : Nat) (hlf : ∀ t, t < 100 → (∀ x, D t = some x → x < y → lf t = x) ∧ (lf t = 536870912 ∨ ∃ x, D t = some x ∧ x ≤ lf t)) (Q : Option Value → Mem → Prop) : ∀ (v : List Nat) (pre : List Nat) (hc : Mem) (p z : Nat) (v5 : OV) (hp : p < 100) (hz : D p = some z) (hzl : lf p = z) (hzy : z ≤ y) (hv : isP (wgt M pr l) D b p v) (hlen : pre.length + v.length ≤ 99) (e1 : same [5, 13, 14, 15] h hc) (hF : hasF lf hc) (e4 : hc 5 4 = nI pre.length) (e5 : hc 5 5 = nI (y / 128)) (e6 : ∀ k, k < pre.length → hc 15 k = nI (pre.getD k 0)) (K : ∀ h', same [5, 13, 14, 15] h h' → (h' 5 4 = nI (pre ++ v).length ∧ h' 5 5 = nI (y / 128) ∧ ∀ k, k < (pre ++ v).length → h' 15 k = nI ((pre ++ v).getD k 0)) → Q (some (.int (nI 1))) h'), V idsA G RX0 cX0_findWay 6 (some .boolean) (rmD 5) 52 [some (.ref (ad G 5)), some (.ref (ad G 4)), some (.ref (ad G (40 + l))), some (.int (nI p)), some (.int (nI pre.length)), v5] [] hc Q := by
  intro v
  induction v with
  | nil =>
    intro pre hc p z v5 hp hz hzl hzy hv hlen e1 hF e4 e5 e6 K
    have hX' := (hX.same e1 (by decide) (by decide) (by decide) (by first | (simp; done) | (simp; omega)))
    have hpb : p = b := hv
    simp only [List.length_nil, Nat.add_zero] at hlen
    refine V_iload4 dX0_findWay_52 ?_
    refine V_bipush (nI 100) dX0_findWay_54 (by decide) ?_
    first | refine V_icmp_ge_n 117 dX0_findWay_56 (by decide) (by omega) (by omega) (fun c56 => ?_) (fun c56 => ?_) | refine V_icmp_ge 117 dX0_findWay_56 (by decide) (fun c56 => ?_) (fun c56 => ?_)
    · exact absurd c56 (by omega) --end
    · refine V_iload3 dX0_findWay_59 ?_
      first | refine V_if_lt_n 117 dX0_findWay_60 (by decide) (by omega) (fun c60 => ?_) (fun c60 => ?_) | refine V_if_lt 117 dX0_findWay_60 (by decide) (fun c60 => ?_) (fun c60 => ?_)
      · exact c60.elim --end
      · refine V_iload3 dX0_findWay_63 ?_
        refine V_aload2 dX0_findWay_64 ?_
        refine gX0_38 (by first | assumption | omega) dX0_findWay_65 ?_
        rw [hX'.2.2.2.2.2]
        first | refine V_icmp_eq_n 117 dX0_findWay_68 (by decide) (by omega) (by omega) (fun c68 => ?_) (fun c68 => ?_) | refine V_icmp_eq 117 dX0_findWay_68 (by decide) (fun c68 => ?_) (fun c68 => ?_)
        · refine V_iconst (nI 1) dX0_findWay_117 (by decide) ?_
          refine V_zret dX0_findWay_118 (nI_01 (Or.inr rfl)) ?_
          exact K hc e1 (by simp only [List.append_nil]; exact ⟨e4, e5, e6⟩)
        · exact absurd hpb c68 --end
  | cons d v ih =>
    intro pre hc p z v5 hp hz hzl hzy hv hlen e1 hF e4 e5 e6 K
    have hX' := (hX.same e1 (by decide) (by decide) (by decide) (by first | (simp; done) | (simp; omega)))
    obtain ⟨hpb, hd, hok, hlst, hv⟩ := hv
    obtain ⟨t, x, hn, hx, hxz⟩ := id hok
    have ht := nb_lt hp hn
    rw [stp_eq hn] at hv
    simp only [List.length_cons] at hlen
    have hwt := hw (sA p t d)
    rw [hz] at hxz
    replace hxz := Option.some.inj hxz
    refine V_iload4 dX0_findWay_52 ?_
    refine V_bipush (nI 100) dX0_findWay_54 (by decide) ?_
    first | refine V_icmp_ge_n 117 dX0_findWay_56 (by decide) (by omega) (by omega) (fun c56 => ?_) (fun c56 => ?_) | refine V_icmp_ge 117 dX0_findWay_56 (by decide) (fun c56 => ?_) (fun c56 => ?_)
    · exact absurd c56 (by omega) --end
    · refine V_iload3 dX0_findWay_59 ?_
      first | refine V_if_lt_n 117 dX0_findWay_60 (by decide) (by omega) (fun c60 => ?_) (fun c60 => ?_) | refine V_if_lt 117 dX0_findWay_60 (by decide) (fun c60 => ?_) (fun c60 => ?_)
      · exact c60.elim --end
      · refine V_iload3 dX0_findWay_63 ?_
        refine V_aload2 dX0_findWay_64 ?_
        refine gX0_38 (by first | assumption | omega) dX0_findWay_65 ?_
        rw [hX'.2.2.2.2.2]
        first | refine V_icmp_eq_n 117 dX0_findWay_68 (by decide) (by omega) (by omega) (fun c68 => ?_) (fun c68 => ?_) | refine V_icmp_eq 117 dX0_findWay_68 (by decide) (fun c68 => ?_) (fun c68 => ?_)
        · exact absurd c68 hpb --end
        · refine V_aload0 dX0_findWay_71 ?_
          refine V_aload1 dX0_findWay_72 ?_
          refine V_aload2 dX0_findWay_73 ?_
          refine V_iload3 dX0_findWay_74 ?_
          refine kX0_41 (m_X0_leastDirection _ _ M hX'.1 pr hX'.2.1 l p hl hX'.2.2.2.1 hp lf hF hw) (rOK_d (by decide) (by decide)) (Nat.le_of_ble_eq_true rfl) dX0_findWay_75 (fun r75 h75 hq75 => ?_)
          obtain ⟨e_, hres⟩ := hq75
          replace e_ := e_.symm
          subst e_
          have hiff : ∀ d', d' < 4 → (okl (wgt M pr l) lf p d' ↔ okd (wgt M pr l) D p d') := fun d' hd' => okl_iff hB hw hp hd' hpb hz hzl hzy hlf
          have hr : r75 = nI d := by
            rcases hres with ⟨d', hd', rfl, h1, h2⟩ | ⟨-, h1⟩
            · congr 1
              rcases Nat.lt_trichotomy d' d with w | w | w
              · exact absurd ((hiff d' hd').mp h1) (hlst d' w)
              · exact w
              · exact absurd ((hiff d hd).mpr hok) (h2 d w)
            · exact absurd ((hiff d hd).mpr hok) (h1 d hd)
          subst hr
          clear hres
          refine V_istore5 dX0_findWay_78 (by decide) rfl ?_
          refine V_iload5 dX0_findWay_80 ?_
          first | refine V_if_ge_n 87 dX0_findWay_82 (by decide) (by omega) (fun c82 => ?_) (fun c82 => ?_) | refine V_if_ge 87 dX0_findWay_82 (by decide) (fun c82 => ?_) (fun c82 => ?_)
          · refine V_aload0 dX0_findWay_87 ?_
            refine gX0_18 dX0_findWay_88 ?_
            refine V_iload4 dX0_findWay_91 ?_
            refine V_iload5 dX0_findWay_93 ?_
            refine V_iastore (by decide) aI_15 (by decide) rfl (by first | assumption | omega) dX0_findWay_95 ?_
            refine V_aload0 dX0_findWay_96 ?_
            refine V_iload4 dX0_findWay_97 ?_
            refine V_iconst (nI 1) dX0_findWay_99 (by decide) ?_
            first | refine V_iadd_n dX0_findWay_100 ?_ | refine V_iadd dX0_findWay_100 ?_
            refine pX0_25 dX0_findWay_101 ?_
            refine V_iload3 dX0_findWay_104 ?_
            refine V_iload5 dX0_findWay_105 ?_
            refine kX0_45 (m_X5_beside _ _ _ _ (by first | assumption | omega) (by first | assumption | omega)) (rOK_d (by decide) (by decide)) (Nat.le_of_ble_eq_true rfl) dX0_findWay_107 (fun r107 h107 hq107 => ?_)
            obtain ⟨e_, rfl⟩ := hq107
            replace e_ := e_.symm
            subst e_
            rw [hn]
            simp only [oI]
            refine V_istore3 dX0_findWay_110 (by decide) rfl ?_
            first | refine V_iinc4_n 1 dX0_findWay_111 (by decide) (by decide) rfl ?_ | refine V_iinc4 (nI 1) dX0_findWay_111 (by decide) (by decide) rfl ?_
            refine V_goto 52 dX0_findWay_114 (by decide) ?_
            have hlen2 : (pre ++ [d]).length = pre.length + 1 := by rw [List.length_append]; rfl
            rw [show pre.length + 1 = (pre ++ [d]).length from hlen2.symm]
            have happ : pre ++ d :: v = (pre ++ [d]) ++ v := by rw [List.append_assoc]; rfl
            refine ih (pre ++ [d]) _ t x _ ht hx ((hlf t ht).1 x hx (by omega)) (by omega) hv (by omega) ((e1.wr _ _ (by decide)).wr _ _ (by decide)) ?_ (wr_s _ _ _ _) ?_ ?_ ?_
            · exact (hF.same (same.rf.wr (cs := [15]) _ _ (by decide)) (by decide)).same (same.rf.wr (cs := [5]) _ _ (by decide)) (by decide)
            · rw [wr_j _ _ (by decide), wr_c _ _ _ (by decide)]; exact e5
            · intro k hk
              rw [wr_c _ _ _ (by decide)]
              by_cases z2 : k = pre.length
              · rw [z2, wr_s, getD_mid]
              · rw [wr_j _ _ z2, getD_app (by omega)]
                exact e6 k (by omega)
            · intro h' h1 h2
              rw [← happ] at h2
              exact K h' h1 h2
          · exact c82.elim --end
set_option maxRecDepth 4000 in
theorem m_X0_findWay (G : GE) (h : Mem) (M pr : Nat → Nat) (sh : Nat → Bool) (l a b : Nat) (hl : l < 12) (D : Nat → Option Nat) (hB : Bell sh (wgt M pr l) b D) (hw : wtOK (wgt M pr l)) (hX : FX M pr sh l a b h) (ha : a < 100) (hb : b < 100) : Ct idsA G yX0_findWay cX0_findWay 6 (some .boolean) (rmD 5) [.ref (ad G 5), .ref (ad G 4), .ref (ad G (40 + l))] h (Qi fun r h' => same [5, 13, 14, 15] h h' ∧ ((D a = none ∧ r = 0) ∨ ∃ y w, D a = some y ∧ isP (wgt M pr l) D b a w ∧ w.length ≤ 99 ∧ r = 1 ∧ h' 5 4 = nI w.length ∧ h' 5 5 = nI (y / 128) ∧ ∀ k, k < w.length → h' 15 k = nI (w.getD k 0))) := by
  refine Ct.of [some (.ref (ad G 5)), some (.ref (ad G 4)), some (.ref (ad G (40 + l))), none, none, none] (by decide) (Nat.le_of_ble_eq_true rfl) (lvE_ok 3 rfl) ?_
  refine V_aload0 dX0_findWay_0 ?_
  refine V_aload1 dX0_findWay_1 ?_
  refine V_aload2 dX0_findWay_2 ?_
  refine kX0_21 (m_X0_spread _ _ M pr sh l a b hl D hB hw hX ha hb) (rOK_d (by decide) (by decide)) (Nat.le_of_ble_eq_true rfl) dX0_findWay_3 (fun h3 hq3 => ?_)
  obtain ⟨s1, s2, lf, hF, hsp⟩ := hq3
  have s1' : same [5, 13, 14, 15] h (wr h3 5 4 (nI 0)) := (s1.mono (by simp)).wr _ _ (by decide)
  have hX' := hX.same s1' (by decide) (by decide) (by decide) (by first | (simp; done) | (simp; omega))
  have hF' : hasF lf (wr h3 5 4 (nI 0)) := hF.same (same.rf.wr (cs := [5]) _ _ (by decide)) (by decide)
  have hfa := hF.2 a
  refine V_aload0 dX0_findWay_6 ?_
  refine V_iconst (nI 0) dX0_findWay_7 (by decide) ?_
  refine pX0_25 dX0_findWay_8 ?_
  refine V_aload0 dX0_findWay_11 ?_
  refine gX0_9 dX0_findWay_12 ?_
  refine V_aload2 dX0_findWay_15 ?_
  refine gX0_29 (by first | assumption | omega) dX0_findWay_16 ?_
  rw [hX'.2.2.2.2.1]
  refine V_iaload (by decide) aI_13 (by decide) rfl (by first | assumption | omega) dX0_findWay_19 ?_
  rw [hF'.1 a ha]
  refine V_ldc ct_X0_34 dX0_findWay_20 ?_
  first | refine V_icmp_lt_n 27 dX0_findWay_22 (by decide) (by omega) (by omega) (fun c22 => ?_) (fun c22 => ?_) | refine V_icmp_lt 27 dX0_findWay_22 (by decide) (fun c22 => ?_) (fun c22 => ?_)
  · obtain ⟨y, hy, hya, hlf⟩ : ∃ y, D a = some y ∧ lf a = y ∧ ∀ p, p < 100 → (∀ z, D p = some z → z < y → lf p = z) ∧ (lf p = 536870912 ∨ ∃ z, D p = some z ∧ z ≤ lf p) := by
      rcases hsp with ⟨-, h2⟩ | h1
      · omega
      · exact h1
    obtain ⟨w, hw1, hw2⟩ := isP_ex hB hw y a ha hy
    have hw3 := rnk_le ha hy
    refine V_aload0 dX0_findWay_27 ?_
    refine V_aload0 dX0_findWay_28 ?_
    refine gX0_9 dX0_findWay_29 ?_
    refine V_aload2 dX0_findWay_32 ?_
    refine gX0_29 (by first | assumption | omega) dX0_findWay_33 ?_
    rw [hX'.2.2.2.2.1]
    refine V_iaload (by decide) aI_13 (by decide) rfl (by first | assumption | omega) dX0_findWay_36 ?_
    rw [hF'.1 a ha]
    refine V_sipush (nI 128) dX0_findWay_37 (by decide) ?_
    first | refine V_idiv_n dX0_findWay_40 (by omega) (by omega) (by omega) ?_ | refine V_idiv dX0_findWay_40 (by decide) ?_
    refine pX0_35 dX0_findWay_41 ?_
    refine V_aload2 dX0_findWay_44 ?_
    refine gX0_29 (by first | assumption | omega) dX0_findWay_45 ?_
    rw [wr_c _ _ _ (by omega), hX'.2.2.2.2.1]
    refine V_istore3 dX0_findWay_48 (by decide) rfl ?_
    refine V_iconst (nI 0) dX0_findWay_49 (by decide) ?_
    refine V_istore4 dX0_findWay_50 (by decide) rfl ?_
    refine l_X0_findWay G h M pr sh l a b hl D hB hw hX hb lf y hlf _ w [] _ a y _ ha hy hya (Nat.le_refl _) hw1 (by simp only [List.length_nil]; omega) (s1'.wr _ _ (by decide)) (hF'.same (same.rf.wr (cs := [5]) _ _ (by decide)) (by decide)) ?_ ?_ (fun _ z => absurd z (Nat.not_lt_zero _)) ?_
    · rw [wr_j _ _ (by decide), wr_s]; rfl
    · rw [wr_s, hya]
    · intro h' h1 h2
      exact ⟨nI 1, rfl, h1, Or.inr ⟨y, w, hy, hw1, by omega, by decide, h2⟩⟩
  · refine V_iconst (nI 0) dX0_findWay_25 (by decide) ?_
    refine V_zreti dX0_findWay_26 (by first | exact bz_01 | exact nI_01 (Or.inl rfl) | exact nI_01 (Or.inr rfl) | assumption) ?_
    refine ⟨s1', Or.inl ⟨?_, nI_0⟩⟩
    rcases hsp with ⟨h1, -⟩ | ⟨y, h1, h2, -⟩
    · exact h1
    · have := hB.max hw ha h1
      omega
