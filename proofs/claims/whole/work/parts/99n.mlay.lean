set_option maxRecDepth 4000 in
theorem m_X6_lay (G : GE) (h : Mem) (S : St) (i : Ok S) (a : RB S h) (x s j n : Int32) : Ct idsB G yX6_lay cX6_lay 10 (some .int) (rmD 3) [.ref (ad G 100), .int x, .int s, .int j, .int n] h (Qi fun rv h' => rv = (O_lay S x s j n).1 ∧ RB (O_lay S x s j n).2 h') := by
  refine Ct.of [some (.ref (ad G 100)), some (.int x), some (.int s), some (.int j), some (.int n), none, none, none, none, none] (by decide) (Nat.le_of_ble_eq_true rfl) (lvE_ok 5 rfl) ?_
  refine V_aload0 dX6_lay_0 ?_
  refine V_iconst (nI 0) dX6_lay_1 (by decide) ?_
  refine pX6_62 dX6_lay_2 ?_
  replace a := a.th (nI 0)
  generalize wr h 100 0 (nI 0) = g at a ⊢
  refine V_aload0 dX6_lay_5 ?_
  refine V_iload1 dX6_lay_6 ?_
  refine kX6_128 (m_X6_isLine _ _ S.2.1 i.1 a.2.1 _) (rOK_d (by decide) (by decide)) (Nat.le_of_ble_eq_true rfl) dX6_lay_7 (fun r7 h7 hq7 => ?_)
  obtain ⟨e_, rfl⟩ := hq7
  replace e_ := e_.symm
  subst e_
  first | refine V_if_eq_z 33 dX6_lay_10 (by decide) (fun c10 => ?_) (fun c10 => ?_) | refine V_if_eq_n 33 dX6_lay_10 (by decide) (by omega) (fun c10 => ?_) (fun c10 => ?_) | refine V_if_eq 33 dX6_lay_10 (by decide) (fun c10 => ?_) (fun c10 => ?_)
  · refine V_ldc ct_X6_82 dX6_lay_33 ?_
    refine V_ireti dX6_lay_35 ?_
    rw [O_lay, ite_f (show ¬ (inR x (nNl S.2.1) ∧ inR s 8 ∧ nI 1 ≤ n ∧ n ≤ nI 40) from fun z => by first | exact c10 z.1 | exact c17 z.2.1 | exact c30 z.2.2)]
    exact ⟨rfl, a⟩
  · refine V_iload2 dX6_lay_13 ?_
    refine kX6_76 (m_X6_isSheet _ _ _) (rOK_d (by decide) (by decide)) (Nat.le_of_ble_eq_true rfl) dX6_lay_14 (fun r14 h14 hq14 => ?_)
    obtain ⟨e_, rfl⟩ := hq14
    replace e_ := e_.symm
    subst e_
    first | refine V_if_eq_z 33 dX6_lay_17 (by decide) (fun c17 => ?_) (fun c17 => ?_) | refine V_if_eq_n 33 dX6_lay_17 (by decide) (by omega) (fun c17 => ?_) (fun c17 => ?_) | refine V_if_eq 33 dX6_lay_17 (by decide) (fun c17 => ?_) (fun c17 => ?_)
    · refine V_ldc ct_X6_82 dX6_lay_33 ?_
      refine V_ireti dX6_lay_35 ?_
      rw [O_lay, ite_f (show ¬ (inR x (nNl S.2.1) ∧ inR s 8 ∧ nI 1 ≤ n ∧ n ≤ nI 40) from fun z => by first | exact c10 z.1 | exact c17 z.2.1 | exact c30 z.2.2)]
      exact ⟨rfl, a⟩
    · refine V_iload4 dX6_lay_20 ?_
      refine V_i2l dX6_lay_22 ?_
      refine V_lconst 1 dX6_lay_23 (by decide) ?_
      refine V_ldc2_w ct_X6_141 dX6_lay_24 ?_
      refine kX6_72 (m_X6_in _ _ _ _ _) (rOK_d (by decide) (by decide)) (Nat.le_of_ble_eq_true rfl) dX6_lay_27 (fun r27 h27 hq27 => ?_)
      obtain ⟨e_, rfl⟩ := hq27
      replace e_ := e_.symm
      subst e_
      rw [bz_c (in_r n (p := nI 1) (q := nI 40) (by decide) (by decide))]
      first | refine V_if_ne_z 36 dX6_lay_30 (by decide) (fun c30 => ?_) (fun c30 => ?_) | refine V_if_ne_n 36 dX6_lay_30 (by decide) (by omega) (fun c30 => ?_) (fun c30 => ?_) | refine V_if_ne 36 dX6_lay_30 (by decide) (fun c30 => ?_) (fun c30 => ?_)
      · have hg : inR x (nNl S.2.1) ∧ inR s 8 ∧ nI 1 ≤ n ∧ n ≤ nI 40 := ⟨c10, c17, c30⟩
        have hnl := i.1.nl
        have hnp := i.1.np
        obtain ⟨l, hl, rfl⟩ := (inR_iff (by omega)).mp c10
        have kl := cl_nI (show l < 2 ^ 31 by omega)
        obtain ⟨s', hs', rfl⟩ := (inR_iff (by decide)).mp c17
        have ks := cl_nI (show s' < 2 ^ 31 by omega)
        obtain ⟨l1, l2⟩ := ln_neg a.1 hs'
        have hab := i.1.ab hl
        have hn0 : ¬ n < 0 := fun z => i_le_n (show (0 : Int32) ≤ n from Int32.le_trans (by decide) c30.1) z
        refine V_aload0 dX6_lay_36 ?_
        refine gX6_7 dX6_lay_37 ?_
        refine V_iload2 dX6_lay_40 ?_
        refine V_iaload (by decide) aI_102 (by decide) rfl (by first | assumption | omega) dX6_lay_41 ?_
        rw [l1]
        first | refine V_if_ge_n 51 dX6_lay_42 (by decide) (by omega) (fun c42 => ?_) (fun c42 => ?_) | refine V_if_ge 51 dX6_lay_42 (by decide) (fun c42 => ?_) (fun c42 => ?_)
        · have hn : ¬ S.1.1 s' = -1 := fun z => i_le_n c42 (l2.mpr z)
          obtain ⟨y1, y2, y3, y4, y5⟩ := (a.1 s' hs').resolve_left (fun z => hn z.1)
          refine V_iload3 dX6_lay_51 ?_
          first | refine V_if_lt_n 72 dX6_lay_52 (by decide) (by omega) (fun c52 => ?_) (fun c52 => ?_) | refine V_if_lt 72 dX6_lay_52 (by decide) (fun c52 => ?_) (fun c52 => ?_)
          · refine V_aload0 dX6_lay_72 ?_
            refine V_iconst (nI 2) dX6_lay_73 (by decide) ?_
            refine kX6_83 (m_X6_found _ _ _) (rOK_d (by decide) (by decide)) (Nat.le_of_ble_eq_true rfl) dX6_lay_74 (fun r74 h74 hq74 => ?_)
            obtain ⟨e_, rfl⟩ := hq74
            replace e_ := e_.symm
            subst e_
            refine V_ireti dX6_lay_77 ?_
            rw [O_lay, ite_t hg, ks, ite_f hn, ite_f (fun z => by first | exact i_le_n z.1 c52 | exact (cp_gt y2 c52 hn0).mp (i_nle c69) z)]
            exact ⟨rfl, a.st 2⟩
          · refine V_iload3 dX6_lay_55 ?_
            refine V_i2l dX6_lay_56 ?_
            refine V_iload4 dX6_lay_57 ?_
            refine V_i2l dX6_lay_59 ?_
            refine V_ladd dX6_lay_60 ?_
            refine V_aload0 dX6_lay_61 ?_
            refine gX6_13 dX6_lay_62 ?_
            refine V_iload2 dX6_lay_65 ?_
            refine V_iaload (by decide) aI_103 (by decide) rfl (by first | assumption | omega) dX6_lay_66 ?_
            rw [y4]
            refine V_i2l dX6_lay_67 ?_
            refine V_lcmp dX6_lay_68 ?_
            refine V_if_le 78 dX6_lay_69 (by decide) (fun c69 => ?_) (fun c69 => ?_)
            · skip
              have hh : hld (S.1.2.1 s') j n := Classical.byContradiction (fun z => i_lt_n ((cp_gt y2 c52 hn0).mpr z) c69)
              obtain ⟨j', n', rfl, rfl, hjn⟩ := (hld_iff y2).mp hh
              have kj := cl_nI (show j' < 2 ^ 31 by omega)
              have kn := cl_nI (show n' < 2 ^ 31 by omega)
              have hn40 : n' ≤ 40 := by
                have z := c30.2
                rw [fa_le, nI_toInt (by omega), nI_toInt (by decide)] at z
                omega
              refine V_iconst (nI 0) dX6_lay_78 (by decide) ?_
              refine V_istore5 dX6_lay_79 (by decide) rfl ?_
              refine l_X6_lay_1 G g g l s' j' n' 0 _ (by decide) same.rf (fun _ z => absurd z (Nat.not_lt_zero _)) (fun h1 s1 z1 => ?_)
              have a1 := a.same s1 (by unfold offB; decide)
              have hst : nPp S.2.1 (nLa S.2.1 l) < 100 := i.1.st hl
              have hgl : nPp S.2.1 (nLb S.2.1 l) < 100 := i.1.gl hl
              refine V_aload0 dX6_lay_102 ?_
              refine gX6_23 dX6_lay_103 ?_
              refine V_aload0 dX6_lay_106 ?_
              refine gX6_26 dX6_lay_107 ?_
              refine V_iload1 dX6_lay_110 ?_
              refine V_iaload (by decide) aI_109 (by decide) rfl (by omega) dX6_lay_111 ?_
              rw [(a1.2.1.2.2.2.2.1 l hl).1]
              refine V_iaload (by decide) aI_107 (by decide) rfl (by omega) dX6_lay_112 ?_
              rw [a1.2.1.2.2.1 _ hab.1]
              refine V_istore5 dX6_lay_113 (by decide) rfl ?_
              refine V_iconst (nI 1) dX6_lay_115 (by decide) ?_
              refine V_istore6 dX6_lay_116 (by decide) rfl ?_
              refine V_iconst (nI 0) dX6_lay_118 (by decide) ?_
              refine V_istore7 dX6_lay_119 (by decide) rfl ?_
              refine l_X6_lay_2 G h1 h1 S.2.1 a1.2.1 l s' j' n' hs' (by omega) (dsL (S.1.2.2 s') j' n') (dsL_len _ _ _) (fun k hk => by
                rw [dsL_at hk, s1 104 (by decide), show 60 * s' + j' + k = 60 * s' + (j' + k) by omega]
                exact y5 _ (by omega)) _ _ (fun h2 gd p2 o7 o8 o9 s2 hr2 => ?_) [] (nSt S.2.1 l) hst [] _ rfl rfl same.rf (fun t ht => z1 t ht) none none
              have a2 := a1.same s2 (by unfold offB; decide)
              refine V_iload6 dX6_lay_260 ?_
              first | refine V_if_eq_z 281 dX6_lay_262 (by decide) (fun c262 => ?_) (fun c262 => ?_) | refine V_if_eq_n 281 dX6_lay_262 (by decide) (by omega) (fun c262 => ?_) (fun c262 => ?_) | refine V_if_eq 281 dX6_lay_262 (by decide) (fun c262 => ?_) (fun c262 => ?_)
              · obtain ⟨-, hrn⟩ := hr2.resolve_right (fun z => absurd (z.1.symm.trans c262) (by decide))
                refine V_ldc ct_X6_82 dX6_lay_281 ?_
                refine V_ireti dX6_lay_283 ?_
                rw [O_lay, ite_t hg, ks, kl, kj, kn, ite_f hn, ite_t hh, ite_f (fun z => by first | exact absurd (hrn.symm.trans z) (by simp) | exact c278 (Option.some.inj (hrs.symm.trans z)))]
                exact ⟨rfl, a2⟩
              · obtain ⟨rfl, hrs, hp2⟩ := hr2.resolve_left (fun z => c262 z.1)
                refine V_iload5 dX6_lay_265 ?_
                refine V_aload0 dX6_lay_267 ?_
                refine gX6_23 dX6_lay_268 ?_
                refine V_aload0 dX6_lay_271 ?_
                refine gX6_29 dX6_lay_272 ?_
                refine V_iload1 dX6_lay_275 ?_
                refine V_iaload (by decide) aI_110 (by decide) rfl (by omega) dX6_lay_276 ?_
                rw [(a2.2.1.2.2.2.2.1 l hl).2]
                refine V_iaload (by decide) aI_107 (by decide) rfl (by omega) dX6_lay_277 ?_
                rw [a2.2.1.2.2.1 _ hab.2.1]
                first | refine V_icmp_eq_n 284 dX6_lay_278 (by decide) (by omega) (by omega) (fun c278 => ?_) (fun c278 => ?_) | refine V_icmp_eq 284 dX6_lay_278 (by decide) (fun c278 => ?_) (fun c278 => ?_)
                · have hwk : wk (nSh S.2.1) [nSt S.2.1 l] (nSt S.2.1 l) (dsL (S.1.2.2 s') j' n') = some (nGl S.2.1 l) := hrs.trans (congrArg some c278)
                  obtain ⟨hwy, hwv⟩ := wk_ok i.1 hl hwk
                  rw [dsL_len] at hwv
                  have hWl : ((dsL (S.1.2.2 s') j' n').map cl).length = n' := by rw [List.length_map, dsL_len]
                  refine V_aload0 dX6_lay_284 ?_
                  refine V_iconst (nI 0) dX6_lay_285 (by decide) ?_
                  refine pX6_66 dX6_lay_286 ?_
                  replace a2 := a2.st 0
                  generalize wr h2 100 1 (nI 0) = g1 at a2 ⊢
                  refine V_aload0 dX6_lay_289 ?_
                  refine V_iload1 dX6_lay_290 ?_
                  refine kX6_131 (m_X6_wipe _ _ l (by omega)) (rOK_d (by decide) (by decide)) (Nat.le_of_ble_eq_true rfl) dX6_lay_291 (fun h291 hq291 => ?_)
                  obtain ⟨t1, t2, t3, t4, t5⟩ := hq291
                  have r4 := RBn_wipe i.1 a2.2.1 t1 t2 t3 t4 t5
                  have i1 : Inv (setW S.2.1 l []) := i.1.set hl (Or.inl rfl)
                  have hwz : nWy (setW S.2.1 l []) l = [] := va_up_s _ _ _
                  refine V_aload0 dX6_lay_294 ?_
                  refine gX6_23 dX6_lay_295 ?_
                  refine V_aload0 dX6_lay_298 ?_
                  refine gX6_26 dX6_lay_299 ?_
                  refine V_iload1 dX6_lay_302 ?_
                  refine V_iaload (by decide) aI_109 (by decide) rfl (by omega) dX6_lay_303 ?_
                  rw [show h291 109 l = nI (nLa S.2.1 l) from (r4.2.2.2.2.1 l hl).1]
                  refine V_iaload (by decide) aI_107 (by decide) rfl (by omega) dX6_lay_304 ?_
                  rw [show h291 107 (nLa S.2.1 l) = nI (nPp S.2.1 (nLa S.2.1 l)) from r4.2.2.1 _ hab.1]
                  refine V_istore5 dX6_lay_305 (by decide) rfl ?_
                  refine V_iconst (nI 0) dX6_lay_307 (by decide) ?_
                  refine V_istore7 dX6_lay_308 (by decide) rfl ?_
                  have hz5 : RBn (setW (setW S.2.1 l []) l []) (wr h291 111 l (nI 0)) := by
                    rw [set_set]
                    have e := (r4.2.2.2.2.2.1 l (by omega)).1
                    rw [hwz] at e
                    rw [show nI 0 = h291 111 l from e.symm, wr_id]
                    exact r4
                  have hz := fun K o8 => l_X6_lay_3 G h291 h291 (setW S.2.1 l []) i1 l s' j' (by omega) hs' ((dsL (S.1.2.2 s') j' n').map cl) (by omega) (nI 1) o9 (fun k hk => by
                    rw [hWl] at hk
                    rw [t1 104 (by decide), ← hwv k hk, dsL_at hk, show 60 * s' + j' + k = 60 * s' + (j' + k) by omega]
                    obtain ⟨x1, x2, x3, x4, x5⟩ := (a2.1 s' hs').resolve_left (fun z => hn z.1)
                    exact x5 _ (show j' + k < S.1.2.1 s' by omega)) (Qi fun rv h' => rv = (O_lay S (nI l) (nI s') (nI j') (nI n')).1 ∧ RB (O_lay S (nI l) (nI s') (nI j') (nI n')).2 h') K [] ((dsL (S.1.2.2 s') j' n').map cl) (nSt S.2.1 l) hst rfl hwy.1 rfl same.rf hz5 o8
                  rw [hWl] at hz
                  refine hz (fun h8 p8 o8 s8 r8 => ?_) _
                  rw [set_set] at r8
                  refine V_aload0 dX6_lay_381 ?_
                  refine gX6_32 dX6_lay_382 ?_
                  refine V_iload1 dX6_lay_385 ?_
                  refine V_iload4 dX6_lay_386 ?_
                  refine V_iastore (by decide) aI_111 (by decide) rfl (by omega) dX6_lay_388 ?_
                  refine V_iconst (nI 1) dX6_lay_389 (by decide) ?_
                  refine V_ireti dX6_lay_390 ?_
                  have s9 : same [111, 112, 113] g1 (wr h8 111 l (nI n')) := same.wr (fun c hcc => by rw [s8 c (fun z => hcc (by simp at z ⊢; omega)), t1 c (fun z => hcc (by simp at z ⊢; omega))]) _ _ (by decide)
                  rw [O_lay, ite_t hg, ks, kl, kj, kn, ite_f hn, ite_t hh, ite_t hwk]
                  exact ⟨rfl, RB_net a2 r8 (s9 _ (by decide)) (s9 _ (by decide)) (s9 _ (by decide)) (s9 _ (by decide)) (by rw [s9 100 (by decide)]) (by rw [s9 100 (by decide)])⟩
                · refine V_ldc ct_X6_82 dX6_lay_281 ?_
                  refine V_ireti dX6_lay_283 ?_
                  rw [O_lay, ite_t hg, ks, kl, kj, kn, ite_f hn, ite_t hh, ite_f (fun z => by first | exact absurd (hrn.symm.trans z) (by simp) | exact c278 (Option.some.inj (hrs.symm.trans z)))]
                  exact ⟨rfl, a2⟩
            · skip
              refine V_aload0 dX6_lay_72 ?_
              refine V_iconst (nI 2) dX6_lay_73 (by decide) ?_
              refine kX6_83 (m_X6_found _ _ _) (rOK_d (by decide) (by decide)) (Nat.le_of_ble_eq_true rfl) dX6_lay_74 (fun r74 h74 hq74 => ?_)
              obtain ⟨e_, rfl⟩ := hq74
              replace e_ := e_.symm
              subst e_
              refine V_ireti dX6_lay_77 ?_
              rw [O_lay, ite_t hg, ks, ite_f hn, ite_f (fun z => by first | exact i_le_n z.1 c52 | exact (cp_gt y2 c52 hn0).mp (i_nle c69) z)]
              exact ⟨rfl, a.st 2⟩
        · refine V_aload0 dX6_lay_45 ?_
          refine V_iconst (nI 1) dX6_lay_46 (by decide) ?_
          refine kX6_83 (m_X6_found _ _ _) (rOK_d (by decide) (by decide)) (Nat.le_of_ble_eq_true rfl) dX6_lay_47 (fun r47 h47 hq47 => ?_)
          obtain ⟨e_, rfl⟩ := hq47
          replace e_ := e_.symm
          subst e_
          refine V_ireti dX6_lay_50 ?_
          rw [O_lay, ite_t hg, ks, ite_t (l2.mp (i_nle c42))]
          exact ⟨rfl, a.st 1⟩
      · refine V_ldc ct_X6_82 dX6_lay_33 ?_
        refine V_ireti dX6_lay_35 ?_
        rw [O_lay, ite_f (show ¬ (inR x (nNl S.2.1) ∧ inR s 8 ∧ nI 1 ≤ n ∧ n ≤ nI 40) from fun z => by first | exact c10 z.1 | exact c17 z.2.1 | exact c30 z.2.2)]
        exact ⟨rfl, a⟩
