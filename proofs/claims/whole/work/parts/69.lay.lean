/-! laying a way -/
theorem wk_way {sh : Nat → Bool} {g : Nat} : ∀ {xs : List Int32} {vis : List Nat} {p : Nat}, p < 100 → p ∈ vis → wk sh vis p xs = some g → okW p (xs.map cl) ∧ endW p (xs.map cl) = g ∧ (∀ t ∈ plW p (xs.map cl), t = p ∨ (t < 100 ∧ sh t = false ∧ t ∉ vis)) ∧ (plW p (xs.map cl)).Nodup ∧ ∀ k, k < xs.length → xs.getD k 0 = nI ((xs.map cl).getD k 0)
  | [], vis, p, hp, hv, h => by
    rw [wk] at h
    refine ⟨trivial, Option.some.inj h, fun t ht => ?_, by simp [plW], fun k hk => absurd hk (Nat.not_lt_zero _)⟩
    simp [plW] at ht
    exact Or.inl ht
  | x :: xs, vis, p, hp, hv, h => by
    by_cases hx : inR x 4
    · obtain ⟨d, hd, rfl⟩ := (inR_iff (by decide)).mp hx
      rw [wk_step hd] at h
      cases e : nb p d with
      | none => rw [e] at h; cases h
      | some q =>
        rw [e] at h
        have h : (if sh q = true ∨ q ∈ vis then none else wk sh (q :: vis) q xs) = some g := h
        by_cases z : sh q = true ∨ q ∈ vis
        · rw [if_pos z] at h; cases h
        · rw [if_neg z] at h
          have hq := nb_lt hp e
          obtain ⟨a1, a2, a3, a4, a5⟩ := wk_way hq List.mem_cons_self h
          have kd := cl_nI (show d < 2 ^ 31 by omega)
          have hqs : sh q = false := Bool.eq_false_iff.mpr (fun y => z (Or.inl y))
          have hqv : q ∉ vis := fun y => z (Or.inr y)
          rw [List.map_cons, kd]
          have htl : ∀ t ∈ plW q (xs.map cl), t < 100 ∧ sh t = false ∧ t ∉ vis := fun t ht => by
            rcases a3 t ht with y | ⟨y1, y2, y3⟩
            · rw [y]; exact ⟨hq, hqs, hqv⟩
            · exact ⟨y1, y2, fun w => y3 (List.mem_cons_of_mem _ w)⟩
          refine ⟨⟨hd, by rw [stp_eq e]; exact e, by rw [stp_eq e]; exact a1⟩, ?_, ?_, ?_, ?_⟩
          · show endW (stp p d) _ = g
            rw [stp_eq e]; exact a2
          · intro t ht
            rw [plW, stp_eq e] at ht
            rcases List.mem_cons.mp ht with y | y
            · exact Or.inl y
            · exact Or.inr (htl t y)
          · rw [plW, stp_eq e]
            exact List.nodup_cons.mpr ⟨fun y => (htl p y).2.2 hv, a4⟩
          · intro k hk
            cases k with
            | zero => rfl
            | succ k => exact a5 k (by simpa using hk)
    · rw [wk_bad hx] at h; cases h
def dsL (f : Nat → Int32) (j n : Nat) : List Int32 := (List.range n).map (fun k => f (j + k))
theorem dsL_len (f : Nat → Int32) (j n : Nat) : (dsL f j n).length = n := by simp [dsL]
theorem dsL_at {f : Nat → Int32} {j n k : Nat} (hk : k < n) : (dsL f j n).getD k 0 = f (j + k) := by
  rw [dsL, List.getD_eq_getElem?_getD, List.getElem?_map, List.getElem?_range hk]; rfl
noncomputable def O_lay (S : St) (x s i n : Int32) : Int32 × St := ite' (inR x (nNl S.2.1) ∧ inR s 8 ∧ nI 1 ≤ n ∧ n ≤ nI 40) (ite' (S.1.1 (cl s) = -1) (fnd S 1) (ite' (hld (S.1.2.1 (cl s)) i n) (ite' (wk (nSh S.2.1) [nSt S.2.1 (cl x)] (nSt S.2.1 (cl x)) (dsL (S.1.2.2 (cl s)) (cl i) (cl n)) = some (nGl S.2.1 (cl x))) (nI 1, (S.1, setW S.2.1 (cl x) ((dsL (S.1.2.2 (cl s)) (cl i) (cl n)).map cl), S.2.2.1, 0)) (-1000001, S)) (fnd S 2))) (-1000001, S)
theorem wk_ok {N : Ng} (i : Inv N) {l : Nat} (hl : l < nNl N) {xs : List Int32} (h : wk (nSh N) [nSt N l] (nSt N l) xs = some (nGl N l)) : okWay (nSh N) (nSt N l) (nGl N l) (xs.map cl) ∧ ∀ k, k < xs.length → xs.getD k 0 = nI ((xs.map cl).getD k 0) := by
  obtain ⟨a1, a2, a3, a4, a5⟩ := wk_way (i.st hl) List.mem_cons_self h
  refine ⟨⟨a1, a2, a4, fun t ht => ?_⟩, a5⟩
  rcases a3 t ht with y | ⟨y1, y2, -⟩
  · rw [y]; exact ⟨i.st hl, (i.pt (i.ab hl).1).2⟩
  · exact ⟨y1, y2⟩
set_option maxRecDepth 4000 in
theorem m_X5_lay (G : GE) (h : Mem) (S : St) (i : Ok S) (a : RA S h) (x s j n : Int32) : Ct idsA G yX5_lay cX5_lay 6 (some .int) (rmD 5) [.ref (ad G 0), .int x, .int s, .int j, .int n] h (Qi fun rv h' => rv = (O_lay S x s j n).1 ∧ RA (O_lay S x s j n).2 h') := by
  refine Ct.of [some (.ref (ad G 0)), some (.int x), some (.int s), some (.int j), some (.int n), none] (by decide) (Nat.le_of_ble_eq_true rfl) (lvE_ok 1 rfl) ?_
  refine V_aload0 dX5_lay_0 ?_
  refine V_iload1 dX5_lay_1 ?_
  refine kX5_141 (m_X5_isLine _ _ S.2.1 i.1 a.2.1 _) (rOK_d (by decide) (by decide)) (Nat.le_of_ble_eq_true rfl) dX5_lay_2 (fun r2 h2 hq2 => ?_)
  obtain ⟨e_, rfl⟩ := hq2
  replace e_ := e_.symm
  subst e_
  first | refine V_if_eq_z 28 dX5_lay_5 (by decide) (fun c5 => ?_) (fun c5 => ?_) | refine V_if_eq_n 28 dX5_lay_5 (by decide) (by omega) (fun c5 => ?_) (fun c5 => ?_) | refine V_if_eq 28 dX5_lay_5 (by decide) (fun c5 => ?_) (fun c5 => ?_)
  · refine V_ldc ct_X5_57 dX5_lay_28 ?_
    refine V_ireti dX5_lay_30 ?_
    rw [O_lay, ite_f (show ¬ (inR x (nNl S.2.1) ∧ inR s 8 ∧ nI 1 ≤ n ∧ n ≤ nI 40) from fun z => by first | exact c5 z.1 | exact c12 z.2.1 | exact i_lt_n c18 z.2.2.1 | exact c25 z.2.2.2)]
    exact ⟨rfl, a⟩
  · refine V_iload2 dX5_lay_8 ?_
    refine kX5_53 (m_X5_isSheet _ _ _) (rOK_d (by decide) (by decide)) (Nat.le_of_ble_eq_true rfl) dX5_lay_9 (fun r9 h9 hq9 => ?_)
    obtain ⟨e_, rfl⟩ := hq9
    replace e_ := e_.symm
    subst e_
    first | refine V_if_eq_z 28 dX5_lay_12 (by decide) (fun c12 => ?_) (fun c12 => ?_) | refine V_if_eq_n 28 dX5_lay_12 (by decide) (by omega) (fun c12 => ?_) (fun c12 => ?_) | refine V_if_eq 28 dX5_lay_12 (by decide) (fun c12 => ?_) (fun c12 => ?_)
    · refine V_ldc ct_X5_57 dX5_lay_28 ?_
      refine V_ireti dX5_lay_30 ?_
      rw [O_lay, ite_f (show ¬ (inR x (nNl S.2.1) ∧ inR s 8 ∧ nI 1 ≤ n ∧ n ≤ nI 40) from fun z => by first | exact c5 z.1 | exact c12 z.2.1 | exact i_lt_n c18 z.2.2.1 | exact c25 z.2.2.2)]
      exact ⟨rfl, a⟩
    · refine V_iload4 dX5_lay_15 ?_
      refine V_iconst (nI 1) dX5_lay_17 (by decide) ?_
      first | refine V_icmp_lt_n 28 dX5_lay_18 (by decide) (by omega) (by omega) (fun c18 => ?_) (fun c18 => ?_) | refine V_icmp_lt 28 dX5_lay_18 (by decide) (fun c18 => ?_) (fun c18 => ?_)
      · refine V_ldc ct_X5_57 dX5_lay_28 ?_
        refine V_ireti dX5_lay_30 ?_
        rw [O_lay, ite_f (show ¬ (inR x (nNl S.2.1) ∧ inR s 8 ∧ nI 1 ≤ n ∧ n ≤ nI 40) from fun z => by first | exact c5 z.1 | exact c12 z.2.1 | exact i_lt_n c18 z.2.2.1 | exact c25 z.2.2.2)]
        exact ⟨rfl, a⟩
      · refine V_iload4 dX5_lay_21 ?_
        refine V_bipush (nI 40) dX5_lay_23 (by decide) ?_
        first | refine V_icmp_le_n 31 dX5_lay_25 (by decide) (by omega) (by omega) (fun c25 => ?_) (fun c25 => ?_) | refine V_icmp_le 31 dX5_lay_25 (by decide) (fun c25 => ?_) (fun c25 => ?_)
        · have hg : inR x (nNl S.2.1) ∧ inR s 8 ∧ nI 1 ≤ n ∧ n ≤ nI 40 := ⟨c5, c12, i_nlt c18, c25⟩
          have hnl := i.1.nl
          obtain ⟨l, hl, rfl⟩ := (inR_iff (by omega)).mp c5
          have kl := cl_nI (show l < 2 ^ 31 by omega)
          obtain ⟨s', hs', rfl⟩ := (inR_iff (by decide)).mp c12
          have ks := cl_nI (show s' < 2 ^ 31 by omega)
          have hsh := a.1 s' hs'
          have r2 := a.2.1
          refine V_aload0 dX5_lay_31 ?_
          refine gX5_11 dX5_lay_32 ?_
          refine V_iload2 dX5_lay_35 ?_
          refine V_aaloadS (by decide) rfl (by first | assumption | omega) dX5_lay_36 ?_
          refine V_astore5 dX5_lay_37 (by decide) rfl ?_
          refine V_aload5 dX5_lay_39 ?_
          refine kX5_69 (by first | assumption | omega) (m_X3_isMissing _ _ _ (by first | assumption | omega)) (rOK_d (by decide) (by decide)) (Nat.le_of_ble_eq_true rfl) dX5_lay_41 (fun r41 h41 hq41 => ?_)
          obtain ⟨e_, rfl⟩ := hq41
          replace e_ := e_.symm
          subst e_
          first | refine V_if_eq_z 53 dX5_lay_44 (by decide) (fun c44 => ?_) (fun c44 => ?_) | refine V_if_eq_n 53 dX5_lay_44 (by decide) (by omega) (fun c44 => ?_) (fun c44 => ?_) | refine V_if_eq 53 dX5_lay_44 (by decide) (fun c44 => ?_) (fun c44 => ?_)
          · have hth : S.1.1 s' ≠ -1 ∧ inR (S.1.1 s') 3 ∧ S.1.2.1 s' ≤ 60 ∧ h (20 + s') 1 = S.1.1 s' ∧ h (20 + s') 2 = nI (S.1.2.1 s') ∧ ∀ j, j < S.1.2.1 s' → h (30 + s') j = S.1.2.2 s' j := by
              rcases hsh with ⟨z1, z2⟩ | ⟨z1, z2⟩
              · exact absurd z2 c44
              · exact ⟨fun e => by rw [e] at z1; exact absurd z1 (by decide), z1, z2⟩
            obtain ⟨g1, g2, g3, g4, g5, g6⟩ := hth
            refine V_aload5 dX5_lay_53 ?_
            refine V_iload3 dX5_lay_55 ?_
            refine V_iload4 dX5_lay_56 ?_
            refine kX5_73 (by first | assumption | omega) (m_X3_holds _ _ _ (by first | assumption | omega) _ _) (rOK_d (by decide) (by decide)) (Nat.le_of_ble_eq_true rfl) dX5_lay_58 (fun r58 h58 hq58 => ?_)
            obtain ⟨e_, rfl⟩ := hq58
            replace e_ := e_.symm
            subst e_
            rw [g5]
            first | refine V_if_ne_z 70 dX5_lay_61 (by decide) (fun c61 => ?_) (fun c61 => ?_) | refine V_if_ne_n 70 dX5_lay_61 (by decide) (by omega) (fun c61 => ?_) (fun c61 => ?_) | refine V_if_ne 70 dX5_lay_61 (by decide) (fun c61 => ?_) (fun c61 => ?_)
            · obtain ⟨j', n', rfl, rfl, hjn⟩ := (hld_iff g3).mp c61
              have kj := cl_nI (show j' < 2 ^ 31 by omega)
              have kn := cl_nI (show n' < 2 ^ 31 by omega)
              have hds : ∀ k, k < n' → h (30 + s') (j' + k) = (dsL (S.1.2.2 s') j' n').getD k 0 := fun k hk => by rw [dsL_at hk]; exact g6 _ (by omega)
              refine V_aload0 dX5_lay_70 ?_
              refine gX5_28 dX5_lay_71 ?_
              refine V_aload0 dX5_lay_74 ?_
              refine gX5_21 dX5_lay_75 ?_
              refine V_iload1 dX5_lay_78 ?_
              refine V_aaloadL (by decide) rfl (by first | assumption | omega) dX5_lay_79 ?_
              refine V_aload5 dX5_lay_80 ?_
              refine gX5_85 (by first | assumption | omega) dX5_lay_82 ?_
              refine V_iload3 dX5_lay_85 ?_
              refine V_iload4 dX5_lay_86 ?_
              refine kX5_165 (m_X2_isWay _ _ (nSh S.2.1) a.2.1.2.2.2.1 l (nSt S.2.1 l) (nGl S.2.1 l) (30 + s') j' n' 60 (dsL (S.1.2.2 s') j' n') (by omega) (i.1.st hl) (i.1.gl hl) (mem_items hs') (aI_items hs') (by decide) (by omega) (by omega) (a.2.1.L hl).2.1 (a.2.1.L hl).2.2.1 (dsL_len _ _ _) hds) (rOK_d (by decide) (by decide)) (Nat.le_of_ble_eq_true rfl) dX5_lay_88 (fun r88 h88 hq88 => ?_)
              obtain ⟨u1, rfl⟩ := hq88
              have a2 : RA S h88 := ⟨a.1.same u1 (by simp), a.2.1.same u1 (by unfold offN; decide), a.2.2.1.same u1 (by decide) (by decide), by rw [u1 0 (by decide)]; exact a.2.2.2⟩
              have r3 := a2.2.1
              first | refine V_if_ne_z 97 dX5_lay_91 (by decide) (fun c91 => ?_) (fun c91 => ?_) | refine V_if_ne_n 97 dX5_lay_91 (by decide) (by omega) (fun c91 => ?_) (fun c91 => ?_) | refine V_if_ne 97 dX5_lay_91 (by decide) (fun c91 => ?_) (fun c91 => ?_)
              · obtain ⟨w1, w2⟩ := wk_ok i.1 hl c91
                have wl := w1.len
                have hle : ((dsL (S.1.2.2 s') j' n').map cl).length = n' := by rw [List.length_map, dsL_len]
                refine V_aload0 dX5_lay_97 ?_
                refine gX5_28 dX5_lay_98 ?_
                refine V_aload0 dX5_lay_101 ?_
                refine gX5_21 dX5_lay_102 ?_
                refine V_iload1 dX5_lay_105 ?_
                refine V_aaloadL (by decide) rfl (by first | assumption | omega) dX5_lay_106 ?_
                refine V_aload5 dX5_lay_107 ?_
                refine gX5_85 (by first | assumption | omega) dX5_lay_109 ?_
                refine V_iload3 dX5_lay_112 ?_
                refine V_iload4 dX5_lay_113 ?_
                rw [show nI n' = nI ((dsL (S.1.2.2 s') j' n').map cl).length by rw [hle]]
                refine kX5_158 (m_X2_giveWay G _ (nMk S.2.1) r3.M l (nSt S.2.1 l) (nGl S.2.1 l) (nWy S.2.1 l) (by omega) (r3.L hl) (i.1.st hl) (by have := i.1.len (l := l); omega) (i.1.ok hl) (30 + s') j' 60 ((dsL (S.1.2.2 s') j' n').map cl) (mem_items hs') (aI_items hs') (by decide) (by omega) (by omega) (by omega) (by omega) (fun k hk => by rw [u1.at _ _ (by first | (simp; done) | (simp; omega)), hds k (by omega)]; exact w2 k (by rw [dsL_len]; omega)) w1.1) (rOK_d (by decide) (by decide)) (Nat.le_of_ble_eq_true rfl) dX5_lay_115 (fun h115 hq115 => ?_)
                obtain ⟨t1, t2, t3⟩ := hq115
                refine V_aload0 dX5_lay_118 ?_
                refine V_iconst (nI 1) dX5_lay_119 (by decide) ?_
                refine kX5_66 (m_X5_unfound _ _ _) (rOK_d (by decide) (by decide)) (Nat.le_of_ble_eq_true rfl) dX5_lay_120 (fun r120 h120 hq120 => ?_)
                obtain ⟨e_, rfl⟩ := hq120
                replace e_ := e_.symm
                subst e_
                refine V_ireti dX5_lay_123 ?_
                rw [hle, O_lay, ite_t hg, ks, ite_f g1, ite_t (show hld (S.1.2.1 s') (nI j') (nI n') from c61), kl, kj, kn, ite_t c91]
                exact ⟨rfl, RA_fin 0 (a2.1.same t1 (by intro c hc; simp only [List.mem_cons, List.not_mem_nil, or_false] at hc; omega)) (RAn_give i.1 r3 hl (w1.sd (i.1.st hl)) t1 t2 t3) (a2.2.2.1.same t1 (by first | (simp; done) | (simp; omega)) (by first | (simp; done) | (simp; omega)))⟩
              · refine V_ldc ct_X5_57 dX5_lay_94 ?_
                refine V_ireti dX5_lay_96 ?_
                rw [O_lay, ite_t hg, ks, ite_f g1, ite_t (show hld (S.1.2.1 s') (nI j') (nI n') from c61), kl, kj, kn, ite_f c91]
                exact ⟨rfl, a2⟩
            · refine V_aload0 dX5_lay_64 ?_
              refine V_iconst (nI 2) dX5_lay_65 (by decide) ?_
              refine kX5_58 (m_X5_found _ _ _) (rOK_d (by decide) (by decide)) (Nat.le_of_ble_eq_true rfl) dX5_lay_66 (fun r66 h66 hq66 => ?_)
              obtain ⟨e_, rfl⟩ := hq66
              replace e_ := e_.symm
              subst e_
              refine V_ireti dX5_lay_69 ?_
              rw [O_lay, ite_t hg, ks, ite_f g1, ite_f (show ¬ hld (S.1.2.1 s') j n from c61)]
              exact ⟨rfl, RA_fnd a 2⟩
          · have hgo : S.1.1 s' = -1 := by
              rcases hsh with ⟨z1, z2⟩ | ⟨z1, z2, z3, z4, z5⟩
              · exact z1
              · rw [z4] at c44; exact absurd c44 (neg1_ne (by omega))
            refine V_aload0 dX5_lay_47 ?_
            refine V_iconst (nI 1) dX5_lay_48 (by decide) ?_
            refine kX5_58 (m_X5_found _ _ _) (rOK_d (by decide) (by decide)) (Nat.le_of_ble_eq_true rfl) dX5_lay_49 (fun r49 h49 hq49 => ?_)
            obtain ⟨e_, rfl⟩ := hq49
            replace e_ := e_.symm
            subst e_
            refine V_ireti dX5_lay_52 ?_
            rw [O_lay, ite_t hg, ks, ite_t hgo]
            exact ⟨rfl, RA_fnd a 1⟩
        · refine V_ldc ct_X5_57 dX5_lay_28 ?_
          refine V_ireti dX5_lay_30 ?_
          rw [O_lay, ite_f (show ¬ (inR x (nNl S.2.1) ∧ inR s 8 ∧ nI 1 ≤ n ∧ n ≤ nI 40) from fun z => by first | exact c5 z.1 | exact c12 z.2.1 | exact i_lt_n c18 z.2.2.1 | exact c25 z.2.2.2)]
          exact ⟨rfl, a⟩
