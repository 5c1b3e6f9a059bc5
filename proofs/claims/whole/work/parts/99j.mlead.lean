theorem wgt_set (N : Ng) (l : Nat) : bw (setW N l []) = wgt (nMk N) (nPr N) l := by
  funext s
  show nPr N (popc (nMk (setW N l []) s)) * 128 + 1 = nPr N (popc (clr l (nMk N s))) * 128 + 1
  rw [clr_mk]
theorem ld_path {N : Ng} (i : Inv N) {l y : Nat} (hl : l < nNl N) (h : nD N l (nSt N l) = some y) : ∃ w, isP (bw (setW N l [])) (nD N l) (nGl N l) (nSt N l) w ∧ ldO N l = some (y / 128, w) := by
  obtain ⟨w, h1, -⟩ := isP_ex (nD_ok N l) (i.wt _ _) y (nSt N l) (i.st hl) h
  exact ⟨w, by rw [wgt_set]; exact h1, ldO_some h h1⟩
theorem set_set (N : Ng) (l : Nat) (v w : List Nat) : setW (setW N l v) l w = setW N l w := by
  show (nSh N, nNp N, nPp N, nNl N, nLa N, nLb N, va_up (va_up (nWy N) l v) l w, nBs N, nSv N) = (nSh N, nNp N, nPp N, nNl N, nLa N, nLb N, va_up (nWy N) l w, nBs N, nSv N)
  rw [show va_up (va_up (nWy N) l v) l w = va_up (nWy N) l w by
    funext t
    by_cases e : t = l
    · rw [e, va_up_s, va_up_s]
    · rw [va_up_ne _ _ e, va_up_ne _ _ e, va_up_ne _ _ e]]
set_option maxRecDepth 4000 in
theorem m_X6_lead (G : GE) (h : Mem) (S : St) (i : Ok S) (a : RB S h) (x : Int32) : Ct idsB G yX6_lead cX6_lead 2 (some .int) (rmD 4) [.ref (ad G 100), .int x] h (Qi fun rv h' => rv = (O_lead S x).1 ∧ RB (O_lead S x).2 h') := by
  refine Ct.of [some (.ref (ad G 100)), some (.int x)] (by decide) (Nat.le_of_ble_eq_true rfl) (lvE_ok 0 rfl) ?_
  refine V_aload0 dX6_lead_0 ?_
  refine V_iconst (nI 0) dX6_lead_1 (by decide) ?_
  refine pX6_62 dX6_lead_2 ?_
  replace a := a.th (nI 0)
  generalize wr h 100 0 (nI 0) = g at a ⊢
  refine V_aload0 dX6_lead_5 ?_
  refine V_iload1 dX6_lead_6 ?_
  refine kX6_128 (m_X6_isLine _ _ S.2.1 i.1 a.2.1 _) (rOK_d (by decide) (by decide)) (Nat.le_of_ble_eq_true rfl) dX6_lead_7 (fun r7 h7 hq7 => ?_)
  obtain ⟨e_, rfl⟩ := hq7
  replace e_ := e_.symm
  subst e_
  first | refine V_if_ne_z 16 dX6_lead_10 (by decide) (fun c10 => ?_) (fun c10 => ?_) | refine V_if_ne_n 16 dX6_lead_10 (by decide) (by omega) (fun c10 => ?_) (fun c10 => ?_) | refine V_if_ne 16 dX6_lead_10 (by decide) (fun c10 => ?_) (fun c10 => ?_)
  · have hnl := i.1.nl
    have hg := c10
    obtain ⟨l, hl, rfl⟩ := (inR_iff (by omega)).mp c10
    have kl := cl_nI (show l < 2 ^ 31 by omega)
    have hlen := i.1.len (l := l)
    obtain ⟨w1, w2⟩ := a.2.1.2.2.2.2.2.1 l (by omega)
    have hnp := i.1.np
    have hab := i.1.ab hl
    refine V_aload0 dX6_lead_16 ?_
    refine V_iload1 dX6_lead_17 ?_
    refine kX6_131 (m_X6_wipe _ _ l (by omega)) (rOK_d (by decide) (by decide)) (Nat.le_of_ble_eq_true rfl) dX6_lead_18 (fun h18 hq18 => ?_)
    obtain ⟨t1, t2, t3, t4, t5⟩ := hq18
    have r1 := RBn_wipe i.1 a.2.1 t1 t2 t3 t4 t5
    have i1 : Inv (setW S.2.1 l []) := i.1.set hl (Or.inl rfl)
    have hwz : nWy (setW S.2.1 l []) l = [] := va_up_s _ _ _
    refine V_aload0 dX6_lead_21 ?_
    refine V_iload1 dX6_lead_22 ?_
    refine kX6_135 (m_X6_find _ _ (setW S.2.1 l []) i1 r1 l hl hwz) (rOK_d (by decide) (by decide)) (Nat.le_of_ble_eq_true rfl) dX6_lead_23 (fun r23 h23 hq23 => ?_)
    obtain ⟨s2, C2, W2, e_⟩ := hq23
    replace e_ := e_.symm
    subst e_
    rw [nD_set] at C2 ⊢
    have r2 := r1.same s2 (by unfold offB; decide)
    first | refine V_if_ne_z 32 dX6_lead_26 (by decide) (fun c26 => ?_) (fun c26 => ?_) | refine V_if_ne_n 32 dX6_lead_26 (by decide) (by omega) (fun c26 => ?_) (fun c26 => ?_) | refine V_if_ne 32 dX6_lead_26 (by decide) (fun c26 => ?_) (fun c26 => ?_)
    · obtain ⟨y, hy⟩ : ∃ y, nD S.2.1 l (nSt S.2.1 l) = some y := by
        cases e : nD S.2.1 l (nSt S.2.1 l) with
        | none => exact absurd e c26
        | some y => exact ⟨y, rfl⟩
      obtain ⟨w, hP, hld⟩ := ld_path i.1 hl hy
      refine V_aload0 dX6_lead_32 ?_
      refine V_iload1 dX6_lead_33 ?_
      refine kX6_138 (m_X6_follow _ _ (setW S.2.1 l []) i1 r2 l hl hwz (by rw [nD_set]; exact C2) W2 w y (by rw [nD_set]; exact hy) (by rw [nD_set]; exact hP)) (rOK_d (by decide) (by decide)) (Nat.le_of_ble_eq_true rfl) dX6_lead_34 (fun h34 hq34 => ?_)
      obtain ⟨s4, r4⟩ := hq34
      have e5 : setW (setW S.2.1 l []) l w = setW S.2.1 l w := set_set _ _ _ _
      rw [e5] at r4
      obtain ⟨k1, k2, k3, k4⟩ := (C2 _ (i.1.st hl)).2 y hy
      refine V_aload0 dX6_lead_37 ?_
      refine gX6_44 dX6_lead_38 ?_
      refine V_aload0 dX6_lead_41 ?_
      refine gX6_23 dX6_lead_42 ?_
      refine V_aload0 dX6_lead_45 ?_
      refine gX6_26 dX6_lead_46 ?_
      refine V_iload1 dX6_lead_49 ?_
      refine V_iaload (by decide) aI_109 (by decide) rfl (by omega) dX6_lead_50 ?_
      rw [show h34 109 l = nI (nLa S.2.1 l) from (r4.2.2.2.2.1 l hl).1]
      refine V_iaload (by decide) aI_107 (by decide) rfl (show nLa S.2.1 l < 12 by omega) dX6_lead_51 ?_
      rw [show h34 107 (nLa S.2.1 l) = nI (nPp S.2.1 (nLa S.2.1 l)) from r4.2.2.1 _ hab.1]
      refine V_iaload (by decide) aI_115 (by decide) rfl (i.1.st hl) dX6_lead_52 ?_
      rw [show h34 115 (nPp S.2.1 (nLa S.2.1 l)) = nI (y / 128) by rw [s4 115 (by decide)]; exact k1]
      refine V_ireti dX6_lead_53 ?_
      have s3 : same [111, 112, 113, 115, 116, 117] g h34 := fun c hcc => by rw [s4 c (fun z => hcc (by simp at z ⊢; omega)), s2 c (fun z => hcc (by simp at z ⊢; omega)), t1 c (fun z => hcc (by simp at z ⊢; omega))]
      rw [O_lead, ite_t hg, kl, show o_lead S.2.1 l = (nI (y / 128), setW S.2.1 l w) by unfold o_lead; rw [hld]]
      exact ⟨rfl, RB_net a r4 (s3 _ (by decide)) (s3 _ (by decide)) (s3 _ (by decide)) (s3 _ (by decide)) (by rw [s3 100 (by decide)]) (by rw [s3 100 (by decide)])⟩
    · refine V_ldc ct_X6_93 dX6_lead_29 ?_
      refine V_ireti dX6_lead_31 ?_
      have hnn : nD S.2.1 l (nSt S.2.1 l) = none := Classical.byContradiction c26
      have s3 : same [111, 112, 113, 115, 116, 117] g h23 := fun c hcc => by rw [s2 c (fun z => hcc (by simp at z ⊢; omega)), t1 c (fun z => hcc (by simp at z ⊢; omega))]
      rw [O_lead, ite_t hg, kl, show o_lead S.2.1 l = (-1000000, setW S.2.1 l []) by unfold o_lead; rw [ldO_none hnn]]
      exact ⟨rfl, RB_net a r2 (s3 _ (by decide)) (s3 _ (by decide)) (s3 _ (by decide)) (s3 _ (by decide)) (by rw [s3 100 (by decide)]) (by rw [s3 100 (by decide)])⟩
  · refine V_ldc ct_X6_82 dX6_lead_13 ?_
    refine V_ireti dX6_lead_15 ?_
    rw [O_lead, ite_f c10]
    exact ⟨rfl, a⟩
