set_option maxRecDepth 4000 in
theorem l_X6_tints_5 (G : GE) (h : Mem) (N : Ng) (i : Inv N) (r : RBn N h) (m : Nat) (hm : m ≤ 12) (Q : Option Value → Mem → Prop) (n k : Nat) (hnk : n + k = 12) (hk : k ≤ nNl N) : AF G h N m Q n k := by
  have hnl := i.nl
  induction n generalizing k with
  | zero =>
    intro col hc o3 o4 e1 hT hb Ks Kf
    obtain rfl : k = nNl N := by omega
    exact Ks col hc o3 o4 rfl e1 hT
  | succ n ih =>
    intro col hc o3 o4 e1 hT hb Ks Kf
    by_cases hkn : k = nNl N
    · subst hkn
      exact Ks col hc o3 o4 (dfs_off (wm_off i)) e1 hT
    · have hkl : k < nNl N := by omega
      by_cases hw : wmF N k = true
      · exact l_X6_tints_4 G h hc N i r m hm n k hkl hw Q (ih (k + 1) (by omega) (by omega)) col _ Ks Kf 0 (Nat.zero_le _) e1 hT (fun b h1 h2 => hb b (by omega) h2) (hb k (Nat.le_refl _) (by omega)) (by rw [Nat.sub_zero]; exact (dfs_s hw).symm) o3 o4
      · have hwf : wmF N k = false := Bool.eq_false_iff.mpr hw
        have hw0 : (nWy N k).length = 0 := Classical.byContradiction (fun z => hw (decide_eq_true (fun y => z (by rw [y]; rfl))))
        have hus : usd (wmF N) col (k + 1) = usd (wmF N) col k := by rw [usd, if_neg hw]
        have rc := r.same e1 (by unfold offB; decide)
        refine V_iload2 dX6_tints_23 ?_
        first | refine V_if_lt_n 220 dX6_tints_24 (by decide) (by omega) (fun c24 => ?_) (fun c24 => ?_) | refine V_if_lt 220 dX6_tints_24 (by decide) (fun c24 => ?_) (fun c24 => ?_)
        · exact c24.elim --end
        · refine V_iload2 dX6_tints_27 ?_
          refine V_aload0 dX6_tints_28 ?_
          refine gX6_102 dX6_tints_29 ?_
          rw [rc.2.1]
          first | refine V_icmp_ge_n 220 dX6_tints_32 (by decide) (by omega) (by omega) (fun c32 => ?_) (fun c32 => ?_) | refine V_icmp_ge 220 dX6_tints_32 (by decide) (fun c32 => ?_) (fun c32 => ?_)
          · exact absurd c32 (by omega) --end
          · refine V_aload0 dX6_tints_35 ?_
            refine gX6_32 dX6_tints_36 ?_
            refine V_iload2 dX6_tints_39 ?_
            refine V_iaload (by decide) aI_111 (by decide) rfl (by first | assumption | omega) dX6_tints_40 ?_
            rw [(rc.2.2.2.2.2.1 k (by omega)).1, hw0]
            first | refine V_if_ne_z 88 dX6_tints_41 (by decide) (fun c41 => ?_) (fun c41 => ?_) | refine V_if_ne_n 88 dX6_tints_41 (by decide) (by omega) (fun c41 => ?_) (fun c41 => ?_) | refine V_if_ne 88 dX6_tints_41 (by decide) (fun c41 => ?_) (fun c41 => ?_)
            · exact absurd rfl c41 --end
            · refine V_aload0 dX6_tints_44 ?_
              refine gX6_56 dX6_tints_45 ?_
              refine V_iload2 dX6_tints_48 ?_
              refine V_aload0 dX6_tints_49 ?_
              refine gX6_56 dX6_tints_50 ?_
              refine V_iload2 dX6_tints_53 ?_
              refine V_iaload (by decide) aI_119 (by decide) rfl (by omega) dX6_tints_54 ?_
              rw [hb k (Nat.le_refl _) (by omega)]
              refine V_iconst (-1) dX6_tints_55 (by decide) ?_
              refine V_icmp_ne 64 dX6_tints_56 (by decide) (fun c => absurd rfl c) (fun _ => ?_)
              refine V_bipush (-2) dX6_tints_59 (by decide) ?_
              refine V_goto 65 dX6_tints_61 (by decide) ?_
              refine V_iastore (by decide) aI_119 (by decide) rfl (by first | assumption | omega) dX6_tints_65 ?_
              refine V_iload2 dX6_tints_66 ?_
              refine V_aload0 dX6_tints_67 ?_
              refine gX6_56 dX6_tints_68 ?_
              refine V_iload2 dX6_tints_71 ?_
              refine V_iaload (by decide) aI_119 (by decide) rfl (by omega) dX6_tints_72 ?_
              rw [wr_s]
              refine V_bipush (-2) dX6_tints_73 (by decide) ?_
              refine V_icmp_ne 82 dX6_tints_75 (by decide) (fun c => absurd rfl c) (fun _ => ?_)
              refine V_iconst (nI 1) dX6_tints_78 (by decide) ?_
              refine V_goto 83 dX6_tints_79 (by decide) ?_
              first | refine V_iadd_n dX6_tints_83 ?_ | refine V_iadd dX6_tints_83 ?_
              refine V_istore2 dX6_tints_84 (by decide) rfl ?_
              refine V_goto 23 dX6_tints_85 (by decide) ?_
              refine ih (k + 1) (by omega) (by omega) col (wr hc 119 k (-2)) _ _ (e1.wr _ _ (by decide)) (fun b hb2 => ?_) (fun b h1 h2 => by rw [wr_j _ _ (by omega)]; exact hb b (by omega) h2) (fun col2 hc2 o3 o4 q1 q2 q3 => ?_) (fun hc2 o3 o4 q1 q2 q3 q4 => ?_)
              · by_cases e9 : b = k
                · subst e9
                  exact ⟨fun z => absurd z hw, fun _ => wr_s _ _ _ _⟩
                · rw [wr_j _ _ e9]; exact hT b (by omega)
              · exact Ks col2 hc2 o3 o4 (by rw [dfs_n hwf]; rw [hus] at q1; exact q1) q2 q3
              · have rc2 := r.same q2 (by unfold offB; decide)
                refine V_iload2 dX6_tints_23 ?_
                refine V_if_lt_n 220 dX6_tints_24 (by decide) (show k < 2 ^ 31 by omega) (fun c => c.elim) (fun _ => ?_)
                refine V_iload2 dX6_tints_27 ?_
                refine V_aload0 dX6_tints_28 ?_
                refine gX6_102 dX6_tints_29 ?_
                rw [rc2.2.1]
                refine V_icmp_ge_n 220 dX6_tints_32 (by decide) (show k < 2 ^ 31 by omega) (by omega) (fun c => absurd c (by omega)) (fun _ => ?_)
                refine V_aload0 dX6_tints_35 ?_
                refine gX6_32 dX6_tints_36 ?_
                refine V_iload2 dX6_tints_39 ?_
                refine V_iaload (by decide) aI_111 (by decide) rfl (by first | assumption | omega) dX6_tints_40 ?_
                rw [(rc2.2.2.2.2.2.1 k (by omega)).1, hw0]
                first | refine V_if_ne_z 88 dX6_tints_41 (by decide) (fun c41 => ?_) (fun c41 => ?_) | refine V_if_ne_n 88 dX6_tints_41 (by decide) (by omega) (fun c41 => ?_) (fun c41 => ?_) | refine V_if_ne 88 dX6_tints_41 (by decide) (fun c41 => ?_) (fun c41 => ?_)
                · exact absurd rfl c41 --end
                · refine V_aload0 dX6_tints_44 ?_
                  refine gX6_56 dX6_tints_45 ?_
                  refine V_iload2 dX6_tints_48 ?_
                  refine V_aload0 dX6_tints_49 ?_
                  refine gX6_56 dX6_tints_50 ?_
                  refine V_iload2 dX6_tints_53 ?_
                  refine V_iaload (by decide) aI_119 (by decide) rfl (by omega) dX6_tints_54 ?_
                  rw [(q3 k (by omega)).2 hwf]
                  refine V_iconst (-1) dX6_tints_55 (by decide) ?_
                  refine V_icmp_ne 64 dX6_tints_56 (by decide) (fun _ => ?_) (fun c => absurd c (by decide))
                  refine V_iconst (-1) dX6_tints_64 (by decide) ?_
                  refine V_iastore (by decide) aI_119 (by decide) rfl (by first | assumption | omega) dX6_tints_65 ?_
                  refine V_iload2 dX6_tints_66 ?_
                  refine V_aload0 dX6_tints_67 ?_
                  refine gX6_56 dX6_tints_68 ?_
                  refine V_iload2 dX6_tints_71 ?_
                  refine V_iaload (by decide) aI_119 (by decide) rfl (by omega) dX6_tints_72 ?_
                  rw [wr_s]
                  refine V_bipush (-2) dX6_tints_73 (by decide) ?_
                  refine V_icmp_ne 82 dX6_tints_75 (by decide) (fun _ => ?_) (fun c => absurd c (by decide))
                  refine V_iconst (-1) dX6_tints_82 (by decide) ?_
                  refine V_iadd dX6_tints_83 ?_
                  rw [show dn (k + 1) + (-1) = dn k from dn_sub k (by omega)]
                  refine V_istore2 dX6_tints_84 (by decide) rfl ?_
                  refine V_goto 23 dX6_tints_85 (by decide) ?_
                  exact Kf (wr hc2 119 k (-1)) _ _ (by rw [dfs_n hwf]; have z := q1; rw [hus] at z; exact z) (q2.wr _ _ (by decide)) (fun b hb2 => by rw [wr_j _ _ (by omega)]; exact q3 b (by omega)) (fun b h1 h2 => by
                    by_cases e9 : b = k
                    · rw [e9, wr_s]
                    · rw [wr_j _ _ e9]; exact q4 b (by omega) h2)
set_option maxRecDepth 4000 in
theorem m_X6_tints (G : GE) (h : Mem) (N : Ng) (i : Inv N) (r : RBn N h) (m : Nat) (hm : m ≤ 12) : Ct idsB G yX6_tints cX6_tints 5 (some .boolean) (rmD 2) [.ref (ad G 100), .int (nI m)] h (Qi fun v h' => same [119] h h' ∧ v = bz (¬ nDf N m = none) ∧ ∀ col, nDf N m = some col → TT N col (nNl N) h') := by
  refine Ct.of [some (.ref (ad G 100)), some (.int (nI m)), none, none, none] (by decide) (Nat.le_of_ble_eq_true rfl) (lvE_ok 3 rfl) ?_
  refine V_iconst (nI 0) dX6_tints_0 (by decide) ?_
  refine V_istore2 dX6_tints_1 (by decide) rfl ?_
  refine V_iconst (nI 0) dX6_tints_2 (by decide) ?_
  refine V_istore3 dX6_tints_3 (by decide) rfl ?_
  have hnl := i.nl
  refine l_X6_tints_1 G h h m 0 none _ (by decide) same.rf (fun _ z => absurd z (Nat.not_lt_zero _)) (fun hc e1 e2 => ?_)
  refine l_X6_tints_5 G h N i r m hm _ 12 0 rfl (Nat.zero_le _) (fun _ => 0) hc _ _ e1 (fun b hb => absurd hb (Nat.not_lt_zero _)) (fun b _ hb => e2 b hb) (fun col2 hc2 o3 o4 q1 q2 q3 => ?_) (fun hc2 o3 o4 q1 q2 q3 q4 => ?_)
  · have rc := r.same q2 (by unfold offB; decide)
    replace q1 : nDf N m = some col2 := q1
    refine V_iload2 dX6_tints_23 ?_
    first | refine V_if_lt_n 220 dX6_tints_24 (by decide) (by omega) (fun c24 => ?_) (fun c24 => ?_) | refine V_if_lt 220 dX6_tints_24 (by decide) (fun c24 => ?_) (fun c24 => ?_)
    · exact c24.elim --end
    · refine V_iload2 dX6_tints_27 ?_
      refine V_aload0 dX6_tints_28 ?_
      refine gX6_102 dX6_tints_29 ?_
      rw [rc.2.1]
      first | refine V_icmp_ge_n 220 dX6_tints_32 (by decide) (by omega) (by omega) (fun c32 => ?_) (fun c32 => ?_) | refine V_icmp_ge 220 dX6_tints_32 (by decide) (fun c32 => ?_) (fun c32 => ?_)
      · refine V_iload2 dX6_tints_220 ?_
        first | refine V_if_lt_n 228 dX6_tints_221 (by decide) (by omega) (fun c221 => ?_) (fun c221 => ?_) | refine V_if_lt 228 dX6_tints_221 (by decide) (fun c221 => ?_) (fun c221 => ?_)
        · exact c221.elim --end
        · refine V_iconst (nI 1) dX6_tints_224 (by decide) ?_
          refine V_goto 229 dX6_tints_225 (by decide) ?_
          refine V_zreti dX6_tints_229 (by first | exact bz_01 | exact nI_01 (Or.inl rfl) | exact nI_01 (Or.inr rfl) | assumption) ?_
          refine ⟨q2, bz_r1 (fun z => ?_), fun col hcol => ?_⟩
          · rw [q1] at z; cases z
          · rw [q1] at hcol; cases hcol; exact q3
      · exact absurd (Nat.le_refl _) c32 --end
  · replace q1 : nDf N m = none := q1
    refine V_iload2 dX6_tints_23 ?_
    refine V_if_lt 220 dX6_tints_24 (by decide) (fun _ => ?_) (fun c => absurd (by decide) c)
    refine V_iload2 dX6_tints_220 ?_
    refine V_if_lt 228 dX6_tints_221 (by decide) (fun _ => ?_) (fun c => absurd (by decide) c)
    refine V_iconst (nI 0) dX6_tints_228 (by decide) ?_
    refine V_zreti dX6_tints_229 (by first | exact bz_01 | exact nI_01 (Or.inl rfl) | exact nI_01 (Or.inr rfl) | assumption) ?_
    refine ⟨q2, bz_r0 (fun z => z q1), fun col hcol => ?_⟩
    rw [q1] at hcol; cases hcol
set_option maxRecDepth 4000 in
theorem l_X6_tint (G : GE) (h hc : Mem) (N : Ng) (i : Inv N) (r : RBn N h) (x : Int32) (Q : Option Value → Mem → Prop) (K : ∀ hc, same [119] h hc → (∀ b, b < nNl N → wmF N b = true → hc 119 b = nI (tcN N b)) → V idsB G RX6 cX6_tint 3 (some .int) (rmD 3) 53 [some (.ref (ad G 100)), some (.int x), some (.int (nI (tnN N)))] [] hc Q) (n : Nat) (hn1 : 1 ≤ n) (hn2 : n ≤ tnN N) (e1 : same [119] h hc) : V idsB G RX6 cX6_tint 3 (some .int) (rmD 3) 35 [some (.ref (ad G 100)), some (.int x), some (.int (nI n))] [] hc Q := by
  obtain ⟨z1, z2, z3⟩ := tnN_ok N
  induction hm : tnN N - n using Nat.strongRecOn generalizing hc n with
  | _ z ih =>
    subst hm
    have rc := r.same e1 (by unfold offB; decide)
    refine V_iload2 dX6_tint_35 ?_
    first | refine V_if_le_n 53 dX6_tint_36 (by decide) (by omega) (fun c36 => ?_) (fun c36 => ?_) | refine V_if_le 53 dX6_tint_36 (by decide) (fun c36 => ?_) (fun c36 => ?_)
    · exact absurd c36 (by omega) --end
    · refine V_aload0 dX6_tint_39 ?_
      refine V_iload2 dX6_tint_40 ?_
      refine kX6_172 (m_X6_tints _ _ N i rc n (by omega)) (rOK_d (by decide) (by decide)) (Nat.le_of_ble_eq_true rfl) dX6_tint_41 (fun r41 h41 hq41 => ?_)
      obtain ⟨s2, e_, t2⟩ := hq41
      replace e_ := e_.symm
      subst e_
      first | refine V_if_ne_z 53 dX6_tint_44 (by decide) (fun c44 => ?_) (fun c44 => ?_) | refine V_if_ne_n 53 dX6_tint_44 (by decide) (by omega) (fun c44 => ?_) (fun c44 => ?_) | refine V_if_ne 53 dX6_tint_44 (by decide) (fun c44 => ?_) (fun c44 => ?_)
      · obtain rfl : n = tnN N := by
          rcases (show n < tnN N ∨ n = tnN N by omega) with y | y
          · exact absurd (z2 n y) c44
          · exact y
        exact K h41 (e1.tr s2) (fun b hb hw => ((t2 _ (tcN_ok N) b hb).1 hw).1) --end
      · first | refine V_iinc2_n 1 dX6_tint_47 (by decide) (by decide) rfl ?_ | refine V_iinc2 (nI 1) dX6_tint_47 (by decide) (by decide) rfl ?_
        refine V_goto 35 dX6_tint_50 (by decide) ?_
        have hlt : n < tnN N := by
          rcases (show n < tnN N ∨ n = tnN N by omega) with y | y
          · exact y
          · have y2 := Classical.byContradiction c44
            rw [y, tcN_ok N] at y2
            cases y2
        exact ih _ (by omega) _ (n + 1) (by omega) (by omega) (e1.tr s2) rfl
set_option maxRecDepth 4000 in
theorem m_X6_tint (G : GE) (h : Mem) (S : St) (i : Ok S) (a : RB S h) (x : Int32) : Ct idsB G yX6_tint cX6_tint 3 (some .int) (rmD 3) [.ref (ad G 100), .int x] h (Qi fun rv h' => rv = (O_tint S x).1 ∧ RB (O_tint S x).2 h') := by
  refine Ct.of [some (.ref (ad G 100)), some (.int x), none] (by decide) (Nat.le_of_ble_eq_true rfl) (lvE_ok 1 rfl) ?_
  refine V_aload0 dX6_tint_0 ?_
  refine V_iconst (nI 0) dX6_tint_1 (by decide) ?_
  refine pX6_62 dX6_tint_2 ?_
  replace a := a.th (nI 0)
  generalize wr h 100 0 (nI 0) = g at a ⊢
  refine V_iload1 dX6_tint_5 ?_
  refine V_ldc ct_X6_93 dX6_tint_6 ?_
  refine V_icmp_eq 22 dX6_tint_8 (by decide) (fun c8 => ?_) (fun c8 => ?_)
  · skip
    have hx : x = -1000000 ∨ inR x (nNl S.2.1) := by first | exact Or.inl c8 | exact Or.inr c16
    have hnl := i.1.nl
    have hct := fb_ct_le (wmF S.2.1) (nNl S.2.1)
    have KT : ∀ hc, same [119] g hc → (∀ b, b < nNl S.2.1 → wmF S.2.1 b = true → hc 119 b = nI (tcN S.2.1 b)) → V idsB G RX6 cX6_tint 3 (some .int) (rmD 3) 53 [some (.ref (ad G 100)), some (.int x), some (.int (nI (tnN S.2.1)))] [] hc (Qi (fun rv h' => rv = (O_tint S x).1 ∧ RB (O_tint S x).2 h')) := by
      intro hc s2 hk
      have a2 := a.same s2 (by unfold offB; decide)
      refine V_iload1 dX6_tint_53 ?_
      refine V_ldc ct_X6_93 dX6_tint_54 ?_
      refine V_icmp_ne 63 dX6_tint_56 (by decide) (fun c56 => ?_) (fun c56 => ?_)
      · skip
        obtain ⟨l, hl, rfl⟩ := (inR_iff (by omega)).mp (hx.resolve_left c56)
        have hin := hx.resolve_left c56
        have kl := cl_nI (show l < 2 ^ 31 by omega)
        have hlen := i.1.len (l := l)
        refine V_aload0 dX6_tint_63 ?_
        refine gX6_32 dX6_tint_64 ?_
        refine V_iload1 dX6_tint_67 ?_
        refine V_iaload (by decide) aI_111 (by decide) rfl (by first | assumption | omega) dX6_tint_68 ?_
        rw [(a2.2.1.2.2.2.2.2.1 l (by omega)).1]
        first | refine V_if_ne_z 77 dX6_tint_69 (by decide) (fun c69 => ?_) (fun c69 => ?_) | refine V_if_ne_n 77 dX6_tint_69 (by decide) (by omega) (fun c69 => ?_) (fun c69 => ?_) | refine V_if_ne 77 dX6_tint_69 (by decide) (fun c69 => ?_) (fun c69 => ?_)
        · refine V_aload0 dX6_tint_77 ?_
          refine gX6_56 dX6_tint_78 ?_
          refine V_iload1 dX6_tint_81 ?_
          refine V_iaload (by decide) aI_119 (by decide) rfl (by first | assumption | omega) dX6_tint_82 ?_
          rw [hk l hl (decide_eq_true (fun z => c69 (by rw [z]; rfl)))]
          refine V_ireti dX6_tint_83 ?_
          first
          | (rw [O_tint, vTint, ite_t c56]; exact ⟨rfl, a2⟩)
          | (rw [O_tint, vTint, ite_f c56, ite_t hin, kl, ite_t (List.length_eq_zero_iff.mp c69)]; exact ⟨rfl, a2⟩)
          | (rw [O_tint, vTint, ite_f c56, ite_t hin, kl, ite_f (fun z => c69 (by rw [z]; rfl))]; exact ⟨rfl, a2⟩)
        · refine V_ldc ct_X6_93 dX6_tint_72 ?_
          refine V_goto 83 dX6_tint_74 (by decide) ?_
          refine V_ireti dX6_tint_83 ?_
          first
          | (rw [O_tint, vTint, ite_t c56]; exact ⟨rfl, a2⟩)
          | (rw [O_tint, vTint, ite_f c56, ite_t hin, kl, ite_t (List.length_eq_zero_iff.mp c69)]; exact ⟨rfl, a2⟩)
          | (rw [O_tint, vTint, ite_f c56, ite_t hin, kl, ite_f (fun z => c69 (by rw [z]; rfl))]; exact ⟨rfl, a2⟩)
      · skip
        refine V_iload2 dX6_tint_59 ?_
        refine V_goto 83 dX6_tint_60 (by decide) ?_
        refine V_ireti dX6_tint_83 ?_
        first
        | (rw [O_tint, vTint, ite_t c56]; exact ⟨rfl, a2⟩)
        | (rw [O_tint, vTint, ite_f c56, ite_t hin, kl, ite_t (List.length_eq_zero_iff.mp c69)]; exact ⟨rfl, a2⟩)
        | (rw [O_tint, vTint, ite_f c56, ite_t hin, kl, ite_f (fun z => c69 (by rw [z]; rfl))]; exact ⟨rfl, a2⟩)
    refine V_aload0 dX6_tint_22 ?_
    refine kX6_169 (m_X6_ways _ _ S.2.1 i.1 a.2.1) (rOK_d (by decide) (by decide)) (Nat.le_of_ble_eq_true rfl) dX6_tint_23 (fun r23 h23 hq23 => ?_)
    obtain ⟨e_, rfl⟩ := hq23
    replace e_ := e_.symm
    subst e_
    first | refine V_if_ne_z 33 dX6_tint_26 (by decide) (fun c26 => ?_) (fun c26 => ?_) | refine V_if_ne_n 33 dX6_tint_26 (by decide) (by omega) (fun c26 => ?_) (fun c26 => ?_) | refine V_if_ne 33 dX6_tint_26 (by decide) (fun c26 => ?_) (fun c26 => ?_)
    · refine V_iconst (nI 1) dX6_tint_33 (by decide) ?_
      refine V_istore2 dX6_tint_34 (by decide) rfl ?_
      obtain ⟨l, hl, hw⟩ : ∃ l, l < 12 ∧ wmF S.2.1 l = true := Classical.byContradiction (fun z => c26 (fb_ct_zero.mpr (fun l hl => Bool.eq_false_iff.mpr (fun y => z ⟨l, by omega, y⟩))))
      exact l_X6_tint G g g S.2.1 i.1 a.2.1 x _ KT 1 (Nat.le_refl _) (tn_pos hl hw) same.rf
    · have hno : ∀ l, wmF S.2.1 l = false := fun l => by
        rcases (show l < nNl S.2.1 ∨ nNl S.2.1 ≤ l by omega) with y | y
        · exact fb_ct_zero.mp c26 l y
        · exact wm_off i.1 l y
      refine V_iconst (nI 0) dX6_tint_29 (by decide) ?_
      refine V_goto 34 dX6_tint_30 (by decide) ?_
      refine V_istore2 dX6_tint_34 (by decide) rfl ?_
      refine V_iload2 dX6_tint_35 ?_
      refine V_if_le_n 53 dX6_tint_36 (by decide) (by decide) (fun _ => ?_) (fun c => absurd rfl c)
      have hz := KT g same.rf (fun b hb hw => by rw [hno b] at hw; cases hw)
      rw [tn_zero hno] at hz
      exact hz
  · skip
    refine V_aload0 dX6_tint_11 ?_
    refine V_iload1 dX6_tint_12 ?_
    refine kX6_128 (m_X6_isLine _ _ S.2.1 i.1 a.2.1 _) (rOK_d (by decide) (by decide)) (Nat.le_of_ble_eq_true rfl) dX6_tint_13 (fun r13 h13 hq13 => ?_)
    obtain ⟨e_, rfl⟩ := hq13
    replace e_ := e_.symm
    subst e_
    first | refine V_if_ne_z 22 dX6_tint_16 (by decide) (fun c16 => ?_) (fun c16 => ?_) | refine V_if_ne_n 22 dX6_tint_16 (by decide) (by omega) (fun c16 => ?_) (fun c16 => ?_) | refine V_if_ne 22 dX6_tint_16 (by decide) (fun c16 => ?_) (fun c16 => ?_)
    · have hx : x = -1000000 ∨ inR x (nNl S.2.1) := by first | exact Or.inl c8 | exact Or.inr c16
      have hnl := i.1.nl
      have hct := fb_ct_le (wmF S.2.1) (nNl S.2.1)
      have KT : ∀ hc, same [119] g hc → (∀ b, b < nNl S.2.1 → wmF S.2.1 b = true → hc 119 b = nI (tcN S.2.1 b)) → V idsB G RX6 cX6_tint 3 (some .int) (rmD 3) 53 [some (.ref (ad G 100)), some (.int x), some (.int (nI (tnN S.2.1)))] [] hc (Qi (fun rv h' => rv = (O_tint S x).1 ∧ RB (O_tint S x).2 h')) := by
        intro hc s2 hk
        have a2 := a.same s2 (by unfold offB; decide)
        refine V_iload1 dX6_tint_53 ?_
        refine V_ldc ct_X6_93 dX6_tint_54 ?_
        refine V_icmp_ne 63 dX6_tint_56 (by decide) (fun c56 => ?_) (fun c56 => ?_)
        · skip
          obtain ⟨l, hl, rfl⟩ := (inR_iff (by omega)).mp (hx.resolve_left c56)
          have hin := hx.resolve_left c56
          have kl := cl_nI (show l < 2 ^ 31 by omega)
          have hlen := i.1.len (l := l)
          refine V_aload0 dX6_tint_63 ?_
          refine gX6_32 dX6_tint_64 ?_
          refine V_iload1 dX6_tint_67 ?_
          refine V_iaload (by decide) aI_111 (by decide) rfl (by first | assumption | omega) dX6_tint_68 ?_
          rw [(a2.2.1.2.2.2.2.2.1 l (by omega)).1]
          first | refine V_if_ne_z 77 dX6_tint_69 (by decide) (fun c69 => ?_) (fun c69 => ?_) | refine V_if_ne_n 77 dX6_tint_69 (by decide) (by omega) (fun c69 => ?_) (fun c69 => ?_) | refine V_if_ne 77 dX6_tint_69 (by decide) (fun c69 => ?_) (fun c69 => ?_)
          · refine V_aload0 dX6_tint_77 ?_
            refine gX6_56 dX6_tint_78 ?_
            refine V_iload1 dX6_tint_81 ?_
            refine V_iaload (by decide) aI_119 (by decide) rfl (by first | assumption | omega) dX6_tint_82 ?_
            rw [hk l hl (decide_eq_true (fun z => c69 (by rw [z]; rfl)))]
            refine V_ireti dX6_tint_83 ?_
            first
            | (rw [O_tint, vTint, ite_t c56]; exact ⟨rfl, a2⟩)
            | (rw [O_tint, vTint, ite_f c56, ite_t hin, kl, ite_t (List.length_eq_zero_iff.mp c69)]; exact ⟨rfl, a2⟩)
            | (rw [O_tint, vTint, ite_f c56, ite_t hin, kl, ite_f (fun z => c69 (by rw [z]; rfl))]; exact ⟨rfl, a2⟩)
          · refine V_ldc ct_X6_93 dX6_tint_72 ?_
            refine V_goto 83 dX6_tint_74 (by decide) ?_
            refine V_ireti dX6_tint_83 ?_
            first
            | (rw [O_tint, vTint, ite_t c56]; exact ⟨rfl, a2⟩)
            | (rw [O_tint, vTint, ite_f c56, ite_t hin, kl, ite_t (List.length_eq_zero_iff.mp c69)]; exact ⟨rfl, a2⟩)
            | (rw [O_tint, vTint, ite_f c56, ite_t hin, kl, ite_f (fun z => c69 (by rw [z]; rfl))]; exact ⟨rfl, a2⟩)
        · skip
          refine V_iload2 dX6_tint_59 ?_
          refine V_goto 83 dX6_tint_60 (by decide) ?_
          refine V_ireti dX6_tint_83 ?_
          first
          | (rw [O_tint, vTint, ite_t c56]; exact ⟨rfl, a2⟩)
          | (rw [O_tint, vTint, ite_f c56, ite_t hin, kl, ite_t (List.length_eq_zero_iff.mp c69)]; exact ⟨rfl, a2⟩)
          | (rw [O_tint, vTint, ite_f c56, ite_t hin, kl, ite_f (fun z => c69 (by rw [z]; rfl))]; exact ⟨rfl, a2⟩)
      refine V_aload0 dX6_tint_22 ?_
      refine kX6_169 (m_X6_ways _ _ S.2.1 i.1 a.2.1) (rOK_d (by decide) (by decide)) (Nat.le_of_ble_eq_true rfl) dX6_tint_23 (fun r23 h23 hq23 => ?_)
      obtain ⟨e_, rfl⟩ := hq23
      replace e_ := e_.symm
      subst e_
      first | refine V_if_ne_z 33 dX6_tint_26 (by decide) (fun c26 => ?_) (fun c26 => ?_) | refine V_if_ne_n 33 dX6_tint_26 (by decide) (by omega) (fun c26 => ?_) (fun c26 => ?_) | refine V_if_ne 33 dX6_tint_26 (by decide) (fun c26 => ?_) (fun c26 => ?_)
      · refine V_iconst (nI 1) dX6_tint_33 (by decide) ?_
        refine V_istore2 dX6_tint_34 (by decide) rfl ?_
        obtain ⟨l, hl, hw⟩ : ∃ l, l < 12 ∧ wmF S.2.1 l = true := Classical.byContradiction (fun z => c26 (fb_ct_zero.mpr (fun l hl => Bool.eq_false_iff.mpr (fun y => z ⟨l, by omega, y⟩))))
        exact l_X6_tint G g g S.2.1 i.1 a.2.1 x _ KT 1 (Nat.le_refl _) (tn_pos hl hw) same.rf
      · have hno : ∀ l, wmF S.2.1 l = false := fun l => by
          rcases (show l < nNl S.2.1 ∨ nNl S.2.1 ≤ l by omega) with y | y
          · exact fb_ct_zero.mp c26 l y
          · exact wm_off i.1 l y
        refine V_iconst (nI 0) dX6_tint_29 (by decide) ?_
        refine V_goto 34 dX6_tint_30 (by decide) ?_
        refine V_istore2 dX6_tint_34 (by decide) rfl ?_
        refine V_iload2 dX6_tint_35 ?_
        refine V_if_le_n 53 dX6_tint_36 (by decide) (by decide) (fun _ => ?_) (fun c => absurd rfl c)
        have hz := KT g same.rf (fun b hb hw => by rw [hno b] at hw; cases hw)
        rw [tn_zero hno] at hz
        exact hz
    · refine V_ldc ct_X6_82 dX6_tint_19 ?_
      refine V_ireti dX6_tint_21 ?_
      rw [O_tint, vTint, ite_f c8, ite_f c16]
      exact ⟨rfl, a⟩
