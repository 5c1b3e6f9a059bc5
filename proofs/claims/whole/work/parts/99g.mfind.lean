set_option maxRecDepth 4000 in
theorem l_X6_find_1 (G : GE) (h hc : Mem) (N : Ng) (i : Inv N) (r : RBn N h) (l s : Nat) (Q : Option Value → Mem → Prop) (hs : s ≤ 180) (e1 : same [117] h hc) (e2 : ∀ x, x < s → hc 117 x = nI (pw N (phi x))) (K : ∀ hc, same [117] h hc → hasW N hc → V idsB G RX6 cX6_find 8 (some .boolean) (rmD 3) 30 [some (.ref (ad G 100)), some (.int (nI l)), some (.int (nI 180)), none, none, none, none, none] [] hc Q) : V idsB G RX6 cX6_find 8 (some .boolean) (rmD 3) 2 [some (.ref (ad G 100)), some (.int (nI l)), some (.int (nI s)), none, none, none, none, none] [] hc Q := by
  induction hm : 180 - s using Nat.strongRecOn generalizing hc s with
  | _ m ih =>
    subst hm
    have rc := r.same e1 (by unfold offB; decide)
    refine V_iload2 dX6_find_2 ?_
    refine V_sipush (nI 180) dX6_find_3 (by decide) ?_
    first | refine V_icmp_ge_n 30 dX6_find_6 (by decide) (by omega) (by omega) (fun c6 => ?_) (fun c6 => ?_) | refine V_icmp_ge 30 dX6_find_6 (by decide) (fun c6 => ?_) (fun c6 => ?_)
    · obtain rfl : s = 180 := by omega
      exact K hc e1 e2
    · refine V_aload0 dX6_find_9 ?_
      refine gX6_50 dX6_find_10 ?_
      refine V_iload2 dX6_find_13 ?_
      refine V_aload0 dX6_find_14 ?_
      refine V_aload0 dX6_find_15 ?_
      refine V_iload2 dX6_find_16 ?_
      refine kX6_112 (m_X6_widthOf _ _ N i rc s (by omega)) (rOK_d (by decide) (by decide)) (Nat.le_of_ble_eq_true rfl) dX6_find_17 (fun r17 h17 hq17 => ?_)
      obtain ⟨e_, rfl⟩ := hq17
      replace e_ := e_.symm
      subst e_
      refine kX6_125 (m_X6_costOf _ _ N i rc (popc (nMk N (phi s))) (popc_le _)) (rOK_d (by decide) (by decide)) (Nat.le_of_ble_eq_true rfl) dX6_find_20 (fun r20 h20 hq20 => ?_)
      obtain ⟨e_, rfl⟩ := hq20
      replace e_ := e_.symm
      subst e_
      refine V_iastore (by decide) aI_117 (by decide) rfl (by first | assumption | omega) dX6_find_23 ?_
      first | refine V_iinc2_n 1 dX6_find_24 (by decide) (by decide) rfl ?_ | refine V_iinc2 (nI 1) dX6_find_24 (by decide) (by decide) rfl ?_
      refine V_goto 2 dX6_find_27 (by decide) ?_
      exact ih _ (by omega) _ (s + 1) (by omega) (e1.wr _ _ (by decide)) (lt_s (fun x h1 => by rw [wr_j _ _ (by omega)]; exact e2 x h1) (wr_s _ _ _ _)) rfl
set_option maxRecDepth 4000 in
theorem l_X6_find_2 (G : GE) (h hc : Mem) (l p : Nat) (Q : Option Value → Mem → Prop) (hp : p ≤ 100) (e1 : same [115] h hc) (e2 : ∀ x, x < p → hc 115 x = -1000000) (K : ∀ hc, same [115] h hc → (∀ x, x < 100 → hc 115 x = -1000000) → V idsB G RX6 cX6_find 8 (some .boolean) (rmD 3) 52 [some (.ref (ad G 100)), some (.int (nI l)), some (.int (nI 100)), none, none, none, none, none] [] hc Q) : V idsB G RX6 cX6_find 8 (some .boolean) (rmD 3) 32 [some (.ref (ad G 100)), some (.int (nI l)), some (.int (nI p)), none, none, none, none, none] [] hc Q := by
  induction hm : 100 - p using Nat.strongRecOn generalizing hc p with
  | _ m ih =>
    subst hm
    refine V_iload2 dX6_find_32 ?_
    refine V_bipush (nI 100) dX6_find_33 (by decide) ?_
    first | refine V_icmp_ge_n 52 dX6_find_35 (by decide) (by omega) (by omega) (fun c35 => ?_) (fun c35 => ?_) | refine V_icmp_ge 52 dX6_find_35 (by decide) (fun c35 => ?_) (fun c35 => ?_)
    · obtain rfl : p = 100 := by omega
      exact K hc e1 e2
    · refine V_aload0 dX6_find_38 ?_
      refine gX6_44 dX6_find_39 ?_
      refine V_iload2 dX6_find_42 ?_
      refine V_ldc ct_X6_93 dX6_find_43 ?_
      refine V_iastore (by decide) aI_115 (by decide) rfl (by first | assumption | omega) dX6_find_45 ?_
      first | refine V_iinc2_n 1 dX6_find_46 (by decide) (by decide) rfl ?_ | refine V_iinc2 (nI 1) dX6_find_46 (by decide) (by decide) rfl ?_
      refine V_goto 32 dX6_find_49 (by decide) ?_
      exact ih _ (by omega) _ (p + 1) (by omega) (e1.wr _ _ (by decide)) (lt_s (fun x h1 => by rw [wr_j _ _ (by omega)]; exact e2 x h1) (wr_s _ _ _ _)) rfl
set_option maxRecDepth 4000 in
theorem l_X6_find (G : GE) (h hc : Mem) (N : Ng) (i : Inv N) (r : RBn N h) (l : Nat) (hl : l < nNl N) (hw0 : nWy N l = []) (D : Nat → Option Nat) (b p d : Nat) (hp : p < 100) (hd : d ≤ 4) (o5 o6 o7 : OV) (e1 : same [115, 116, 117] h hc) (hC : hasC D hc) (hW : hasW N hc) (hB : BF (nSh N) (bw N) (nGl N l) D) (hb : b = 1 ∨ (b = 0 ∧ (∀ p' d', d' < 4 → (p' < p ∨ (p' = p ∧ d' < d)) → okE (nSh N) (bw N) D p' d'))) : V idsB G RX6 cX6_find 8 (some .boolean) (rmD 3) 105 [some (.ref (ad G 100)), some (.int (nI l)), some (.int (nI b)), some (.int (nI p)), some (.int (nI d)), o5, o6, o7] [] hc (Qi (fun v h' => same [115, 116, 117] h h' ∧ hasC (nD N l) h' ∧ hasW N h' ∧ v = bz (¬ nD N l (nSt N l) = none))) := by
  induction hn : mu D * 2000 + b * 1000 + (100 - p) * 5 + (4 - d) using Nat.strongRecOn generalizing hc D b p d o5 o6 o7 with
  | _ n ih =>
    subst hn
    have hnl := i.nl
    have hnp := i.np
    have hab := i.ab hl
    have hb1 : b ≤ 1 := by rcases hb with z | z <;> omega
    refine V_iload4 dX6_find_105 ?_
    refine V_iconst (nI 4) dX6_find_107 (by decide) ?_
    first | refine V_icmp_ge_n 247 dX6_find_108 (by decide) (by omega) (by omega) (fun c108 => ?_) (fun c108 => ?_) | refine V_icmp_ge 247 dX6_find_108 (by decide) (fun c108 => ?_) (fun c108 => ?_)
    · have hpd : (∀ p' d', d' < 4 → (p' < p ∨ (p' = p ∧ d' < d)) → okE (nSh N) (bw N) D p' d') → ∀ p' d', d' < 4 → p' < p + 1 → okE (nSh N) (bw N) D p' d' := fun z p' d' hd' hh => z p' d' hd' (by omega)
      first | refine V_iinc3_n 1 dX6_find_247 (by decide) (by decide) rfl ?_ | refine V_iinc3 (nI 1) dX6_find_247 (by decide) (by decide) rfl ?_
      refine V_goto 96 dX6_find_250 (by decide) ?_
      refine V_iload3 dX6_find_96 ?_
      refine V_bipush (nI 100) dX6_find_97 (by decide) ?_
      first | refine V_icmp_ge_n 253 dX6_find_99 (by decide) (by omega) (by omega) (fun c99 => ?_) (fun c99 => ?_) | refine V_icmp_ge 253 dX6_find_99 (by decide) (fun c99 => ?_) (fun c99 => ?_)
      · refine V_goto 88 dX6_find_253 (by decide) ?_
        by_cases e88 : b = 0
        · subst e88
          have hall : ∀ p' d', p' < 100 → d' < 4 → okE (nSh N) (bw N) D p' d' := fun p' d' hp' hd' => hpd (hb.elim (fun z => absurd z (by decide)) (fun z => z.2)) p' d' hd' (by omega)
          have heq := hB.end i hw0 hall
          refine V_iload2 dX6_find_88 ?_
          first | refine V_if_eq_z 256 dX6_find_89 (by decide) (fun c89 => ?_) (fun c89 => ?_) | refine V_if_eq_n 256 dX6_find_89 (by decide) (by omega) (fun c89 => ?_) (fun c89 => ?_) | refine V_if_eq 256 dX6_find_89 (by decide) (fun c89 => ?_) (fun c89 => ?_)
          · refine V_aload0 dX6_find_256 ?_
            refine gX6_44 dX6_find_257 ?_
            refine V_aload0 dX6_find_260 ?_
            refine gX6_23 dX6_find_261 ?_
            refine V_aload0 dX6_find_264 ?_
            refine gX6_26 dX6_find_265 ?_
            refine V_iload1 dX6_find_268 ?_
            refine V_iaload (by decide) aI_109 (by decide) rfl (by omega) dX6_find_269 ?_
            rw [e1 109 (by decide), (r.2.2.2.2.1 l hl).1]
            refine V_iaload (by decide) aI_107 (by decide) rfl (by omega) dX6_find_270 ?_
            rw [e1 107 (by decide), r.2.2.1 _ hab.1]
            refine V_iaload (by decide) aI_115 (by decide) rfl (i.st hl) dX6_find_271 ?_
            have hst := heq (nSt N l) (i.st hl)
            have hfin := hasC_cong hC heq
            cases e5 : D (nSt N l) with
            | none =>
              rw [show hc 115 (nPp N (nLa N l)) = -1000000 from (hC _ (i.st hl)).1 e5]
              refine V_ldc ct_X6_93 dX6_find_272 ?_
              refine V_icmp_eq 281 dX6_find_274 (by decide) (fun c274 => ?_) (fun c274 => absurd rfl c274)
              refine V_iconst (nI 0) dX6_find_281 (by decide) ?_
              refine V_zreti dX6_find_282 (by first | exact bz_01 | exact nI_01 (Or.inl rfl) | exact nI_01 (Or.inr rfl) | assumption) ?_
              rw [e5] at hst
              exact ⟨e1, hfin, hW, bz_r0 (fun y => y hst.symm)⟩
            | some y =>
              obtain ⟨k1, k2, k3, k4⟩ := (hC _ (i.st hl)).2 y e5
              rw [show hc 115 (nPp N (nLa N l)) = nI (y / 128) from k1]
              refine V_ldc ct_X6_93 dX6_find_272 ?_
              refine V_icmp_eq 281 dX6_find_274 (by decide) (fun c274 => absurd c274 (nI_m (by omega))) (fun c274 => ?_)
              refine V_iconst (nI 1) dX6_find_277 (by decide) ?_
              refine V_goto 282 dX6_find_278 (by decide) ?_
              refine V_zreti dX6_find_282 (by first | exact bz_01 | exact nI_01 (Or.inl rfl) | exact nI_01 (Or.inr rfl) | assumption) ?_
              rw [e5] at hst
              exact ⟨e1, hfin, hW, bz_r1 (fun y => by rw [← hst] at y; cases y)⟩
          · exact absurd rfl c89 --end
        · obtain rfl : b = 1 := hb.elim id (fun z => absurd z.1 e88)
          refine V_iload2 dX6_find_88 ?_
          first | refine V_if_eq_z 256 dX6_find_89 (by decide) (fun c89 => ?_) (fun c89 => ?_) | refine V_if_eq_n 256 dX6_find_89 (by decide) (by omega) (fun c89 => ?_) (fun c89 => ?_) | refine V_if_eq 256 dX6_find_89 (by decide) (fun c89 => ?_) (fun c89 => ?_)
          · exact absurd c89 (by decide) --end
          · refine V_iconst (nI 0) dX6_find_92 (by decide) ?_
            refine V_istore2 dX6_find_93 (by decide) rfl ?_
            refine V_iconst (nI 0) dX6_find_94 (by decide) ?_
            refine V_istore3 dX6_find_95 (by decide) rfl ?_
            refine V_iload3 dX6_find_96 ?_
            refine V_bipush (nI 100) dX6_find_97 (by decide) ?_
            first | refine V_icmp_ge_n 253 dX6_find_99 (by decide) (by omega) (by omega) (fun c99 => ?_) (fun c99 => ?_) | refine V_icmp_ge 253 dX6_find_99 (by decide) (fun c99 => ?_) (fun c99 => ?_)
            · exact absurd c99 (by decide) --end
            · refine V_iconst (nI 0) dX6_find_102 (by decide) ?_
              refine V_istore4 dX6_find_103 (by decide) rfl ?_
              exact ih _ (by omega) hc D 0 0 0 (by decide) (by decide) _ _ _ e1 hC hW hB (Or.inr ⟨rfl, fun p' d' hd' hh => absurd hh (by omega)⟩) rfl
      · refine V_iconst (nI 0) dX6_find_102 (by decide) ?_
        refine V_istore4 dX6_find_103 (by decide) rfl ?_
        exact ih _ (by omega) hc D b (p + 1) 0 (by omega) (by decide) _ _ _ e1 hC hW hB (hb.imp id (fun z => ⟨z.1, fun p' d' hd' hh => hpd z.2 p' d' hd' (by omega)⟩)) rfl
    · refine V_aload0 dX6_find_111 ?_
      refine gX6_19 dX6_find_112 ?_
      refine V_iload3 dX6_find_115 ?_
      refine V_baload (by decide) aZ_105 (by decide) rfl (by first | assumption | omega) dX6_find_116 ?_
      rw [e1 105 (by decide), r.2.2.2.1 p hp]
      first | refine V_if_ne_z 247 dX6_find_117 (by decide) (fun c117 => ?_) (fun c117 => ?_) | refine V_if_ne_n 247 dX6_find_117 (by decide) (by omega) (fun c117 => ?_) (fun c117 => ?_) | refine V_if_ne 247 dX6_find_117 (by decide) (fun c117 => ?_) (fun c117 => ?_)
      · have hpd : (∀ p' d', d' < 4 → (p' < p ∨ (p' = p ∧ d' < d)) → okE (nSh N) (bw N) D p' d') → ∀ p' d', d' < 4 → p' < p + 1 → okE (nSh N) (bw N) D p' d' := fun z p' d' hd' hh => (show p' < p ∨ p' = p by omega).elim (fun y => z p' d' hd' (Or.inl y)) (fun y q x h1 h2 h3 => by rw [y, c117] at h2; cases h2)
        first | refine V_iinc3_n 1 dX6_find_247 (by decide) (by decide) rfl ?_ | refine V_iinc3 (nI 1) dX6_find_247 (by decide) (by decide) rfl ?_
        refine V_goto 96 dX6_find_250 (by decide) ?_
        refine V_iload3 dX6_find_96 ?_
        refine V_bipush (nI 100) dX6_find_97 (by decide) ?_
        first | refine V_icmp_ge_n 253 dX6_find_99 (by decide) (by omega) (by omega) (fun c99 => ?_) (fun c99 => ?_) | refine V_icmp_ge 253 dX6_find_99 (by decide) (fun c99 => ?_) (fun c99 => ?_)
        · refine V_goto 88 dX6_find_253 (by decide) ?_
          by_cases e88 : b = 0
          · subst e88
            have hall : ∀ p' d', p' < 100 → d' < 4 → okE (nSh N) (bw N) D p' d' := fun p' d' hp' hd' => hpd (hb.elim (fun z => absurd z (by decide)) (fun z => z.2)) p' d' hd' (by omega)
            have heq := hB.end i hw0 hall
            refine V_iload2 dX6_find_88 ?_
            first | refine V_if_eq_z 256 dX6_find_89 (by decide) (fun c89 => ?_) (fun c89 => ?_) | refine V_if_eq_n 256 dX6_find_89 (by decide) (by omega) (fun c89 => ?_) (fun c89 => ?_) | refine V_if_eq 256 dX6_find_89 (by decide) (fun c89 => ?_) (fun c89 => ?_)
            · refine V_aload0 dX6_find_256 ?_
              refine gX6_44 dX6_find_257 ?_
              refine V_aload0 dX6_find_260 ?_
              refine gX6_23 dX6_find_261 ?_
              refine V_aload0 dX6_find_264 ?_
              refine gX6_26 dX6_find_265 ?_
              refine V_iload1 dX6_find_268 ?_
              refine V_iaload (by decide) aI_109 (by decide) rfl (by omega) dX6_find_269 ?_
              rw [e1 109 (by decide), (r.2.2.2.2.1 l hl).1]
              refine V_iaload (by decide) aI_107 (by decide) rfl (by omega) dX6_find_270 ?_
              rw [e1 107 (by decide), r.2.2.1 _ hab.1]
              refine V_iaload (by decide) aI_115 (by decide) rfl (i.st hl) dX6_find_271 ?_
              have hst := heq (nSt N l) (i.st hl)
              have hfin := hasC_cong hC heq
              cases e5 : D (nSt N l) with
              | none =>
                rw [show hc 115 (nPp N (nLa N l)) = -1000000 from (hC _ (i.st hl)).1 e5]
                refine V_ldc ct_X6_93 dX6_find_272 ?_
                refine V_icmp_eq 281 dX6_find_274 (by decide) (fun c274 => ?_) (fun c274 => absurd rfl c274)
                refine V_iconst (nI 0) dX6_find_281 (by decide) ?_
                refine V_zreti dX6_find_282 (by first | exact bz_01 | exact nI_01 (Or.inl rfl) | exact nI_01 (Or.inr rfl) | assumption) ?_
                rw [e5] at hst
                exact ⟨e1, hfin, hW, bz_r0 (fun y => y hst.symm)⟩
              | some y =>
                obtain ⟨k1, k2, k3, k4⟩ := (hC _ (i.st hl)).2 y e5
                rw [show hc 115 (nPp N (nLa N l)) = nI (y / 128) from k1]
                refine V_ldc ct_X6_93 dX6_find_272 ?_
                refine V_icmp_eq 281 dX6_find_274 (by decide) (fun c274 => absurd c274 (nI_m (by omega))) (fun c274 => ?_)
                refine V_iconst (nI 1) dX6_find_277 (by decide) ?_
                refine V_goto 282 dX6_find_278 (by decide) ?_
                refine V_zreti dX6_find_282 (by first | exact bz_01 | exact nI_01 (Or.inl rfl) | exact nI_01 (Or.inr rfl) | assumption) ?_
                rw [e5] at hst
                exact ⟨e1, hfin, hW, bz_r1 (fun y => by rw [← hst] at y; cases y)⟩
            · exact absurd rfl c89 --end
          · obtain rfl : b = 1 := hb.elim id (fun z => absurd z.1 e88)
            refine V_iload2 dX6_find_88 ?_
            first | refine V_if_eq_z 256 dX6_find_89 (by decide) (fun c89 => ?_) (fun c89 => ?_) | refine V_if_eq_n 256 dX6_find_89 (by decide) (by omega) (fun c89 => ?_) (fun c89 => ?_) | refine V_if_eq 256 dX6_find_89 (by decide) (fun c89 => ?_) (fun c89 => ?_)
            · exact absurd c89 (by decide) --end
            · refine V_iconst (nI 0) dX6_find_92 (by decide) ?_
              refine V_istore2 dX6_find_93 (by decide) rfl ?_
              refine V_iconst (nI 0) dX6_find_94 (by decide) ?_
              refine V_istore3 dX6_find_95 (by decide) rfl ?_
              refine V_iload3 dX6_find_96 ?_
              refine V_bipush (nI 100) dX6_find_97 (by decide) ?_
              first | refine V_icmp_ge_n 253 dX6_find_99 (by decide) (by omega) (by omega) (fun c99 => ?_) (fun c99 => ?_) | refine V_icmp_ge 253 dX6_find_99 (by decide) (fun c99 => ?_) (fun c99 => ?_)
              · exact absurd c99 (by decide) --end
              · refine V_iconst (nI 0) dX6_find_102 (by decide) ?_
                refine V_istore4 dX6_find_103 (by decide) rfl ?_
                exact ih _ (by omega) hc D 0 0 0 (by decide) (by decide) _ _ _ e1 hC hW hB (Or.inr ⟨rfl, fun p' d' hd' hh => absurd hh (by omega)⟩) rfl
        · refine V_iconst (nI 0) dX6_find_102 (by decide) ?_
          refine V_istore4 dX6_find_103 (by decide) rfl ?_
          exact ih _ (by omega) hc D b (p + 1) 0 (by omega) (by decide) _ _ _ e1 hC hW hB (hb.imp id (fun z => ⟨z.1, fun p' d' hd' hh => hpd z.2 p' d' hd' (by omega)⟩)) rfl
      · have hop : nSh N p = false := Bool.eq_false_iff.mpr c117
        refine V_iload3 dX6_find_120 ?_
        refine V_iload4 dX6_find_121 ?_
        refine kX6_105 (m_X6_go _ _ _ _ hp (by omega)) (rOK_d (by decide) (by decide)) (Nat.le_of_ble_eq_true rfl) dX6_find_123 (fun r123 h123 hq123 => ?_)
        obtain ⟨e_, rfl⟩ := hq123
        replace e_ := e_.symm
        subst e_
        cases e : nb p d with
        | none =>
          rw [oI_n]
          refine V_istore5 dX6_find_126 (by decide) rfl ?_
          refine V_iload5 dX6_find_128 ?_
          refine V_ldc ct_X6_93 dX6_find_130 ?_
          refine V_icmp_eq 241 dX6_find_132 (by decide) (fun c132 => ?_) (fun c132 => absurd rfl c132)
          have hok : okE (nSh N) (bw N) D p d := fun q' x' h1 h2 h3 => by rw [e] at h1; cases h1
          first | refine V_iinc4_n 1 dX6_find_241 (by decide) (by decide) rfl ?_ | refine V_iinc4 (nI 1) dX6_find_241 (by decide) (by decide) rfl ?_
          refine V_goto 105 dX6_find_244 (by decide) ?_
          exact ih _ (by omega) hc D b p (d + 1) hp (by omega) _ _ _ e1 hC hW hB (hb.imp id (fun z => ⟨z.1, fun p' d' hd' hh => (show (p' < p ∨ (p' = p ∧ d' < d)) ∨ (p' = p ∧ d' = d) by omega).elim (z.2 p' d' hd') (fun y => by rw [y.1, y.2]; exact hok)⟩)) rfl
        | some q =>
          rw [oI_s]
          have hq := nb_lt hp e
          have hps := phi_sB hp (show d < 4 by omega) e
          refine V_istore5 dX6_find_126 (by decide) rfl ?_
          refine V_iload5 dX6_find_128 ?_
          refine V_ldc ct_X6_93 dX6_find_130 ?_
          refine V_icmp_eq 241 dX6_find_132 (by decide) (fun c132 => absurd c132 (nI_m (show q < 2 ^ 31 by omega))) (fun c132 => ?_)
          refine V_aload0 dX6_find_135 ?_
          refine gX6_44 dX6_find_136 ?_
          refine V_iload5 dX6_find_139 ?_
          refine V_iaload (by decide) aI_115 (by decide) rfl (by first | assumption | omega) dX6_find_141 ?_
          cases e2 : D q with
          | none =>
            rw [(hC q hq).1 e2]
            refine V_ldc ct_X6_93 dX6_find_142 ?_
            refine V_icmp_eq 241 dX6_find_144 (by decide) (fun c144 => ?_) (fun c144 => absurd rfl c144)
            have hok : okE (nSh N) (bw N) D p d := fun q' x' h1 h2 h3 => by rw [e] at h1; cases h1; rw [e2] at h3; cases h3
            first | refine V_iinc4_n 1 dX6_find_241 (by decide) (by decide) rfl ?_ | refine V_iinc4 (nI 1) dX6_find_241 (by decide) (by decide) rfl ?_
            refine V_goto 105 dX6_find_244 (by decide) ?_
            exact ih _ (by omega) hc D b p (d + 1) hp (by omega) _ _ _ e1 hC hW hB (hb.imp id (fun z => ⟨z.1, fun p' d' hd' hh => (show (p' < p ∨ (p' = p ∧ d' < d)) ∨ (p' = p ∧ d' = d) by omega).elim (z.2 p' d' hd') (fun y => by rw [y.1, y.2]; exact hok)⟩)) rfl
          | some x =>
            obtain ⟨k1, k2, k3, k4⟩ := (hC q hq).2 x e2
            have hbw : bw N (sA p q d) = pw N (sA p q d) * 128 + 1 := rfl
            have hpw := pw_b i (sA p q d)
            rw [k1]
            refine V_ldc ct_X6_93 dX6_find_142 ?_
            refine V_icmp_eq 241 dX6_find_144 (by decide) (fun c144 => absurd c144 (nI_m (by omega))) (fun c144 => ?_)
            refine V_aload0 dX6_find_147 ?_
            refine gX6_44 dX6_find_148 ?_
            refine V_iload5 dX6_find_151 ?_
            refine V_iaload (by decide) aI_115 (by decide) rfl (by first | assumption | omega) dX6_find_153 ?_
            rw [k1]
            refine V_aload0 dX6_find_154 ?_
            refine gX6_50 dX6_find_155 ?_
            refine V_iload3 dX6_find_158 ?_
            refine V_iload4 dX6_find_159 ?_
            refine kX6_109 (m_X6_side _ _ _ _ hp (by omega) (nb_h3 e) (nb_h0 e)) (rOK_d (by decide) (by decide)) (Nat.le_of_ble_eq_true rfl) dX6_find_161 (fun r161 h161 hq161 => ?_)
            obtain ⟨e_, rfl⟩ := hq161
            replace e_ := e_.symm
            subst e_
            refine V_iaload (by decide) aI_117 (by decide) rfl hps.1 dX6_find_164 ?_
            rw [hW _ hps.1, hps.2]
            first | refine V_iadd_n dX6_find_165 ?_ | refine V_iadd dX6_find_165 ?_
            refine V_istore6 dX6_find_166 (by decide) rfl ?_
            refine V_aload0 dX6_find_168 ?_
            refine gX6_47 dX6_find_169 ?_
            refine V_iload5 dX6_find_172 ?_
            refine V_iaload (by decide) aI_116 (by decide) rfl (by first | assumption | omega) dX6_find_174 ?_
            rw [k2]
            refine V_iconst (nI 1) dX6_find_175 (by decide) ?_
            first | refine V_iadd_n dX6_find_176 ?_ | refine V_iadd dX6_find_176 ?_
            refine V_istore7 dX6_find_177 (by decide) rfl ?_
            refine V_aload0 dX6_find_179 ?_
            refine gX6_44 dX6_find_180 ?_
            refine V_iload3 dX6_find_183 ?_
            refine V_iaload (by decide) aI_115 (by decide) rfl (by first | assumption | omega) dX6_find_184 ?_
            cases e3 : D p with
            | none =>
              rw [(hC p hp).1 e3]
              refine V_ldc ct_X6_93 dX6_find_185 ?_
              refine V_icmp_eq 223 dX6_find_187 (by decide) (fun c187 => ?_) (fun c187 => absurd rfl c187)
              have hlt : ∀ z, D p = some z → x + bw N (sA p q d) < z := fun z hz => by rw [e3] at hz; cases hz
              refine V_aload0 dX6_find_223 ?_
              refine gX6_44 dX6_find_224 ?_
              refine V_iload3 dX6_find_227 ?_
              refine V_iload6 dX6_find_228 ?_
              refine V_iastore (by decide) aI_115 (by decide) rfl (by first | assumption | omega) dX6_find_230 ?_
              refine V_aload0 dX6_find_231 ?_
              refine gX6_47 dX6_find_232 ?_
              refine V_iload3 dX6_find_235 ?_
              refine V_iload7 dX6_find_236 ?_
              refine V_iastore (by decide) aI_116 (by decide) rfl (by first | assumption | omega) dX6_find_238 ?_
              refine V_iconst (nI 1) dX6_find_239 (by decide) ?_
              refine V_istore2 dX6_find_240 (by decide) rfl ?_
              first | refine V_iinc4_n 1 dX6_find_241 (by decide) (by decide) rfl ?_ | refine V_iinc4 (nI 1) dX6_find_241 (by decide) (by decide) rfl ?_
              refine V_goto 105 dX6_find_244 (by decide) ?_
              have hlm := hB.relax hp hop (by omega) e e2 (k := pw N (sA p q d)) rfl (pw_b i _).2 hlt
              have hlim := hlm.lim hp (va_up_s _ _ _)
              have hmu := mu_lt hp hlt (by omega)
              have hC2 := hasC_up hC (p := p) hlim.1 hlim.2
              rw [show (x + bw N (sA p q d)) / 128 = x / 128 + pw N (sA p q d) by omega, show (x + bw N (sA p q d)) % 128 = x % 128 + 1 by omega] at hC2
              exact ih _ (by omega) _ (va_up D p (some (x + bw N (sA p q d)))) 1 p (d + 1) hp (by omega) _ _ _ ((e1.wr _ _ (by decide)).wr _ _ (by decide)) hC2 (fun t ht => by rw [wr_c _ _ _ (by decide), wr_c _ _ _ (by decide)]; exact hW t ht) hlm (Or.inl rfl) rfl
            | some z =>
              obtain ⟨j1, j2, j3, j4⟩ := (hC p hp).2 z e3
              rw [j1]
              refine V_ldc ct_X6_93 dX6_find_185 ?_
              refine V_icmp_eq 223 dX6_find_187 (by decide) (fun c187 => absurd c187 (nI_m (by omega))) (fun c187 => ?_)
              refine V_iload6 dX6_find_190 ?_
              refine V_aload0 dX6_find_192 ?_
              refine gX6_44 dX6_find_193 ?_
              refine V_iload3 dX6_find_196 ?_
              refine V_iaload (by decide) aI_115 (by decide) rfl (by first | assumption | omega) dX6_find_197 ?_
              rw [j1]
              first | refine V_icmp_lt_n 223 dX6_find_198 (by decide) (by omega) (by omega) (fun c198 => ?_) (fun c198 => ?_) | refine V_icmp_lt 223 dX6_find_198 (by decide) (fun c198 => ?_) (fun c198 => ?_)
              · have hlt : ∀ z, D p = some z → x + bw N (sA p q d) < z := fun z0 hz => by rw [e3] at hz; cases hz; omega
                refine V_aload0 dX6_find_223 ?_
                refine gX6_44 dX6_find_224 ?_
                refine V_iload3 dX6_find_227 ?_
                refine V_iload6 dX6_find_228 ?_
                refine V_iastore (by decide) aI_115 (by decide) rfl (by first | assumption | omega) dX6_find_230 ?_
                refine V_aload0 dX6_find_231 ?_
                refine gX6_47 dX6_find_232 ?_
                refine V_iload3 dX6_find_235 ?_
                refine V_iload7 dX6_find_236 ?_
                refine V_iastore (by decide) aI_116 (by decide) rfl (by first | assumption | omega) dX6_find_238 ?_
                refine V_iconst (nI 1) dX6_find_239 (by decide) ?_
                refine V_istore2 dX6_find_240 (by decide) rfl ?_
                first | refine V_iinc4_n 1 dX6_find_241 (by decide) (by decide) rfl ?_ | refine V_iinc4 (nI 1) dX6_find_241 (by decide) (by decide) rfl ?_
                refine V_goto 105 dX6_find_244 (by decide) ?_
                have hlm := hB.relax hp hop (by omega) e e2 (k := pw N (sA p q d)) rfl (pw_b i _).2 hlt
                have hlim := hlm.lim hp (va_up_s _ _ _)
                have hmu := mu_lt hp hlt (by omega)
                have hC2 := hasC_up hC (p := p) hlim.1 hlim.2
                rw [show (x + bw N (sA p q d)) / 128 = x / 128 + pw N (sA p q d) by omega, show (x + bw N (sA p q d)) % 128 = x % 128 + 1 by omega] at hC2
                exact ih _ (by omega) _ (va_up D p (some (x + bw N (sA p q d)))) 1 p (d + 1) hp (by omega) _ _ _ ((e1.wr _ _ (by decide)).wr _ _ (by decide)) hC2 (fun t ht => by rw [wr_c _ _ _ (by decide), wr_c _ _ _ (by decide)]; exact hW t ht) hlm (Or.inl rfl) rfl
              · refine V_iload6 dX6_find_201 ?_
                refine V_aload0 dX6_find_203 ?_
                refine gX6_44 dX6_find_204 ?_
                refine V_iload3 dX6_find_207 ?_
                refine V_iaload (by decide) aI_115 (by decide) rfl (by first | assumption | omega) dX6_find_208 ?_
                rw [j1]
                first | refine V_icmp_ne_n 241 dX6_find_209 (by decide) (by omega) (by omega) (fun c209 => ?_) (fun c209 => ?_) | refine V_icmp_ne 241 dX6_find_209 (by decide) (fun c209 => ?_) (fun c209 => ?_)
                · have hok : okE (nSh N) (bw N) D p d := fun q1 x1 h1 h2 h3 => by rw [e] at h1; cases h1; rw [e2] at h3; cases h3; exact ⟨z, e3, by omega⟩
                  first | refine V_iinc4_n 1 dX6_find_241 (by decide) (by decide) rfl ?_ | refine V_iinc4 (nI 1) dX6_find_241 (by decide) (by decide) rfl ?_
                  refine V_goto 105 dX6_find_244 (by decide) ?_
                  exact ih _ (by omega) hc D b p (d + 1) hp (by omega) _ _ _ e1 hC hW hB (hb.imp id (fun z => ⟨z.1, fun p' d' hd' hh => (show (p' < p ∨ (p' = p ∧ d' < d)) ∨ (p' = p ∧ d' = d) by omega).elim (z.2 p' d' hd') (fun y => by rw [y.1, y.2]; exact hok)⟩)) rfl
                · refine V_iload7 dX6_find_212 ?_
                  refine V_aload0 dX6_find_214 ?_
                  refine gX6_47 dX6_find_215 ?_
                  refine V_iload3 dX6_find_218 ?_
                  refine V_iaload (by decide) aI_116 (by decide) rfl (by first | assumption | omega) dX6_find_219 ?_
                  rw [j2]
                  first | refine V_icmp_ge_n 241 dX6_find_220 (by decide) (by omega) (by omega) (fun c220 => ?_) (fun c220 => ?_) | refine V_icmp_ge 241 dX6_find_220 (by decide) (fun c220 => ?_) (fun c220 => ?_)
                  · have hok : okE (nSh N) (bw N) D p d := fun q1 x1 h1 h2 h3 => by rw [e] at h1; cases h1; rw [e2] at h3; cases h3; exact ⟨z, e3, by omega⟩
                    first | refine V_iinc4_n 1 dX6_find_241 (by decide) (by decide) rfl ?_ | refine V_iinc4 (nI 1) dX6_find_241 (by decide) (by decide) rfl ?_
                    refine V_goto 105 dX6_find_244 (by decide) ?_
                    exact ih _ (by omega) hc D b p (d + 1) hp (by omega) _ _ _ e1 hC hW hB (hb.imp id (fun z => ⟨z.1, fun p' d' hd' hh => (show (p' < p ∨ (p' = p ∧ d' < d)) ∨ (p' = p ∧ d' = d) by omega).elim (z.2 p' d' hd') (fun y => by rw [y.1, y.2]; exact hok)⟩)) rfl
                  · have hlt : ∀ z, D p = some z → x + bw N (sA p q d) < z := fun z0 hz => by rw [e3] at hz; cases hz; omega
                    refine V_aload0 dX6_find_223 ?_
                    refine gX6_44 dX6_find_224 ?_
                    refine V_iload3 dX6_find_227 ?_
                    refine V_iload6 dX6_find_228 ?_
                    refine V_iastore (by decide) aI_115 (by decide) rfl (by first | assumption | omega) dX6_find_230 ?_
                    refine V_aload0 dX6_find_231 ?_
                    refine gX6_47 dX6_find_232 ?_
                    refine V_iload3 dX6_find_235 ?_
                    refine V_iload7 dX6_find_236 ?_
                    refine V_iastore (by decide) aI_116 (by decide) rfl (by first | assumption | omega) dX6_find_238 ?_
                    refine V_iconst (nI 1) dX6_find_239 (by decide) ?_
                    refine V_istore2 dX6_find_240 (by decide) rfl ?_
                    first | refine V_iinc4_n 1 dX6_find_241 (by decide) (by decide) rfl ?_ | refine V_iinc4 (nI 1) dX6_find_241 (by decide) (by decide) rfl ?_
                    refine V_goto 105 dX6_find_244 (by decide) ?_
                    have hlm := hB.relax hp hop (by omega) e e2 (k := pw N (sA p q d)) rfl (pw_b i _).2 hlt
                    have hlim := hlm.lim hp (va_up_s _ _ _)
                    have hmu := mu_lt hp hlt (by omega)
                    have hC2 := hasC_up hC (p := p) hlim.1 hlim.2
                    rw [show (x + bw N (sA p q d)) / 128 = x / 128 + pw N (sA p q d) by omega, show (x + bw N (sA p q d)) % 128 = x % 128 + 1 by omega] at hC2
                    exact ih _ (by omega) _ (va_up D p (some (x + bw N (sA p q d)))) 1 p (d + 1) hp (by omega) _ _ _ ((e1.wr _ _ (by decide)).wr _ _ (by decide)) hC2 (fun t ht => by rw [wr_c _ _ _ (by decide), wr_c _ _ _ (by decide)]; exact hW t ht) hlm (Or.inl rfl) rfl
set_option maxRecDepth 4000 in
theorem m_X6_find (G : GE) (h : Mem) (N : Ng) (i : Inv N) (r : RBn N h) (l : Nat) (hl : l < nNl N) (hw0 : nWy N l = []) : Ct idsB G yX6_find cX6_find 8 (some .boolean) (rmD 3) [.ref (ad G 100), .int (nI l)] h (Qi fun v h' => same [115, 116, 117] h h' ∧ hasC (nD N l) h' ∧ hasW N h' ∧ v = bz (¬ nD N l (nSt N l) = none)) := by
  refine Ct.of [some (.ref (ad G 100)), some (.int (nI l)), none, none, none, none, none, none] (by decide) (Nat.le_of_ble_eq_true rfl) (lvE_ok 6 rfl) ?_
  have hnl := i.nl
  have hnp := i.np
  have hab := i.ab hl
  refine V_iconst (nI 0) dX6_find_0 (by decide) ?_
  refine V_istore2 dX6_find_1 (by decide) rfl ?_
  refine l_X6_find_1 G h h N i r l 0 _ (by decide) same.rf (fun _ z => absurd z (Nat.not_lt_zero _)) (fun h1 s1 w1 => ?_)
  refine V_iconst (nI 0) dX6_find_30 (by decide) ?_
  refine V_istore2 dX6_find_31 (by decide) rfl ?_
  refine l_X6_find_2 G h1 h1 l 0 _ (by decide) same.rf (fun _ z => absurd z (Nat.not_lt_zero _)) (fun h2 s2 w2 => ?_)
  have r2 := (r.same s1 (by unfold offB; decide)).same s2 (by unfold offB; decide)
  have hgl := i.gl hl
  refine V_aload0 dX6_find_52 ?_
  refine gX6_44 dX6_find_53 ?_
  refine V_aload0 dX6_find_56 ?_
  refine gX6_23 dX6_find_57 ?_
  refine V_aload0 dX6_find_60 ?_
  refine gX6_29 dX6_find_61 ?_
  refine V_iload1 dX6_find_64 ?_
  refine V_iaload (by decide) aI_110 (by decide) rfl (by omega) dX6_find_65 ?_
  rw [(r2.2.2.2.2.1 l hl).2]
  refine V_iaload (by decide) aI_107 (by decide) rfl (by omega) dX6_find_66 ?_
  rw [r2.2.2.1 _ hab.2.1]
  refine V_iconst (nI 0) dX6_find_67 (by decide) ?_
  refine V_iastore (by decide) aI_115 (by decide) rfl hgl dX6_find_68 ?_
  refine V_aload0 dX6_find_69 ?_
  refine gX6_47 dX6_find_70 ?_
  refine V_aload0 dX6_find_73 ?_
  refine gX6_23 dX6_find_74 ?_
  refine V_aload0 dX6_find_77 ?_
  refine gX6_29 dX6_find_78 ?_
  refine V_iload1 dX6_find_81 ?_
  refine V_iaload (by decide) aI_110 (by decide) rfl (by omega) dX6_find_82 ?_
  rw [wr_c _ _ _ (by decide), (r2.2.2.2.2.1 l hl).2]
  refine V_iaload (by decide) aI_107 (by decide) rfl (by omega) dX6_find_83 ?_
  rw [wr_c _ _ _ (by decide), r2.2.2.1 _ hab.2.1]
  refine V_iconst (nI 0) dX6_find_84 (by decide) ?_
  refine V_iastore (by decide) aI_116 (by decide) rfl hgl dX6_find_85 ?_
  refine V_iconst (nI 1) dX6_find_86 (by decide) ?_
  refine V_istore2 dX6_find_87 (by decide) rfl ?_
  refine V_iload2 dX6_find_88 ?_
  first | refine V_if_eq_z 256 dX6_find_89 (by decide) (fun c89 => ?_) (fun c89 => ?_) | refine V_if_eq_n 256 dX6_find_89 (by decide) (by omega) (fun c89 => ?_) (fun c89 => ?_) | refine V_if_eq 256 dX6_find_89 (by decide) (fun c89 => ?_) (fun c89 => ?_)
  · exact absurd c89 (by decide) --end
  · refine V_iconst (nI 0) dX6_find_92 (by decide) ?_
    refine V_istore2 dX6_find_93 (by decide) rfl ?_
    refine V_iconst (nI 0) dX6_find_94 (by decide) ?_
    refine V_istore3 dX6_find_95 (by decide) rfl ?_
    refine V_iload3 dX6_find_96 ?_
    refine V_bipush (nI 100) dX6_find_97 (by decide) ?_
    first | refine V_icmp_ge_n 253 dX6_find_99 (by decide) (by omega) (by omega) (fun c99 => ?_) (fun c99 => ?_) | refine V_icmp_ge 253 dX6_find_99 (by decide) (fun c99 => ?_) (fun c99 => ?_)
    · exact absurd c99 (by decide) --end
    · refine V_iconst (nI 0) dX6_find_102 (by decide) ?_
      refine V_istore4 dX6_find_103 (by decide) rfl ?_
      refine l_X6_find G h _ N i r l hl hw0 (fun p => if p = nGl N l then some 0 else none) 0 0 0 (by decide) (by decide) _ _ _ ?_ ?_ ?_ (BF.nil _ _ _) (Or.inr ⟨rfl, fun p' d' hd' hh => absurd hh (by omega)⟩)
      · exact same.wr (same.wr (fun c hc => by rw [s2 c (fun z => hc (by simp at z ⊢; omega)), s1 c (fun z => hc (by simp at z ⊢; omega))]) _ _ (by decide)) _ _ (by decide)
      · intro p hp
        by_cases e : p = nGl N l
        · refine ⟨fun z => ?_, fun y z => ?_⟩
          · replace z : (if p = nGl N l then (some 0 : Option Nat) else none) = none := z
            rw [if_pos e] at z; cases z
          · replace z : (if p = nGl N l then (some 0 : Option Nat) else none) = some y := z
            rw [if_pos e] at z
            cases z
            rw [e]
            refine ⟨?_, ?_, by decide, by decide⟩
            · rw [wr_c _ _ _ (by decide)]; exact wr_s _ _ _ _
            · exact wr_s _ _ _ _
        · refine ⟨fun _ => ?_, fun y z => ?_⟩
          · rw [wr_c _ _ _ (by decide)]
            exact (wr_j _ _ e).trans (w2 p hp)
          · replace z : (if p = nGl N l then (some 0 : Option Nat) else none) = some y := z
            rw [if_neg e] at z; cases z
      · intro s hs
        rw [wr_c _ _ _ (by decide), wr_c _ _ _ (by decide), s2 117 (by decide)]
        exact w1 s hs
