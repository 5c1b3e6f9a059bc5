theorem end_no {N : Ng} (i : Inv N) {q : Nat} (h : ptF (nPp N) (nNp N) q = none) : ¬ endB N q = true := fun z => by
  obtain ⟨l, hl, -, h2⟩ := endB_t.mp z
  have hab := i.ab hl
  exact h2.elim (ptF_none h _ hab.1) (ptF_none h _ hab.2.1)
set_option maxRecDepth 4000 in
theorem l_X6_reads (G : GE) (h : Mem) (N : Ng) (i : Inv N) (r : RBn N h) (k : Nat) (hk : k < nNp N) (d0 : Int32) (p d g : Nat) (hg : 1 ≤ g ∧ g ≤ 101) (hp : p < 100) (hd : d < 4) (hlf : ¬ lfM (nMk N) p d = 0) (o6 : OV) : V idsB G RX6 cX6_reads 7 (some .int) (rmD 4) 53 [some (.ref (ad G 100)), some (.int (nI k)), some (.int d0), some (.int (nI p)), some (.int (nI d)), some (.int (nI g)), o6] [] h (Qi (fun v h' => h' = h ∧ v = oI (ptF (nPp N) (nNp N) (rdF N (nPp N k) (101 - g) p d)) (-1000000))) := by
  induction hn : 101 - g using Nat.strongRecOn generalizing p d g o6 with
  | _ n ih =>
    subst hn
    have hnp := i.np
    refine V_iload5 dX6_reads_53 ?_
    refine V_bipush (nI 100) dX6_reads_55 (by decide) ?_
    first | refine V_icmp_gt_n 168 dX6_reads_57 (by decide) (by omega) (by omega) (fun c57 => ?_) (fun c57 => ?_) | refine V_icmp_gt 168 dX6_reads_57 (by decide) (fun c57 => ?_) (fun c57 => ?_)
    · refine V_aload0 dX6_reads_168 ?_
      refine V_iload3 dX6_reads_169 ?_
      refine kX6_97 (m_X6_pointOn _ _ N i r p hp) (rOK_d (by decide) (by decide)) (Nat.le_of_ble_eq_true rfl) dX6_reads_170 (fun r170 h170 hq170 => ?_)
      obtain ⟨e_, rfl⟩ := hq170
      replace e_ := e_.symm
      subst e_
      refine V_ireti dX6_reads_173 ?_
      obtain rfl : g = 101 := by omega
      exact ⟨rfl, rfl⟩
    · obtain ⟨q, e⟩ : ∃ q, nb p d = some q := by
        cases e : nb p d with
        | none => exfalso; apply hlf; unfold lfM; rw [e]
        | some q => exact ⟨q, rfl⟩
      have hq := nb_lt hp e
      refine V_iload3 dX6_reads_60 ?_
      refine V_iload4 dX6_reads_61 ?_
      refine kX6_105 (m_X6_go _ _ _ _ hp hd) (rOK_d (by decide) (by decide)) (Nat.le_of_ble_eq_true rfl) dX6_reads_63 (fun r63 h63 hq63 => ?_)
      obtain ⟨e_, rfl⟩ := hq63
      replace e_ := e_.symm
      subst e_
      rw [e, oI_s]
      refine V_istore3 dX6_reads_66 (by decide) rfl ?_
      refine V_aload0 dX6_reads_67 ?_
      refine V_iload3 dX6_reads_68 ?_
      refine kX6_97 (m_X6_pointOn _ _ N i r q hq) (rOK_d (by decide) (by decide)) (Nat.le_of_ble_eq_true rfl) dX6_reads_69 (fun r69 h69 hq69 => ?_)
      obtain ⟨e_, rfl⟩ := hq69
      replace e_ := e_.symm
      subst e_
      refine V_istore6 dX6_reads_72 (by decide) rfl ?_
      cases e6 : ptF (nPp N) (nNp N) q with
      | none =>
        rw [oI_n]
        have hgo : ¬ (q ≠ nPp N k ∧ endB N q = true) := fun z => end_no i e6 z.2
        refine V_iload6 dX6_reads_74 ?_
        refine V_ldc ct_X6_93 dX6_reads_76 ?_
        refine V_icmp_eq 99 dX6_reads_78 (by decide) (fun c78 => ?_) (fun c78 => absurd rfl c78)
        refine V_aload0 dX6_reads_99 ?_
        refine V_iload3 dX6_reads_100 ?_
        refine V_iload4 dX6_reads_101 ?_
        refine kX6_175 (m_X6_isWide _ _ N i r q d hq (by omega)) (rOK_d (by decide) (by decide)) (Nat.le_of_ble_eq_true rfl) dX6_reads_103 (fun r103 h103 hq103 => ?_)
        obtain ⟨e_, rfl⟩ := hq103
        replace e_ := e_.symm
        subst e_
        first | refine V_if_ne_z 162 dX6_reads_106 (by decide) (fun c106 => ?_) (fun c106 => ?_) | refine V_if_ne_n 162 dX6_reads_106 (by decide) (by omega) (fun c106 => ?_) (fun c106 => ?_) | refine V_if_ne 162 dX6_reads_106 (by decide) (fun c106 => ?_) (fun c106 => ?_)
        · first | refine V_iinc5_n 1 dX6_reads_162 (by decide) (by decide) rfl ?_ | refine V_iinc5 (nI 1) dX6_reads_162 (by decide) (by decide) rfl ?_
          refine V_goto 53 dX6_reads_165 (by decide) ?_
          first
          | (have e2 : onwO (nMk N) q d = some d := by unfold onwO; rw [if_pos c106]
             obtain ⟨hd2, hl2⟩ := onwO_some hd e2
             have z := ih _ (by omega) q d (g + 1) (by omega) hq hd2 hl2 (some (.int (oI (ptF (nPp N) (nNp N) q) (-1000000)))) rfl
             rw [e6] at z
             rw [show 101 - g = (101 - (g + 1)) + 1 by omega, rdF, stp_eq e, ite_f hgo, e2]
             exact z)
          | (have e2 : onwO (nMk N) q d = some ((d + 1) % 4) := by unfold onwO; rw [if_neg c106, if_pos c120]
             obtain ⟨hd2, hl2⟩ := onwO_some hd e2
             have z := ih _ (by omega) q ((d + 1) % 4) (g + 1) (by omega) hq hd2 hl2 (some (.int (oI (ptF (nPp N) (nNp N) q) (-1000000)))) rfl
             rw [e6] at z
             rw [show 101 - g = (101 - (g + 1)) + 1 by omega, rdF, stp_eq e, ite_f hgo, e2]
             exact z)
          | (have e2 : onwO (nMk N) q d = some ((d + 3) % 4) := by unfold onwO; rw [if_neg c106, if_neg c120, if_pos c145]
             obtain ⟨hd2, hl2⟩ := onwO_some hd e2
             have z := ih _ (by omega) q ((d + 3) % 4) (g + 1) (by omega) hq hd2 hl2 (some (.int (oI (ptF (nPp N) (nNp N) q) (-1000000)))) rfl
             rw [e6] at z
             rw [show 101 - g = (101 - (g + 1)) + 1 by omega, rdF, stp_eq e, ite_f hgo, e2]
             exact z)
        · refine V_aload0 dX6_reads_109 ?_
          refine V_iload3 dX6_reads_110 ?_
          refine V_iload4 dX6_reads_111 ?_
          refine V_iconst (nI 1) dX6_reads_113 (by decide) ?_
          first | refine V_iadd_n dX6_reads_114 ?_ | refine V_iadd dX6_reads_114 ?_
          refine V_iconst (nI 4) dX6_reads_115 (by decide) ?_
          first | refine V_irem_n dX6_reads_116 (by omega) (by omega) (by omega) ?_ | refine V_irem dX6_reads_116 (by decide) ?_
          refine kX6_175 (m_X6_isWide _ _ N i r q ((d + 1) % 4) hq (by omega)) (rOK_d (by decide) (by decide)) (Nat.le_of_ble_eq_true rfl) dX6_reads_117 (fun r117 h117 hq117 => ?_)
          obtain ⟨e_, rfl⟩ := hq117
          replace e_ := e_.symm
          subst e_
          first | refine V_if_eq_z 134 dX6_reads_120 (by decide) (fun c120 => ?_) (fun c120 => ?_) | refine V_if_eq_n 134 dX6_reads_120 (by decide) (by omega) (fun c120 => ?_) (fun c120 => ?_) | refine V_if_eq 134 dX6_reads_120 (by decide) (fun c120 => ?_) (fun c120 => ?_)
          · refine V_aload0 dX6_reads_134 ?_
            refine V_iload3 dX6_reads_135 ?_
            refine V_iload4 dX6_reads_136 ?_
            refine V_iconst (nI 3) dX6_reads_138 (by decide) ?_
            first | refine V_iadd_n dX6_reads_139 ?_ | refine V_iadd dX6_reads_139 ?_
            refine V_iconst (nI 4) dX6_reads_140 (by decide) ?_
            first | refine V_irem_n dX6_reads_141 (by omega) (by omega) (by omega) ?_ | refine V_irem dX6_reads_141 (by decide) ?_
            refine kX6_175 (m_X6_isWide _ _ N i r q ((d + 3) % 4) hq (by omega)) (rOK_d (by decide) (by decide)) (Nat.le_of_ble_eq_true rfl) dX6_reads_142 (fun r142 h142 hq142 => ?_)
            obtain ⟨e_, rfl⟩ := hq142
            replace e_ := e_.symm
            subst e_
            first | refine V_if_eq_z 159 dX6_reads_145 (by decide) (fun c145 => ?_) (fun c145 => ?_) | refine V_if_eq_n 159 dX6_reads_145 (by decide) (by omega) (fun c145 => ?_) (fun c145 => ?_) | refine V_if_eq 159 dX6_reads_145 (by decide) (fun c145 => ?_) (fun c145 => ?_)
            · refine V_iload6 dX6_reads_159 ?_
              refine V_ireti dX6_reads_161 ?_
              have e2 : onwO (nMk N) q d = none := by unfold onwO; rw [if_neg c106, if_neg c120, if_neg c145]
              rw [show 101 - g = (101 - (g + 1)) + 1 by omega, rdF, stp_eq e, ite_f hgo, e2]
              rw [e6]
              exact ⟨rfl, rfl⟩
            · refine V_iload4 dX6_reads_148 ?_
              refine V_iconst (nI 3) dX6_reads_150 (by decide) ?_
              first | refine V_iadd_n dX6_reads_151 ?_ | refine V_iadd dX6_reads_151 ?_
              refine V_iconst (nI 4) dX6_reads_152 (by decide) ?_
              first | refine V_irem_n dX6_reads_153 (by omega) (by omega) (by omega) ?_ | refine V_irem dX6_reads_153 (by decide) ?_
              refine V_istore4 dX6_reads_154 (by decide) rfl ?_
              refine V_goto 162 dX6_reads_156 (by decide) ?_
              first | refine V_iinc5_n 1 dX6_reads_162 (by decide) (by decide) rfl ?_ | refine V_iinc5 (nI 1) dX6_reads_162 (by decide) (by decide) rfl ?_
              refine V_goto 53 dX6_reads_165 (by decide) ?_
              first
              | (have e2 : onwO (nMk N) q d = some d := by unfold onwO; rw [if_pos c106]
                 obtain ⟨hd2, hl2⟩ := onwO_some hd e2
                 have z := ih _ (by omega) q d (g + 1) (by omega) hq hd2 hl2 (some (.int (oI (ptF (nPp N) (nNp N) q) (-1000000)))) rfl
                 rw [e6] at z
                 rw [show 101 - g = (101 - (g + 1)) + 1 by omega, rdF, stp_eq e, ite_f hgo, e2]
                 exact z)
              | (have e2 : onwO (nMk N) q d = some ((d + 1) % 4) := by unfold onwO; rw [if_neg c106, if_pos c120]
                 obtain ⟨hd2, hl2⟩ := onwO_some hd e2
                 have z := ih _ (by omega) q ((d + 1) % 4) (g + 1) (by omega) hq hd2 hl2 (some (.int (oI (ptF (nPp N) (nNp N) q) (-1000000)))) rfl
                 rw [e6] at z
                 rw [show 101 - g = (101 - (g + 1)) + 1 by omega, rdF, stp_eq e, ite_f hgo, e2]
                 exact z)
              | (have e2 : onwO (nMk N) q d = some ((d + 3) % 4) := by unfold onwO; rw [if_neg c106, if_neg c120, if_pos c145]
                 obtain ⟨hd2, hl2⟩ := onwO_some hd e2
                 have z := ih _ (by omega) q ((d + 3) % 4) (g + 1) (by omega) hq hd2 hl2 (some (.int (oI (ptF (nPp N) (nNp N) q) (-1000000)))) rfl
                 rw [e6] at z
                 rw [show 101 - g = (101 - (g + 1)) + 1 by omega, rdF, stp_eq e, ite_f hgo, e2]
                 exact z)
          · refine V_iload4 dX6_reads_123 ?_
            refine V_iconst (nI 1) dX6_reads_125 (by decide) ?_
            first | refine V_iadd_n dX6_reads_126 ?_ | refine V_iadd dX6_reads_126 ?_
            refine V_iconst (nI 4) dX6_reads_127 (by decide) ?_
            first | refine V_irem_n dX6_reads_128 (by omega) (by omega) (by omega) ?_ | refine V_irem dX6_reads_128 (by decide) ?_
            refine V_istore4 dX6_reads_129 (by decide) rfl ?_
            refine V_goto 162 dX6_reads_131 (by decide) ?_
            first | refine V_iinc5_n 1 dX6_reads_162 (by decide) (by decide) rfl ?_ | refine V_iinc5 (nI 1) dX6_reads_162 (by decide) (by decide) rfl ?_
            refine V_goto 53 dX6_reads_165 (by decide) ?_
            first
            | (have e2 : onwO (nMk N) q d = some d := by unfold onwO; rw [if_pos c106]
               obtain ⟨hd2, hl2⟩ := onwO_some hd e2
               have z := ih _ (by omega) q d (g + 1) (by omega) hq hd2 hl2 (some (.int (oI (ptF (nPp N) (nNp N) q) (-1000000)))) rfl
               rw [e6] at z
               rw [show 101 - g = (101 - (g + 1)) + 1 by omega, rdF, stp_eq e, ite_f hgo, e2]
               exact z)
            | (have e2 : onwO (nMk N) q d = some ((d + 1) % 4) := by unfold onwO; rw [if_neg c106, if_pos c120]
               obtain ⟨hd2, hl2⟩ := onwO_some hd e2
               have z := ih _ (by omega) q ((d + 1) % 4) (g + 1) (by omega) hq hd2 hl2 (some (.int (oI (ptF (nPp N) (nNp N) q) (-1000000)))) rfl
               rw [e6] at z
               rw [show 101 - g = (101 - (g + 1)) + 1 by omega, rdF, stp_eq e, ite_f hgo, e2]
               exact z)
            | (have e2 : onwO (nMk N) q d = some ((d + 3) % 4) := by unfold onwO; rw [if_neg c106, if_neg c120, if_pos c145]
               obtain ⟨hd2, hl2⟩ := onwO_some hd e2
               have z := ih _ (by omega) q ((d + 3) % 4) (g + 1) (by omega) hq hd2 hl2 (some (.int (oI (ptF (nPp N) (nNp N) q) (-1000000)))) rfl
               rw [e6] at z
               rw [show 101 - g = (101 - (g + 1)) + 1 by omega, rdF, stp_eq e, ite_f hgo, e2]
               exact z)
      | some m =>
        rw [oI_s]
        obtain ⟨hm, hm2⟩ := ptF_some e6
        refine V_iload6 dX6_reads_74 ?_
        refine V_ldc ct_X6_93 dX6_reads_76 ?_
        refine V_icmp_eq 99 dX6_reads_78 (by decide) (fun c78 => absurd c78 (nI_m (show m < 2 ^ 31 by omega))) (fun c78 => ?_)
        refine V_iload6 dX6_reads_81 ?_
        refine V_iload1 dX6_reads_83 ?_
        first | refine V_icmp_eq_n 99 dX6_reads_84 (by decide) (by omega) (by omega) (fun c84 => ?_) (fun c84 => ?_) | refine V_icmp_eq 99 dX6_reads_84 (by decide) (fun c84 => ?_) (fun c84 => ?_)
        · have hgo : ¬ (q ≠ nPp N k ∧ endB N q = true) := fun z => z.1 (by rw [← hm2, c84])
          refine V_aload0 dX6_reads_99 ?_
          refine V_iload3 dX6_reads_100 ?_
          refine V_iload4 dX6_reads_101 ?_
          refine kX6_175 (m_X6_isWide _ _ N i r q d hq (by omega)) (rOK_d (by decide) (by decide)) (Nat.le_of_ble_eq_true rfl) dX6_reads_103 (fun r103 h103 hq103 => ?_)
          obtain ⟨e_, rfl⟩ := hq103
          replace e_ := e_.symm
          subst e_
          first | refine V_if_ne_z 162 dX6_reads_106 (by decide) (fun c106 => ?_) (fun c106 => ?_) | refine V_if_ne_n 162 dX6_reads_106 (by decide) (by omega) (fun c106 => ?_) (fun c106 => ?_) | refine V_if_ne 162 dX6_reads_106 (by decide) (fun c106 => ?_) (fun c106 => ?_)
          · first | refine V_iinc5_n 1 dX6_reads_162 (by decide) (by decide) rfl ?_ | refine V_iinc5 (nI 1) dX6_reads_162 (by decide) (by decide) rfl ?_
            refine V_goto 53 dX6_reads_165 (by decide) ?_
            first
            | (have e2 : onwO (nMk N) q d = some d := by unfold onwO; rw [if_pos c106]
               obtain ⟨hd2, hl2⟩ := onwO_some hd e2
               have z := ih _ (by omega) q d (g + 1) (by omega) hq hd2 hl2 (some (.int (oI (ptF (nPp N) (nNp N) q) (-1000000)))) rfl
               rw [e6] at z
               rw [show 101 - g = (101 - (g + 1)) + 1 by omega, rdF, stp_eq e, ite_f hgo, e2]
               exact z)
            | (have e2 : onwO (nMk N) q d = some ((d + 1) % 4) := by unfold onwO; rw [if_neg c106, if_pos c120]
               obtain ⟨hd2, hl2⟩ := onwO_some hd e2
               have z := ih _ (by omega) q ((d + 1) % 4) (g + 1) (by omega) hq hd2 hl2 (some (.int (oI (ptF (nPp N) (nNp N) q) (-1000000)))) rfl
               rw [e6] at z
               rw [show 101 - g = (101 - (g + 1)) + 1 by omega, rdF, stp_eq e, ite_f hgo, e2]
               exact z)
            | (have e2 : onwO (nMk N) q d = some ((d + 3) % 4) := by unfold onwO; rw [if_neg c106, if_neg c120, if_pos c145]
               obtain ⟨hd2, hl2⟩ := onwO_some hd e2
               have z := ih _ (by omega) q ((d + 3) % 4) (g + 1) (by omega) hq hd2 hl2 (some (.int (oI (ptF (nPp N) (nNp N) q) (-1000000)))) rfl
               rw [e6] at z
               rw [show 101 - g = (101 - (g + 1)) + 1 by omega, rdF, stp_eq e, ite_f hgo, e2]
               exact z)
          · refine V_aload0 dX6_reads_109 ?_
            refine V_iload3 dX6_reads_110 ?_
            refine V_iload4 dX6_reads_111 ?_
            refine V_iconst (nI 1) dX6_reads_113 (by decide) ?_
            first | refine V_iadd_n dX6_reads_114 ?_ | refine V_iadd dX6_reads_114 ?_
            refine V_iconst (nI 4) dX6_reads_115 (by decide) ?_
            first | refine V_irem_n dX6_reads_116 (by omega) (by omega) (by omega) ?_ | refine V_irem dX6_reads_116 (by decide) ?_
            refine kX6_175 (m_X6_isWide _ _ N i r q ((d + 1) % 4) hq (by omega)) (rOK_d (by decide) (by decide)) (Nat.le_of_ble_eq_true rfl) dX6_reads_117 (fun r117 h117 hq117 => ?_)
            obtain ⟨e_, rfl⟩ := hq117
            replace e_ := e_.symm
            subst e_
            first | refine V_if_eq_z 134 dX6_reads_120 (by decide) (fun c120 => ?_) (fun c120 => ?_) | refine V_if_eq_n 134 dX6_reads_120 (by decide) (by omega) (fun c120 => ?_) (fun c120 => ?_) | refine V_if_eq 134 dX6_reads_120 (by decide) (fun c120 => ?_) (fun c120 => ?_)
            · refine V_aload0 dX6_reads_134 ?_
              refine V_iload3 dX6_reads_135 ?_
              refine V_iload4 dX6_reads_136 ?_
              refine V_iconst (nI 3) dX6_reads_138 (by decide) ?_
              first | refine V_iadd_n dX6_reads_139 ?_ | refine V_iadd dX6_reads_139 ?_
              refine V_iconst (nI 4) dX6_reads_140 (by decide) ?_
              first | refine V_irem_n dX6_reads_141 (by omega) (by omega) (by omega) ?_ | refine V_irem dX6_reads_141 (by decide) ?_
              refine kX6_175 (m_X6_isWide _ _ N i r q ((d + 3) % 4) hq (by omega)) (rOK_d (by decide) (by decide)) (Nat.le_of_ble_eq_true rfl) dX6_reads_142 (fun r142 h142 hq142 => ?_)
              obtain ⟨e_, rfl⟩ := hq142
              replace e_ := e_.symm
              subst e_
              first | refine V_if_eq_z 159 dX6_reads_145 (by decide) (fun c145 => ?_) (fun c145 => ?_) | refine V_if_eq_n 159 dX6_reads_145 (by decide) (by omega) (fun c145 => ?_) (fun c145 => ?_) | refine V_if_eq 159 dX6_reads_145 (by decide) (fun c145 => ?_) (fun c145 => ?_)
              · refine V_iload6 dX6_reads_159 ?_
                refine V_ireti dX6_reads_161 ?_
                have e2 : onwO (nMk N) q d = none := by unfold onwO; rw [if_neg c106, if_neg c120, if_neg c145]
                rw [show 101 - g = (101 - (g + 1)) + 1 by omega, rdF, stp_eq e, ite_f hgo, e2]
                rw [e6]
                exact ⟨rfl, rfl⟩
              · refine V_iload4 dX6_reads_148 ?_
                refine V_iconst (nI 3) dX6_reads_150 (by decide) ?_
                first | refine V_iadd_n dX6_reads_151 ?_ | refine V_iadd dX6_reads_151 ?_
                refine V_iconst (nI 4) dX6_reads_152 (by decide) ?_
                first | refine V_irem_n dX6_reads_153 (by omega) (by omega) (by omega) ?_ | refine V_irem dX6_reads_153 (by decide) ?_
                refine V_istore4 dX6_reads_154 (by decide) rfl ?_
                refine V_goto 162 dX6_reads_156 (by decide) ?_
                first | refine V_iinc5_n 1 dX6_reads_162 (by decide) (by decide) rfl ?_ | refine V_iinc5 (nI 1) dX6_reads_162 (by decide) (by decide) rfl ?_
                refine V_goto 53 dX6_reads_165 (by decide) ?_
                first
                | (have e2 : onwO (nMk N) q d = some d := by unfold onwO; rw [if_pos c106]
                   obtain ⟨hd2, hl2⟩ := onwO_some hd e2
                   have z := ih _ (by omega) q d (g + 1) (by omega) hq hd2 hl2 (some (.int (oI (ptF (nPp N) (nNp N) q) (-1000000)))) rfl
                   rw [e6] at z
                   rw [show 101 - g = (101 - (g + 1)) + 1 by omega, rdF, stp_eq e, ite_f hgo, e2]
                   exact z)
                | (have e2 : onwO (nMk N) q d = some ((d + 1) % 4) := by unfold onwO; rw [if_neg c106, if_pos c120]
                   obtain ⟨hd2, hl2⟩ := onwO_some hd e2
                   have z := ih _ (by omega) q ((d + 1) % 4) (g + 1) (by omega) hq hd2 hl2 (some (.int (oI (ptF (nPp N) (nNp N) q) (-1000000)))) rfl
                   rw [e6] at z
                   rw [show 101 - g = (101 - (g + 1)) + 1 by omega, rdF, stp_eq e, ite_f hgo, e2]
                   exact z)
                | (have e2 : onwO (nMk N) q d = some ((d + 3) % 4) := by unfold onwO; rw [if_neg c106, if_neg c120, if_pos c145]
                   obtain ⟨hd2, hl2⟩ := onwO_some hd e2
                   have z := ih _ (by omega) q ((d + 3) % 4) (g + 1) (by omega) hq hd2 hl2 (some (.int (oI (ptF (nPp N) (nNp N) q) (-1000000)))) rfl
                   rw [e6] at z
                   rw [show 101 - g = (101 - (g + 1)) + 1 by omega, rdF, stp_eq e, ite_f hgo, e2]
                   exact z)
            · refine V_iload4 dX6_reads_123 ?_
              refine V_iconst (nI 1) dX6_reads_125 (by decide) ?_
              first | refine V_iadd_n dX6_reads_126 ?_ | refine V_iadd dX6_reads_126 ?_
              refine V_iconst (nI 4) dX6_reads_127 (by decide) ?_
              first | refine V_irem_n dX6_reads_128 (by omega) (by omega) (by omega) ?_ | refine V_irem dX6_reads_128 (by decide) ?_
              refine V_istore4 dX6_reads_129 (by decide) rfl ?_
              refine V_goto 162 dX6_reads_131 (by decide) ?_
              first | refine V_iinc5_n 1 dX6_reads_162 (by decide) (by decide) rfl ?_ | refine V_iinc5 (nI 1) dX6_reads_162 (by decide) (by decide) rfl ?_
              refine V_goto 53 dX6_reads_165 (by decide) ?_
              first
              | (have e2 : onwO (nMk N) q d = some d := by unfold onwO; rw [if_pos c106]
                 obtain ⟨hd2, hl2⟩ := onwO_some hd e2
                 have z := ih _ (by omega) q d (g + 1) (by omega) hq hd2 hl2 (some (.int (oI (ptF (nPp N) (nNp N) q) (-1000000)))) rfl
                 rw [e6] at z
                 rw [show 101 - g = (101 - (g + 1)) + 1 by omega, rdF, stp_eq e, ite_f hgo, e2]
                 exact z)
              | (have e2 : onwO (nMk N) q d = some ((d + 1) % 4) := by unfold onwO; rw [if_neg c106, if_pos c120]
                 obtain ⟨hd2, hl2⟩ := onwO_some hd e2
                 have z := ih _ (by omega) q ((d + 1) % 4) (g + 1) (by omega) hq hd2 hl2 (some (.int (oI (ptF (nPp N) (nNp N) q) (-1000000)))) rfl
                 rw [e6] at z
                 rw [show 101 - g = (101 - (g + 1)) + 1 by omega, rdF, stp_eq e, ite_f hgo, e2]
                 exact z)
              | (have e2 : onwO (nMk N) q d = some ((d + 3) % 4) := by unfold onwO; rw [if_neg c106, if_neg c120, if_pos c145]
                 obtain ⟨hd2, hl2⟩ := onwO_some hd e2
                 have z := ih _ (by omega) q ((d + 3) % 4) (g + 1) (by omega) hq hd2 hl2 (some (.int (oI (ptF (nPp N) (nNp N) q) (-1000000)))) rfl
                 rw [e6] at z
                 rw [show 101 - g = (101 - (g + 1)) + 1 by omega, rdF, stp_eq e, ite_f hgo, e2]
                 exact z)
        · refine V_aload0 dX6_reads_87 ?_
          refine V_iload6 dX6_reads_88 ?_
          refine kX6_178 (m_X6_isEnd _ _ N i r m hm) (rOK_d (by decide) (by decide)) (Nat.le_of_ble_eq_true rfl) dX6_reads_90 (fun r90 h90 hq90 => ?_)
          obtain ⟨e_, rfl⟩ := hq90
          replace e_ := e_.symm
          subst e_
          first | refine V_if_eq_z 99 dX6_reads_93 (by decide) (fun c93 => ?_) (fun c93 => ?_) | refine V_if_eq_n 99 dX6_reads_93 (by decide) (by omega) (fun c93 => ?_) (fun c93 => ?_) | refine V_if_eq 99 dX6_reads_93 (by decide) (fun c93 => ?_) (fun c93 => ?_)
          · have hgo : ¬ (q ≠ nPp N k ∧ endB N q = true) := fun z => c93 (by rw [hm2]; exact z.2)
            refine V_aload0 dX6_reads_99 ?_
            refine V_iload3 dX6_reads_100 ?_
            refine V_iload4 dX6_reads_101 ?_
            refine kX6_175 (m_X6_isWide _ _ N i r q d hq (by omega)) (rOK_d (by decide) (by decide)) (Nat.le_of_ble_eq_true rfl) dX6_reads_103 (fun r103 h103 hq103 => ?_)
            obtain ⟨e_, rfl⟩ := hq103
            replace e_ := e_.symm
            subst e_
            first | refine V_if_ne_z 162 dX6_reads_106 (by decide) (fun c106 => ?_) (fun c106 => ?_) | refine V_if_ne_n 162 dX6_reads_106 (by decide) (by omega) (fun c106 => ?_) (fun c106 => ?_) | refine V_if_ne 162 dX6_reads_106 (by decide) (fun c106 => ?_) (fun c106 => ?_)
            · first | refine V_iinc5_n 1 dX6_reads_162 (by decide) (by decide) rfl ?_ | refine V_iinc5 (nI 1) dX6_reads_162 (by decide) (by decide) rfl ?_
              refine V_goto 53 dX6_reads_165 (by decide) ?_
              first
              | (have e2 : onwO (nMk N) q d = some d := by unfold onwO; rw [if_pos c106]
                 obtain ⟨hd2, hl2⟩ := onwO_some hd e2
                 have z := ih _ (by omega) q d (g + 1) (by omega) hq hd2 hl2 (some (.int (oI (ptF (nPp N) (nNp N) q) (-1000000)))) rfl
                 rw [e6] at z
                 rw [show 101 - g = (101 - (g + 1)) + 1 by omega, rdF, stp_eq e, ite_f hgo, e2]
                 exact z)
              | (have e2 : onwO (nMk N) q d = some ((d + 1) % 4) := by unfold onwO; rw [if_neg c106, if_pos c120]
                 obtain ⟨hd2, hl2⟩ := onwO_some hd e2
                 have z := ih _ (by omega) q ((d + 1) % 4) (g + 1) (by omega) hq hd2 hl2 (some (.int (oI (ptF (nPp N) (nNp N) q) (-1000000)))) rfl
                 rw [e6] at z
                 rw [show 101 - g = (101 - (g + 1)) + 1 by omega, rdF, stp_eq e, ite_f hgo, e2]
                 exact z)
              | (have e2 : onwO (nMk N) q d = some ((d + 3) % 4) := by unfold onwO; rw [if_neg c106, if_neg c120, if_pos c145]
                 obtain ⟨hd2, hl2⟩ := onwO_some hd e2
                 have z := ih _ (by omega) q ((d + 3) % 4) (g + 1) (by omega) hq hd2 hl2 (some (.int (oI (ptF (nPp N) (nNp N) q) (-1000000)))) rfl
                 rw [e6] at z
                 rw [show 101 - g = (101 - (g + 1)) + 1 by omega, rdF, stp_eq e, ite_f hgo, e2]
                 exact z)
            · refine V_aload0 dX6_reads_109 ?_
              refine V_iload3 dX6_reads_110 ?_
              refine V_iload4 dX6_reads_111 ?_
              refine V_iconst (nI 1) dX6_reads_113 (by decide) ?_
              first | refine V_iadd_n dX6_reads_114 ?_ | refine V_iadd dX6_reads_114 ?_
              refine V_iconst (nI 4) dX6_reads_115 (by decide) ?_
              first | refine V_irem_n dX6_reads_116 (by omega) (by omega) (by omega) ?_ | refine V_irem dX6_reads_116 (by decide) ?_
              refine kX6_175 (m_X6_isWide _ _ N i r q ((d + 1) % 4) hq (by omega)) (rOK_d (by decide) (by decide)) (Nat.le_of_ble_eq_true rfl) dX6_reads_117 (fun r117 h117 hq117 => ?_)
              obtain ⟨e_, rfl⟩ := hq117
              replace e_ := e_.symm
              subst e_
              first | refine V_if_eq_z 134 dX6_reads_120 (by decide) (fun c120 => ?_) (fun c120 => ?_) | refine V_if_eq_n 134 dX6_reads_120 (by decide) (by omega) (fun c120 => ?_) (fun c120 => ?_) | refine V_if_eq 134 dX6_reads_120 (by decide) (fun c120 => ?_) (fun c120 => ?_)
              · refine V_aload0 dX6_reads_134 ?_
                refine V_iload3 dX6_reads_135 ?_
                refine V_iload4 dX6_reads_136 ?_
                refine V_iconst (nI 3) dX6_reads_138 (by decide) ?_
                first | refine V_iadd_n dX6_reads_139 ?_ | refine V_iadd dX6_reads_139 ?_
                refine V_iconst (nI 4) dX6_reads_140 (by decide) ?_
                first | refine V_irem_n dX6_reads_141 (by omega) (by omega) (by omega) ?_ | refine V_irem dX6_reads_141 (by decide) ?_
                refine kX6_175 (m_X6_isWide _ _ N i r q ((d + 3) % 4) hq (by omega)) (rOK_d (by decide) (by decide)) (Nat.le_of_ble_eq_true rfl) dX6_reads_142 (fun r142 h142 hq142 => ?_)
                obtain ⟨e_, rfl⟩ := hq142
                replace e_ := e_.symm
                subst e_
                first | refine V_if_eq_z 159 dX6_reads_145 (by decide) (fun c145 => ?_) (fun c145 => ?_) | refine V_if_eq_n 159 dX6_reads_145 (by decide) (by omega) (fun c145 => ?_) (fun c145 => ?_) | refine V_if_eq 159 dX6_reads_145 (by decide) (fun c145 => ?_) (fun c145 => ?_)
                · refine V_iload6 dX6_reads_159 ?_
                  refine V_ireti dX6_reads_161 ?_
                  have e2 : onwO (nMk N) q d = none := by unfold onwO; rw [if_neg c106, if_neg c120, if_neg c145]
                  rw [show 101 - g = (101 - (g + 1)) + 1 by omega, rdF, stp_eq e, ite_f hgo, e2]
                  rw [e6]
                  exact ⟨rfl, rfl⟩
                · refine V_iload4 dX6_reads_148 ?_
                  refine V_iconst (nI 3) dX6_reads_150 (by decide) ?_
                  first | refine V_iadd_n dX6_reads_151 ?_ | refine V_iadd dX6_reads_151 ?_
                  refine V_iconst (nI 4) dX6_reads_152 (by decide) ?_
                  first | refine V_irem_n dX6_reads_153 (by omega) (by omega) (by omega) ?_ | refine V_irem dX6_reads_153 (by decide) ?_
                  refine V_istore4 dX6_reads_154 (by decide) rfl ?_
                  refine V_goto 162 dX6_reads_156 (by decide) ?_
                  first | refine V_iinc5_n 1 dX6_reads_162 (by decide) (by decide) rfl ?_ | refine V_iinc5 (nI 1) dX6_reads_162 (by decide) (by decide) rfl ?_
                  refine V_goto 53 dX6_reads_165 (by decide) ?_
                  first
                  | (have e2 : onwO (nMk N) q d = some d := by unfold onwO; rw [if_pos c106]
                     obtain ⟨hd2, hl2⟩ := onwO_some hd e2
                     have z := ih _ (by omega) q d (g + 1) (by omega) hq hd2 hl2 (some (.int (oI (ptF (nPp N) (nNp N) q) (-1000000)))) rfl
                     rw [e6] at z
                     rw [show 101 - g = (101 - (g + 1)) + 1 by omega, rdF, stp_eq e, ite_f hgo, e2]
                     exact z)
                  | (have e2 : onwO (nMk N) q d = some ((d + 1) % 4) := by unfold onwO; rw [if_neg c106, if_pos c120]
                     obtain ⟨hd2, hl2⟩ := onwO_some hd e2
                     have z := ih _ (by omega) q ((d + 1) % 4) (g + 1) (by omega) hq hd2 hl2 (some (.int (oI (ptF (nPp N) (nNp N) q) (-1000000)))) rfl
                     rw [e6] at z
                     rw [show 101 - g = (101 - (g + 1)) + 1 by omega, rdF, stp_eq e, ite_f hgo, e2]
                     exact z)
                  | (have e2 : onwO (nMk N) q d = some ((d + 3) % 4) := by unfold onwO; rw [if_neg c106, if_neg c120, if_pos c145]
                     obtain ⟨hd2, hl2⟩ := onwO_some hd e2
                     have z := ih _ (by omega) q ((d + 3) % 4) (g + 1) (by omega) hq hd2 hl2 (some (.int (oI (ptF (nPp N) (nNp N) q) (-1000000)))) rfl
                     rw [e6] at z
                     rw [show 101 - g = (101 - (g + 1)) + 1 by omega, rdF, stp_eq e, ite_f hgo, e2]
                     exact z)
              · refine V_iload4 dX6_reads_123 ?_
                refine V_iconst (nI 1) dX6_reads_125 (by decide) ?_
                first | refine V_iadd_n dX6_reads_126 ?_ | refine V_iadd dX6_reads_126 ?_
                refine V_iconst (nI 4) dX6_reads_127 (by decide) ?_
                first | refine V_irem_n dX6_reads_128 (by omega) (by omega) (by omega) ?_ | refine V_irem dX6_reads_128 (by decide) ?_
                refine V_istore4 dX6_reads_129 (by decide) rfl ?_
                refine V_goto 162 dX6_reads_131 (by decide) ?_
                first | refine V_iinc5_n 1 dX6_reads_162 (by decide) (by decide) rfl ?_ | refine V_iinc5 (nI 1) dX6_reads_162 (by decide) (by decide) rfl ?_
                refine V_goto 53 dX6_reads_165 (by decide) ?_
                first
                | (have e2 : onwO (nMk N) q d = some d := by unfold onwO; rw [if_pos c106]
                   obtain ⟨hd2, hl2⟩ := onwO_some hd e2
                   have z := ih _ (by omega) q d (g + 1) (by omega) hq hd2 hl2 (some (.int (oI (ptF (nPp N) (nNp N) q) (-1000000)))) rfl
                   rw [e6] at z
                   rw [show 101 - g = (101 - (g + 1)) + 1 by omega, rdF, stp_eq e, ite_f hgo, e2]
                   exact z)
                | (have e2 : onwO (nMk N) q d = some ((d + 1) % 4) := by unfold onwO; rw [if_neg c106, if_pos c120]
                   obtain ⟨hd2, hl2⟩ := onwO_some hd e2
                   have z := ih _ (by omega) q ((d + 1) % 4) (g + 1) (by omega) hq hd2 hl2 (some (.int (oI (ptF (nPp N) (nNp N) q) (-1000000)))) rfl
                   rw [e6] at z
                   rw [show 101 - g = (101 - (g + 1)) + 1 by omega, rdF, stp_eq e, ite_f hgo, e2]
                   exact z)
                | (have e2 : onwO (nMk N) q d = some ((d + 3) % 4) := by unfold onwO; rw [if_neg c106, if_neg c120, if_pos c145]
                   obtain ⟨hd2, hl2⟩ := onwO_some hd e2
                   have z := ih _ (by omega) q ((d + 3) % 4) (g + 1) (by omega) hq hd2 hl2 (some (.int (oI (ptF (nPp N) (nNp N) q) (-1000000)))) rfl
                   rw [e6] at z
                   rw [show 101 - g = (101 - (g + 1)) + 1 by omega, rdF, stp_eq e, ite_f hgo, e2]
                   exact z)
          · refine V_iload6 dX6_reads_96 ?_
            refine V_ireti dX6_reads_98 ?_
            rw [show 101 - g = (101 - (g + 1)) + 1 by omega, rdF, stp_eq e, ite_t ⟨fun z => c84 (i.2.2.2.1 _ _ hm hk (hm2.trans z)), by rw [← hm2]; exact c93⟩, e6]
            exact ⟨rfl, rfl⟩
set_option maxRecDepth 4000 in
theorem m_X6_reads (G : GE) (h : Mem) (S : St) (i : Ok S) (a : RB S h) (x d : Int32) : Ct idsB G yX6_reads cX6_reads 7 (some .int) (rmD 4) [.ref (ad G 100), .int x, .int d] h (Qi fun rv h' => rv = (O_reads S x d).1 ∧ RB (O_reads S x d).2 h') := by
  refine Ct.of [some (.ref (ad G 100)), some (.int x), some (.int d), none, none, none, none] (by decide) (Nat.le_of_ble_eq_true rfl) (lvE_ok 4 rfl) ?_
  refine V_aload0 dX6_reads_0 ?_
  refine V_iconst (nI 0) dX6_reads_1 (by decide) ?_
  refine pX6_62 dX6_reads_2 ?_
  replace a := a.th (nI 0)
  generalize wr h 100 0 (nI 0) = g at a ⊢
  refine V_aload0 dX6_reads_5 ?_
  refine V_iload1 dX6_reads_6 ?_
  refine kX6_118 (m_X6_isPoint _ _ S.2.1 i.1 a.2.1 _) (rOK_d (by decide) (by decide)) (Nat.le_of_ble_eq_true rfl) dX6_reads_7 (fun r7 h7 hq7 => ?_)
  obtain ⟨e_, rfl⟩ := hq7
  replace e_ := e_.symm
  subst e_
  first | refine V_if_eq_z 25 dX6_reads_10 (by decide) (fun c10 => ?_) (fun c10 => ?_) | refine V_if_eq_n 25 dX6_reads_10 (by decide) (by omega) (fun c10 => ?_) (fun c10 => ?_) | refine V_if_eq 25 dX6_reads_10 (by decide) (fun c10 => ?_) (fun c10 => ?_)
  · refine V_ldc ct_X6_82 dX6_reads_25 ?_
    refine V_ireti dX6_reads_27 ?_
    rw [O_reads, vReads, ite_f (show ¬ (inR x (nNp S.2.1) ∧ inR d 4) from fun z => by first | exact c10 z.1 | exact c22 z.2)]
    exact ⟨rfl, a⟩
  · refine V_iload2 dX6_reads_13 ?_
    refine V_i2l dX6_reads_14 ?_
    refine V_lconst 0 dX6_reads_15 (by decide) ?_
    refine V_ldc2_w ct_X6_143 dX6_reads_16 ?_
    refine kX6_72 (m_X6_in _ _ _ _ _) (rOK_d (by decide) (by decide)) (Nat.le_of_ble_eq_true rfl) dX6_reads_19 (fun r19 h19 hq19 => ?_)
    obtain ⟨e_, rfl⟩ := hq19
    replace e_ := e_.symm
    subst e_
    rw [bz_c (in_e d (n := 4) (by decide))]
    first | refine V_if_ne_z 28 dX6_reads_22 (by decide) (fun c22 => ?_) (fun c22 => ?_) | refine V_if_ne_n 28 dX6_reads_22 (by decide) (by omega) (fun c22 => ?_) (fun c22 => ?_) | refine V_if_ne 28 dX6_reads_22 (by decide) (fun c22 => ?_) (fun c22 => ?_)
    · have hg : inR x (nNp S.2.1) ∧ inR d 4 := ⟨c10, c22⟩
      have hnp := i.1.np
      obtain ⟨k, hk, rfl⟩ := (inR_iff (show nNp S.2.1 < 2 ^ 31 by omega)).mp c10
      obtain ⟨e, he, rfl⟩ := (inR_iff (by decide)).mp c22
      have kk := cl_nI (show k < 2 ^ 31 by omega)
      have kd := cl_nI (show e < 2 ^ 31 by omega)
      have hpk := (i.1.pt hk).1
      refine V_aload0 dX6_reads_28 ?_
      refine gX6_23 dX6_reads_29 ?_
      refine V_iload1 dX6_reads_32 ?_
      refine V_iaload (by decide) aI_107 (by decide) rfl (by first | assumption | omega) dX6_reads_33 ?_
      rw [a.2.1.2.2.1 k hk]
      refine V_istore3 dX6_reads_34 (by decide) rfl ?_
      refine V_aload0 dX6_reads_35 ?_
      refine V_iload3 dX6_reads_36 ?_
      refine V_iload2 dX6_reads_37 ?_
      refine kX6_175 (m_X6_isWide _ _ S.2.1 i.1 a.2.1 _ _ hpk he) (rOK_d (by decide) (by decide)) (Nat.le_of_ble_eq_true rfl) dX6_reads_38 (fun r38 h38 hq38 => ?_)
      obtain ⟨e_, rfl⟩ := hq38
      replace e_ := e_.symm
      subst e_
      first | refine V_if_ne_z 47 dX6_reads_41 (by decide) (fun c41 => ?_) (fun c41 => ?_) | refine V_if_ne_n 47 dX6_reads_41 (by decide) (by omega) (fun c41 => ?_) (fun c41 => ?_) | refine V_if_ne 47 dX6_reads_41 (by decide) (fun c41 => ?_) (fun c41 => ?_)
      · refine V_iload2 dX6_reads_47 ?_
        refine V_istore4 dX6_reads_48 (by decide) rfl ?_
        refine V_iconst (nI 1) dX6_reads_50 (by decide) ?_
        refine V_istore5 dX6_reads_51 (by decide) rfl ?_
        refine V_post (l_X6_reads G g S.2.1 i.1 a.2.1 k hk _ (nPp S.2.1 k) e 1 (by omega) hpk he c41 _) (Qi_mono (fun v h2 hz => ?_))
        obtain ⟨rfl, rfl⟩ := hz
        rw [O_reads, vReads, ite_t hg, kk, kd, ite_f c41]
        exact ⟨rfl, a⟩
      · refine V_ldc ct_X6_100 dX6_reads_44 ?_
        refine V_ireti dX6_reads_46 ?_
        rw [O_reads, vReads, ite_t hg, kk, kd, ite_t (Classical.byContradiction c41)]
        exact ⟨rfl, a⟩
    · refine V_ldc ct_X6_82 dX6_reads_25 ?_
      refine V_ireti dX6_reads_27 ?_
      rw [O_reads, vReads, ite_f (show ¬ (inR x (nNp S.2.1) ∧ inR d 4) from fun z => by first | exact c10 z.1 | exact c22 z.2)]
      exact ⟨rfl, a⟩
