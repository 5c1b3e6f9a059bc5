set_option maxRecDepth 4000 in
theorem l_X6_tints_1 (G : GE) (h hc : Mem) (m p : Nat) (o4 : OV) (Q : Option Value → Mem → Prop) (hp : p ≤ 12) (e1 : same [119] h hc) (e2 : ∀ x, x < p → hc 119 x = -1) (K : ∀ hc, same [119] h hc → (∀ x, x < 12 → hc 119 x = -1) → V idsB G RX6 cX6_tints 5 (some .boolean) (rmD 2) 23 [some (.ref (ad G 100)), some (.int (nI m)), some (.int (nI 0)), some (.int (nI 12)), o4] [] hc Q) : V idsB G RX6 cX6_tints 5 (some .boolean) (rmD 2) 4 [some (.ref (ad G 100)), some (.int (nI m)), some (.int (nI 0)), some (.int (nI p)), o4] [] hc Q := by
  induction hm : 12 - p using Nat.strongRecOn generalizing hc p with
  | _ z ih =>
    subst hm
    refine V_iload3 dX6_tints_4 ?_
    refine V_bipush (nI 12) dX6_tints_5 (by decide) ?_
    first | refine V_icmp_ge_n 23 dX6_tints_7 (by decide) (by omega) (by omega) (fun c7 => ?_) (fun c7 => ?_) | refine V_icmp_ge 23 dX6_tints_7 (by decide) (fun c7 => ?_) (fun c7 => ?_)
    · obtain rfl : p = 12 := by omega
      exact K hc e1 e2
    · refine V_aload0 dX6_tints_10 ?_
      refine gX6_56 dX6_tints_11 ?_
      refine V_iload3 dX6_tints_14 ?_
      refine V_iconst (-1) dX6_tints_15 (by decide) ?_
      refine V_iastore (by decide) aI_119 (by decide) rfl (by first | assumption | omega) dX6_tints_16 ?_
      first | refine V_iinc3_n 1 dX6_tints_17 (by decide) (by decide) rfl ?_ | refine V_iinc3 (nI 1) dX6_tints_17 (by decide) (by decide) rfl ?_
      refine V_goto 4 dX6_tints_20 (by decide) ?_
      exact ih _ (by omega) _ (p + 1) (by omega) (e1.wr _ _ (by decide)) (lt_s (fun x h1 => by rw [wr_j _ _ (by omega)]; exact e2 x h1) (wr_s _ _ _ _)) rfl
set_option maxRecDepth 4000 in
theorem l_X6_tints_2 (G : GE) (h : Mem) (N : Ng) (m k : Nat) (hk : k < 12) (col : Nat → Nat) (hT : TT N col k h) (Q : Option Value → Mem → Prop) (K : ∀ o4, V idsB G RX6 cX6_tints 5 (some .boolean) (rmD 2) 132 [some (.ref (ad G 100)), some (.int (nI m)), some (.int (nI k)), some (.int (nI (usd (wmF N) col k))), o4] [] h Q) (j : Nat) (hj : j ≤ k) : V idsB G RX6 cX6_tints 5 (some .boolean) (rmD 2) 93 [some (.ref (ad G 100)), some (.int (nI m)), some (.int (nI k)), some (.int (nI (usd (wmF N) col j))), some (.int (nI j))] [] h Q := by
  induction hm : k - j using Nat.strongRecOn generalizing j with
  | _ z ih =>
    subst hm
    have hus : usd (wmF N) col j ≤ 13 := usd_le (fun b hb hw => ((hT b (by omega)).1 hw).2)
    refine V_iload4 dX6_tints_93 ?_
    refine V_iload2 dX6_tints_95 ?_
    first | refine V_icmp_ge_n 132 dX6_tints_96 (by decide) (by omega) (by omega) (fun c96 => ?_) (fun c96 => ?_) | refine V_icmp_ge 132 dX6_tints_96 (by decide) (fun c96 => ?_) (fun c96 => ?_)
    · obtain rfl : j = k := by omega
      exact K _
    · refine V_aload0 dX6_tints_99 ?_
      refine gX6_56 dX6_tints_100 ?_
      refine V_iload4 dX6_tints_103 ?_
      refine V_iaload (by decide) aI_119 (by decide) rfl (by first | assumption | omega) dX6_tints_105 ?_
      by_cases hw : wmF N j = true
      · obtain ⟨q1, q2⟩ := (hT j (by omega)).1 hw
        rw [q1]
        have hu1 : usd (wmF N) col (j + 1) = max (usd (wmF N) col j) (col j + 1) := by rw [usd, if_pos hw]
        refine V_iconst (nI 1) dX6_tints_106 (by decide) ?_
        first | refine V_iadd_n dX6_tints_107 ?_ | refine V_iadd dX6_tints_107 ?_
        refine V_iload3 dX6_tints_108 ?_
        first | refine V_icmp_le_n 124 dX6_tints_109 (by decide) (by omega) (by omega) (fun c109 => ?_) (fun c109 => ?_) | refine V_icmp_le 124 dX6_tints_109 (by decide) (fun c109 => ?_) (fun c109 => ?_)
        · refine V_iload3 dX6_tints_124 ?_
          refine V_istore3 dX6_tints_125 (by decide) rfl ?_
          first | refine V_iinc4_n 1 dX6_tints_126 (by decide) (by decide) rfl ?_ | refine V_iinc4 (nI 1) dX6_tints_126 (by decide) (by decide) rfl ?_
          refine V_goto 93 dX6_tints_129 (by decide) ?_
          have hz := ih _ (by omega) (j + 1) (by omega) rfl
          rw [hu1] at hz
          first
          | (rw [Nat.max_eq_left (by omega)] at hz; exact hz)
          | (rw [Nat.max_eq_right (by omega)] at hz; exact hz)
        · refine V_aload0 dX6_tints_112 ?_
          refine gX6_56 dX6_tints_113 ?_
          refine V_iload4 dX6_tints_116 ?_
          refine V_iaload (by decide) aI_119 (by decide) rfl (by first | assumption | omega) dX6_tints_118 ?_
          rw [q1]
          refine V_iconst (nI 1) dX6_tints_119 (by decide) ?_
          first | refine V_iadd_n dX6_tints_120 ?_ | refine V_iadd dX6_tints_120 ?_
          refine V_goto 125 dX6_tints_121 (by decide) ?_
          refine V_istore3 dX6_tints_125 (by decide) rfl ?_
          first | refine V_iinc4_n 1 dX6_tints_126 (by decide) (by decide) rfl ?_ | refine V_iinc4 (nI 1) dX6_tints_126 (by decide) (by decide) rfl ?_
          refine V_goto 93 dX6_tints_129 (by decide) ?_
          have hz := ih _ (by omega) (j + 1) (by omega) rfl
          rw [hu1] at hz
          first
          | (rw [Nat.max_eq_left (by omega)] at hz; exact hz)
          | (rw [Nat.max_eq_right (by omega)] at hz; exact hz)
      · have q1 := (hT j (by omega)).2 (Bool.eq_false_iff.mpr hw)
        rw [q1]
        have hu1 : usd (wmF N) col (j + 1) = usd (wmF N) col j := by rw [usd, if_neg hw]
        refine V_iconst (nI 1) dX6_tints_106 (by decide) ?_
        refine V_iadd dX6_tints_107 ?_
        refine V_iload3 dX6_tints_108 ?_
        refine V_icmp_le 124 dX6_tints_109 (by decide) (fun c109 => ?_) (fun c109 => absurd (m_le (by omega) (by decide)) c109)
        refine V_iload3 dX6_tints_124 ?_
        refine V_istore3 dX6_tints_125 (by decide) rfl ?_
        first | refine V_iinc4_n 1 dX6_tints_126 (by decide) (by decide) rfl ?_ | refine V_iinc4 (nI 1) dX6_tints_126 (by decide) (by decide) rfl ?_
        refine V_goto 93 dX6_tints_129 (by decide) ?_
        have hz := ih _ (by omega) (j + 1) (by omega) rfl
        rw [hu1] at hz
        exact hz
set_option maxRecDepth 4000 in
theorem l_X6_tints_3 (G : GE) (h hc : Mem) (N : Ng) (i : Inv N) (r : RBn N h) (m k : Nat) (hk : k < 12) (col : Nat → Nat) (f : Nat → Option (Nat → Nat)) (hf : ∀ t, ¬ memT (wmF N) k col t &&& nCl N k = 0 → f t = none) (x3 : OV) (e : Nat) (he : e ≤ 12) (t0 : Nat) (R : Option (Nat → Nat)) (Q : Option Value → Mem → Prop) (K : ∀ hc t, same [119] h hc → TT N col k hc → (∀ b, k < b → b < 12 → hc 119 b = -1) → hc 119 k = nI t → t0 ≤ t → t ≤ e → (t < e → memT (wmF N) k col t &&& nCl N k = 0) → tryT f (e - t) t = R → V idsB G RX6 cX6_tints 5 (some .boolean) (rmD 2) 190 [some (.ref (ad G 100)), some (.int (nI m)), some (.int (nI k)), x3, some (.int (nI e))] [] hc Q) (t : Nat) (h0 : t0 ≤ t) (ht : t ≤ e) (e1 : same [119] h hc) (hT : TT N col k hc) (hb : ∀ b, k < b → b < 12 → hc 119 b = -1) (hkt : hc 119 k = nI t) (hR : tryT f (e - t) t = R) : V idsB G RX6 cX6_tints 5 (some .boolean) (rmD 2) 158 [some (.ref (ad G 100)), some (.int (nI m)), some (.int (nI k)), x3, some (.int (nI e))] [] hc Q := by
  induction hm : e - t using Nat.strongRecOn generalizing hc t with
  | _ z ih =>
    subst hm
    have rc := r.same e1 (by unfold offB; decide)
    refine V_aload0 dX6_tints_158 ?_
    refine gX6_56 dX6_tints_159 ?_
    refine V_iload2 dX6_tints_162 ?_
    refine V_iaload (by decide) aI_119 (by decide) rfl (by first | assumption | omega) dX6_tints_163 ?_
    rw [hkt]
    refine V_iload4 dX6_tints_164 ?_
    first | refine V_icmp_ge_n 190 dX6_tints_166 (by decide) (by omega) (by omega) (fun c166 => ?_) (fun c166 => ?_) | refine V_icmp_ge 190 dX6_tints_166 (by decide) (fun c166 => ?_) (fun c166 => ?_)
    · exact K hc t e1 hT hb hkt h0 ht (fun z => absurd z (by omega)) hR --end
    · refine V_aload0 dX6_tints_169 ?_
      refine V_iload2 dX6_tints_170 ?_
      refine kX6_166 (m_X6_fits _ _ N i rc k hk col t (by omega) hT hkt) (rOK_d (by decide) (by decide)) (Nat.le_of_ble_eq_true rfl) dX6_tints_171 (fun r171 h171 hq171 => ?_)
      obtain ⟨e_, rfl⟩ := hq171
      replace e_ := e_.symm
      subst e_
      first | refine V_if_ne_z 190 dX6_tints_174 (by decide) (fun c174 => ?_) (fun c174 => ?_) | refine V_if_ne_n 190 dX6_tints_174 (by decide) (by omega) (fun c174 => ?_) (fun c174 => ?_) | refine V_if_ne 190 dX6_tints_174 (by decide) (fun c174 => ?_) (fun c174 => ?_)
      · exact K hc t e1 hT hb hkt h0 ht (fun _ => c174) hR --end
      · refine V_aload0 dX6_tints_177 ?_
        refine gX6_56 dX6_tints_178 ?_
        refine V_iload2 dX6_tints_181 ?_
        refine V_dup2 dX6_tints_182 rfl rfl ?_
        refine V_iaload (by decide) aI_119 (by decide) rfl (by first | assumption | omega) dX6_tints_183 ?_
        rw [hkt]
        refine V_iconst (nI 1) dX6_tints_184 (by decide) ?_
        first | refine V_iadd_n dX6_tints_185 ?_ | refine V_iadd dX6_tints_185 ?_
        refine V_iastore (by decide) aI_119 (by decide) rfl (by first | assumption | omega) dX6_tints_186 ?_
        refine V_goto 158 dX6_tints_187 (by decide) ?_
        refine ih _ (by omega) _ (t + 1) (by omega) (by omega) (e1.wr _ _ (by decide)) (fun b hb2 => ?_) (fun b h1 h2 => by rw [wr_j _ _ (by omega)]; exact hb b h1 h2) (wr_s _ _ _ _) ?_ rfl
        · rw [wr_j _ _ (by omega)]; exact hT b hb2
        · rw [← hR, show e - t = (e - (t + 1)) + 1 by omega, tryT_n (hf t c174)]
def AF (G : GE) (h : Mem) (N : Ng) (m : Nat) (Q : Option Value → Mem → Prop) (n k : Nat) : Prop := ∀ (col : Nat → Nat) (hc : Mem) (o3 o4 : OV), same [119] h hc → TT N col k hc → (∀ b, k ≤ b → b < 12 → hc 119 b = -1) → (∀ col2 hc o3 o4, dfs (wmF N) (nCl N) m n k col (usd (wmF N) col k) = some col2 → same [119] h hc → TT N col2 (nNl N) hc → V idsB G RX6 cX6_tints 5 (some .boolean) (rmD 2) 23 [some (.ref (ad G 100)), some (.int (nI m)), some (.int (nI (nNl N))), o3, o4] [] hc Q) → (∀ hc o3 o4, dfs (wmF N) (nCl N) m n k col (usd (wmF N) col k) = none → same [119] h hc → TT N col k hc → (∀ b, k ≤ b → b < 12 → hc 119 b = -1) → V idsB G RX6 cX6_tints 5 (some .boolean) (rmD 2) 23 [some (.ref (ad G 100)), some (.int (nI m)), some (.int (dn k)), o3, o4] [] hc Q) → V idsB G RX6 cX6_tints 5 (some .boolean) (rmD 2) 23 [some (.ref (ad G 100)), some (.int (nI m)), some (.int (nI k)), o3, o4] [] hc Q
set_option maxRecDepth 4000 in
theorem l_X6_tints_4 (G : GE) (h hc : Mem) (N : Ng) (i : Inv N) (r : RBn N h) (m : Nat) (hm : m ≤ 12) (n k : Nat) (hk : k < nNl N) (hw : wmF N k = true) (Q : Option Value → Mem → Prop) (A : AF G h N m Q n (k + 1)) (col : Nat → Nat) (R : Option (Nat → Nat)) (Ks : ∀ col2 hc o3 o4, R = some col2 → same [119] h hc → TT N col2 (nNl N) hc → V idsB G RX6 cX6_tints 5 (some .boolean) (rmD 2) 23 [some (.ref (ad G 100)), some (.int (nI m)), some (.int (nI (nNl N))), o3, o4] [] hc Q) (Kf : ∀ hc o3 o4, R = none → same [119] h hc → TT N col k hc → (∀ b, k ≤ b → b < 12 → hc 119 b = -1) → V idsB G RX6 cX6_tints 5 (some .boolean) (rmD 2) 23 [some (.ref (ad G 100)), some (.int (nI m)), some (.int (dn k)), o3, o4] [] hc Q) (t : Nat) (ht : t ≤ min (usd (wmF N) col k + 1) m) (e1 : same [119] h hc) (hT : TT N col k hc) (hb : ∀ b, k < b → b < 12 → hc 119 b = -1) (hkt : hc 119 k = dn t) (hR : tryT (stepF (wmF N) (nCl N) m n k col (usd (wmF N) col k)) (min (usd (wmF N) col k + 1) m - t) t = R) (o3 o4 : OV) : V idsB G RX6 cX6_tints 5 (some .boolean) (rmD 2) 23 [some (.ref (ad G 100)), some (.int (nI m)), some (.int (nI k)), o3, o4] [] hc Q := by
  have hnl := i.nl
  induction hz : min (usd (wmF N) col k + 1) m - t using Nat.strongRecOn generalizing hc t o3 o4 with
  | _ z ih =>
    subst hz
    have rc := r.same e1 (by unfold offB; decide)
    have hlen := i.len (l := k)
    have hwl : ¬ (nWy N k).length = 0 := fun y => (of_decide_eq_true hw) (List.length_eq_zero_iff.mp y)
    have hus : usd (wmF N) col k ≤ 13 := usd_le (fun b hb hw => ((hT b hb).1 hw).2)
    refine V_iload2 dX6_tints_23 ?_
    first | refine V_if_lt_n 220 dX6_tints_24 (by decide) (by omega) (fun c24 => ?_) (fun c24 => ?_) | refine V_if_lt 220 dX6_tints_24 (by decide) (fun c24 => ?_) (fun c24 => ?_)
    · exact c24.elim --end
    · refine V_iload2 dX6_tints_27 ?_
      refine V_aload0 dX6_tints_28 ?_
      refine gX6_102 dX6_tints_29 ?_
      rw [rc.2.1]
      first | refine V_icmp_ge_n 220 dX6_tints_32 (by decide) (by omega) (by omega) (fun c32 => ?_) (fun c32 => ?_) | refine V_icmp_ge 220 dX6_tints_32 (by decide) (fun c32 => ?_) (fun c32 => ?_)
      · exact absurd c32 (by omega) --end
      · refine V_aload0 dX6_tints_35 ?_
        refine gX6_32 dX6_tints_36 ?_
        refine V_iload2 dX6_tints_39 ?_
        refine V_iaload (by decide) aI_111 (by decide) rfl (by first | assumption | omega) dX6_tints_40 ?_
        rw [(rc.2.2.2.2.2.1 k (by omega)).1]
        first | refine V_if_ne_z 88 dX6_tints_41 (by decide) (fun c41 => ?_) (fun c41 => ?_) | refine V_if_ne_n 88 dX6_tints_41 (by decide) (by omega) (fun c41 => ?_) (fun c41 => ?_) | refine V_if_ne 88 dX6_tints_41 (by decide) (fun c41 => ?_) (fun c41 => ?_)
        · refine V_iconst (nI 0) dX6_tints_88 (by decide) ?_
          refine V_istore3 dX6_tints_89 (by decide) rfl ?_
          refine V_iconst (nI 0) dX6_tints_90 (by decide) ?_
          refine V_istore4 dX6_tints_91 (by decide) rfl ?_
          refine l_X6_tints_2 G hc N m k (by omega) col hT _ (fun o4 => ?_) 0 (Nat.zero_le _)
          refine V_iload3 dX6_tints_132 ?_
          refine V_iconst (nI 1) dX6_tints_133 (by decide) ?_
          first | refine V_iadd_n dX6_tints_134 ?_ | refine V_iadd dX6_tints_134 ?_
          refine V_iload1 dX6_tints_135 ?_
          first | refine V_icmp_ge_n 145 dX6_tints_136 (by decide) (by omega) (by omega) (fun c136 => ?_) (fun c136 => ?_) | refine V_icmp_ge 145 dX6_tints_136 (by decide) (fun c136 => ?_) (fun c136 => ?_)
          · refine V_iload1 dX6_tints_145 ?_
            first
            | rw [show nI (usd (wmF N) col k + 1) = nI (min (usd (wmF N) col k + 1) m) from congrArg nI (by omega)]
            | rw [show (Value.int (nI m) :: ([] : List Value)) = [Value.int (nI (min (usd (wmF N) col k + 1) m))] from congrArg (fun x => [Value.int (nI x)]) (by omega)]
            refine V_istore4 dX6_tints_146 (by decide) rfl ?_
            refine V_aload0 dX6_tints_148 ?_
            refine gX6_56 dX6_tints_149 ?_
            refine V_iload2 dX6_tints_152 ?_
            refine V_dup2 dX6_tints_153 rfl rfl ?_
            refine V_iaload (by decide) aI_119 (by decide) rfl (by omega) dX6_tints_154 ?_
            rw [hkt]
            refine V_iconst (nI 1) dX6_tints_155 (by decide) ?_
            refine V_iadd dX6_tints_156 ?_
            rw [dn_inc t (by omega)]
            refine V_iastore (by decide) aI_119 (by decide) rfl (by first | assumption | omega) dX6_tints_157 ?_
            refine l_X6_tints_3 G h _ N i r m k (by omega) col (stepF (wmF N) (nCl N) m n k col (usd (wmF N) col k)) (fun t hx => stepF_f hx) _ _ (by omega) t R _ (fun hc t e1 hT hb hkt h0 ht hfit hR => ?_) t (Nat.le_refl _) ht (e1.wr _ _ (by decide)) (fun b hb2 => by rw [wr_j _ _ (by omega)]; exact hT b hb2) (fun b h1 h2 => by rw [wr_j _ _ (by omega)]; exact hb b h1 h2) (wr_s _ _ _ _) hR
            refine V_aload0 dX6_tints_190 ?_
            refine gX6_56 dX6_tints_191 ?_
            refine V_iload2 dX6_tints_194 ?_
            refine V_iaload (by decide) aI_119 (by decide) rfl (by first | assumption | omega) dX6_tints_195 ?_
            rw [hkt]
            refine V_iload4 dX6_tints_196 ?_
            first | refine V_icmp_ge_n 207 dX6_tints_198 (by decide) (by omega) (by omega) (fun c198 => ?_) (fun c198 => ?_) | refine V_icmp_ge 207 dX6_tints_198 (by decide) (fun c198 => ?_) (fun c198 => ?_)
            · refine V_aload0 dX6_tints_207 ?_
              refine gX6_56 dX6_tints_208 ?_
              refine V_iload2 dX6_tints_211 ?_
              refine V_iconst (-1) dX6_tints_212 (by decide) ?_
              refine V_iastore (by decide) aI_119 (by decide) rfl (by first | assumption | omega) dX6_tints_213 ?_
              refine V_iinc2 (-1) dX6_tints_214 (by decide) (by decide) rfl ?_
              refine V_goto 23 dX6_tints_217 (by decide) ?_
              rw [dn_sub k (by omega)]
              refine Kf _ _ _ ?_ (e1.wr _ _ (by decide)) (fun b hb2 => by rw [wr_j _ _ (by omega)]; exact hT b hb2) (fun b h1 h2 => ?_)
              · rw [← hR, show min (usd (wmF N) col k + 1) m - t = 0 by omega]; rfl
              · by_cases e9 : b = k
                · rw [e9, wr_s]
                · rw [wr_j _ _ e9]; exact hb b (by omega) h2
            · first | refine V_iinc2_n 1 dX6_tints_201 (by decide) (by decide) rfl ?_ | refine V_iinc2 (nI 1) dX6_tints_201 (by decide) (by decide) rfl ?_
              refine V_goto 217 dX6_tints_204 (by decide) ?_
              refine V_goto 23 dX6_tints_217 (by decide) ?_
              have hfit := hfit (by omega)
              have hd : (stepF (wmF N) (nCl N) m n k col (usd (wmF N) col k)) t = dfs (wmF N) (nCl N) m n (k + 1) (va_up col k t) (usd (wmF N) (va_up col k t) (k + 1)) := by rw [stepF_t hfit, usd_up hw]
              refine A (va_up col k t) hc _ _ e1 (fun b hb2 => ?_) (fun b h1 h2 => hb b (by omega) h2) (fun col2 hc2 o3 o4 q1 q2 q3 => ?_) (fun hc2 o3 o4 q1 q2 q3 q4 => ?_)
              · by_cases e9 : b = k
                · subst e9
                  rw [va_up_s]
                  exact ⟨fun _ => ⟨hkt, by omega⟩, fun y => by rw [hw] at y; cases y⟩
                · rw [va_up_ne _ _ e9]; exact hT b (by omega)
              · refine Ks col2 hc2 o3 o4 ?_ q2 q3
                rw [← hR, show min (usd (wmF N) col k + 1) m - t = (min (usd (wmF N) col k + 1) m - (t + 1)) + 1 by omega]
                exact tryT_s (hd.trans q1)
              · refine ih _ (by omega) hc2 (t + 1) (by omega) q2 (fun b hb2 => ?_) (fun b h1 h2 => q4 b (by omega) h2) ?_ ?_ o3 o4 rfl
                · have z := q3 b (by omega)
                  rw [va_up_ne _ _ (by omega)] at z
                  exact z
                · have z := (q3 k (by omega)).1 hw
                  rw [va_up_s] at z
                  exact z.1
                · rw [← hR, show min (usd (wmF N) col k + 1) m - t = (min (usd (wmF N) col k + 1) m - (t + 1)) + 1 by omega, tryT_n (hd.trans q1)]
          · refine V_iload3 dX6_tints_139 ?_
            refine V_iconst (nI 1) dX6_tints_140 (by decide) ?_
            first | refine V_iadd_n dX6_tints_141 ?_ | refine V_iadd dX6_tints_141 ?_
            refine V_goto 146 dX6_tints_142 (by decide) ?_
            first
            | rw [show nI (usd (wmF N) col k + 1) = nI (min (usd (wmF N) col k + 1) m) from congrArg nI (by omega)]
            | rw [show (Value.int (nI m) :: ([] : List Value)) = [Value.int (nI (min (usd (wmF N) col k + 1) m))] from congrArg (fun x => [Value.int (nI x)]) (by omega)]
            refine V_istore4 dX6_tints_146 (by decide) rfl ?_
            refine V_aload0 dX6_tints_148 ?_
            refine gX6_56 dX6_tints_149 ?_
            refine V_iload2 dX6_tints_152 ?_
            refine V_dup2 dX6_tints_153 rfl rfl ?_
            refine V_iaload (by decide) aI_119 (by decide) rfl (by omega) dX6_tints_154 ?_
            rw [hkt]
            refine V_iconst (nI 1) dX6_tints_155 (by decide) ?_
            refine V_iadd dX6_tints_156 ?_
            rw [dn_inc t (by omega)]
            refine V_iastore (by decide) aI_119 (by decide) rfl (by first | assumption | omega) dX6_tints_157 ?_
            refine l_X6_tints_3 G h _ N i r m k (by omega) col (stepF (wmF N) (nCl N) m n k col (usd (wmF N) col k)) (fun t hx => stepF_f hx) _ _ (by omega) t R _ (fun hc t e1 hT hb hkt h0 ht hfit hR => ?_) t (Nat.le_refl _) ht (e1.wr _ _ (by decide)) (fun b hb2 => by rw [wr_j _ _ (by omega)]; exact hT b hb2) (fun b h1 h2 => by rw [wr_j _ _ (by omega)]; exact hb b h1 h2) (wr_s _ _ _ _) hR
            refine V_aload0 dX6_tints_190 ?_
            refine gX6_56 dX6_tints_191 ?_
            refine V_iload2 dX6_tints_194 ?_
            refine V_iaload (by decide) aI_119 (by decide) rfl (by first | assumption | omega) dX6_tints_195 ?_
            rw [hkt]
            refine V_iload4 dX6_tints_196 ?_
            first | refine V_icmp_ge_n 207 dX6_tints_198 (by decide) (by omega) (by omega) (fun c198 => ?_) (fun c198 => ?_) | refine V_icmp_ge 207 dX6_tints_198 (by decide) (fun c198 => ?_) (fun c198 => ?_)
            · refine V_aload0 dX6_tints_207 ?_
              refine gX6_56 dX6_tints_208 ?_
              refine V_iload2 dX6_tints_211 ?_
              refine V_iconst (-1) dX6_tints_212 (by decide) ?_
              refine V_iastore (by decide) aI_119 (by decide) rfl (by first | assumption | omega) dX6_tints_213 ?_
              refine V_iinc2 (-1) dX6_tints_214 (by decide) (by decide) rfl ?_
              refine V_goto 23 dX6_tints_217 (by decide) ?_
              rw [dn_sub k (by omega)]
              refine Kf _ _ _ ?_ (e1.wr _ _ (by decide)) (fun b hb2 => by rw [wr_j _ _ (by omega)]; exact hT b hb2) (fun b h1 h2 => ?_)
              · rw [← hR, show min (usd (wmF N) col k + 1) m - t = 0 by omega]; rfl
              · by_cases e9 : b = k
                · rw [e9, wr_s]
                · rw [wr_j _ _ e9]; exact hb b (by omega) h2
            · first | refine V_iinc2_n 1 dX6_tints_201 (by decide) (by decide) rfl ?_ | refine V_iinc2 (nI 1) dX6_tints_201 (by decide) (by decide) rfl ?_
              refine V_goto 217 dX6_tints_204 (by decide) ?_
              refine V_goto 23 dX6_tints_217 (by decide) ?_
              have hfit := hfit (by omega)
              have hd : (stepF (wmF N) (nCl N) m n k col (usd (wmF N) col k)) t = dfs (wmF N) (nCl N) m n (k + 1) (va_up col k t) (usd (wmF N) (va_up col k t) (k + 1)) := by rw [stepF_t hfit, usd_up hw]
              refine A (va_up col k t) hc _ _ e1 (fun b hb2 => ?_) (fun b h1 h2 => hb b (by omega) h2) (fun col2 hc2 o3 o4 q1 q2 q3 => ?_) (fun hc2 o3 o4 q1 q2 q3 q4 => ?_)
              · by_cases e9 : b = k
                · subst e9
                  rw [va_up_s]
                  exact ⟨fun _ => ⟨hkt, by omega⟩, fun y => by rw [hw] at y; cases y⟩
                · rw [va_up_ne _ _ e9]; exact hT b (by omega)
              · refine Ks col2 hc2 o3 o4 ?_ q2 q3
                rw [← hR, show min (usd (wmF N) col k + 1) m - t = (min (usd (wmF N) col k + 1) m - (t + 1)) + 1 by omega]
                exact tryT_s (hd.trans q1)
              · refine ih _ (by omega) hc2 (t + 1) (by omega) q2 (fun b hb2 => ?_) (fun b h1 h2 => q4 b (by omega) h2) ?_ ?_ o3 o4 rfl
                · have z := q3 b (by omega)
                  rw [va_up_ne _ _ (by omega)] at z
                  exact z
                · have z := (q3 k (by omega)).1 hw
                  rw [va_up_s] at z
                  exact z.1
                · rw [← hR, show min (usd (wmF N) col k + 1) m - t = (min (usd (wmF N) col k + 1) m - (t + 1)) + 1 by omega, tryT_n (hd.trans q1)]
        · exact absurd c41 hwl --end
