set_option maxRecDepth 4000 in
theorem l_X6_passed_1 (G : GE) (h hc : Mem) (c : Int32) (l : Nat) (hl : l < 12) (w : List Nat) (hw : w.length ≤ 99) (w4 : Int32) (o6 o7 : OV) (hx : ∀ k, k < w.length → h 112 (100 * l + k) = nI (w.getD k 0)) (j : Nat) (hj : j ≤ w.length) (Q : Option Value → Mem → Prop) (e1 : same [118] h hc) (e2 : ∀ x, x < j → hc 118 x = nI (w.getD x 0)) (K : ∀ hc, same [118] h hc → (∀ x, x < w.length → hc 118 x = nI (w.getD x 0)) → V idsB G RX6 cX6_passed 8 (some .int) (rmD 4) 60 [some (.ref (ad G 100)), some (.int c), some (.int (nI l)), some (.int (nI w.length)), some (.int w4), some (.int (nI w.length)), o6, o7] [] hc Q) : V idsB G RX6 cX6_passed 8 (some .int) (rmD 4) 29 [some (.ref (ad G 100)), some (.int c), some (.int (nI l)), some (.int (nI w.length)), some (.int w4), some (.int (nI j)), o6, o7] [] hc Q := by
  induction hm : w.length - j using Nat.strongRecOn generalizing hc j with
  | _ m ih =>
    subst hm
    refine V_iload5 dX6_passed_29 ?_
    refine V_iload3 dX6_passed_31 ?_
    first | refine V_icmp_ge_n 60 dX6_passed_32 (by decide) (by omega) (by omega) (fun c32 => ?_) (fun c32 => ?_) | refine V_icmp_ge 60 dX6_passed_32 (by decide) (fun c32 => ?_) (fun c32 => ?_)
    · obtain rfl : j = w.length := by omega
      exact K hc e1 e2
    · refine V_aload0 dX6_passed_35 ?_
      refine gX6_53 dX6_passed_36 ?_
      refine V_iload5 dX6_passed_39 ?_
      refine V_aload0 dX6_passed_41 ?_
      refine gX6_35 dX6_passed_42 ?_
      refine V_bipush (nI 100) dX6_passed_45 (by decide) ?_
      refine V_iload2 dX6_passed_47 ?_
      first | refine V_imul_n dX6_passed_48 ?_ | refine V_imul dX6_passed_48 ?_
      refine V_iload5 dX6_passed_49 ?_
      first | refine V_iadd_n dX6_passed_51 ?_ | refine V_iadd dX6_passed_51 ?_
      refine V_iaload (by decide) aI_112 (by decide) rfl (by first | assumption | omega) dX6_passed_52 ?_
      rw [e1 112 (by decide), hx _ (by omega)]
      refine V_iastore (by decide) aI_118 (by decide) rfl (by first | assumption | omega) dX6_passed_53 ?_
      first | refine V_iinc5_n 1 dX6_passed_54 (by decide) (by decide) rfl ?_ | refine V_iinc5 (nI 1) dX6_passed_54 (by decide) (by decide) rfl ?_
      refine V_goto 29 dX6_passed_57 (by decide) ?_
      exact ih _ (by omega) _ (j + 1) (by omega) (e1.wr _ _ (by decide)) (lt_s (fun x h1 => by rw [wr_j _ _ (by omega)]; exact e2 x h1) (wr_s _ _ _ _)) rfl
set_option maxRecDepth 4000 in
theorem l_X6_passed_2 (G : GE) (h hc : Mem) (N : Ng) (i : Inv N) (c : Int32) (l : Nat) (hl : l < 12) (W : List Nat) (hW : W.length ≤ 99) (o4 : OV) (w5 : Int32) (hx : ∀ k, k < W.length → h 118 k = nI (W.getD k 0)) (Q : Option Value → Mem → Prop) (K : ∀ hc p, same [112, 113] h hc → RBn (setW N l W) (wr hc 111 l (nI W.length)) → V idsB G RX6 cX6_passed 8 (some .int) (rmD 4) 198 [some (.ref (ad G 100)), some (.int c), some (.int (nI l)), some (.int (nI W.length)), o4, some (.int w5), some (.int (nI p)), some (.int (nI W.length))] [] hc Q) (u v : List Nat) (p : Nat) (hp : p < 100) (he : endW (nSt N l) u = p) (hov : okW p v) (hWW : u ++ v = W) (e1 : same [112, 113] h hc) (rc : RBn (setW N l u) (wr hc 111 l (nI u.length))) : V idsB G RX6 cX6_passed 8 (some .int) (rmD 4) 129 [some (.ref (ad G 100)), some (.int c), some (.int (nI l)), some (.int (nI W.length)), o4, some (.int w5), some (.int (nI p)), some (.int (nI u.length))] [] hc Q := by
  induction v generalizing hc u p with
  | nil =>
    rw [List.append_nil] at hWW
    subst hWW
    refine V_iload7 dX6_passed_129 ?_
    refine V_iload3 dX6_passed_131 ?_
    first | refine V_icmp_ge_n 198 dX6_passed_132 (by decide) (by omega) (by omega) (fun c132 => ?_) (fun c132 => ?_) | refine V_icmp_ge 198 dX6_passed_132 (by decide) (fun c132 => ?_) (fun c132 => ?_)
    · exact K hc p e1 rc
    · exact absurd (Nat.le_refl _) c132 --end
  | cons d v ih =>
    obtain ⟨hd, hn, hov2⟩ := hov
    have hq := nb_lt hp hn
    have hps := phi_sB hp hd hn
    have hlen : u.length + (v.length + 1) = W.length := by rw [← hWW, List.length_append]; rfl
    have hWd : W.getD u.length 0 = d := by rw [← hWW]; exact getD_mid
    refine V_iload7 dX6_passed_129 ?_
    refine V_iload3 dX6_passed_131 ?_
    first | refine V_icmp_ge_n 198 dX6_passed_132 (by decide) (by omega) (by omega) (fun c132 => ?_) (fun c132 => ?_) | refine V_icmp_ge 198 dX6_passed_132 (by decide) (fun c132 => ?_) (fun c132 => ?_)
    · exact absurd c132 (by omega) --end
    · refine V_aload0 dX6_passed_135 ?_
      refine gX6_35 dX6_passed_136 ?_
      refine V_bipush (nI 100) dX6_passed_139 (by decide) ?_
      refine V_iload2 dX6_passed_141 ?_
      first | refine V_imul_n dX6_passed_142 ?_ | refine V_imul dX6_passed_142 ?_
      refine V_iload7 dX6_passed_143 ?_
      first | refine V_iadd_n dX6_passed_145 ?_ | refine V_iadd dX6_passed_145 ?_
      refine V_aload0 dX6_passed_146 ?_
      refine gX6_53 dX6_passed_147 ?_
      refine V_iload7 dX6_passed_150 ?_
      refine V_iaload (by decide) aI_118 (by decide) rfl (by first | assumption | omega) dX6_passed_152 ?_
      rw [e1 118 (by decide), hx _ (by omega), hWd]
      refine V_iastore (by decide) aI_112 (by decide) rfl (by first | assumption | omega) dX6_passed_153 ?_
      refine V_aload0 dX6_passed_154 ?_
      refine gX6_38 dX6_passed_155 ?_
      refine V_sipush (nI 180) dX6_passed_158 (by decide) ?_
      refine V_iload2 dX6_passed_161 ?_
      first | refine V_imul_n dX6_passed_162 ?_ | refine V_imul dX6_passed_162 ?_
      refine V_iload6 dX6_passed_163 ?_
      refine V_aload0 dX6_passed_165 ?_
      refine gX6_53 dX6_passed_166 ?_
      refine V_iload7 dX6_passed_169 ?_
      refine V_iaload (by decide) aI_118 (by decide) rfl (by first | assumption | omega) dX6_passed_171 ?_
      rw [wr_c _ _ _ (by decide), e1 118 (by decide), hx _ (by omega), hWd]
      refine kX6_109 (m_X6_side _ _ _ _ hp hd (nb_h3 hn) (nb_h0 hn)) (rOK_d (by decide) (by decide)) (Nat.le_of_ble_eq_true rfl) dX6_passed_172 (fun r172 h172 hq172 => ?_)
      obtain ⟨e_, rfl⟩ := hq172
      replace e_ := e_.symm
      subst e_
      first | refine V_iadd_n dX6_passed_175 ?_ | refine V_iadd dX6_passed_175 ?_
      refine V_iconst (nI 1) dX6_passed_176 (by decide) ?_
      refine V_bastore (by decide) aZ_113 (by decide) rfl (by omega) (by first | exact bz_01 | exact nI_01 (Or.inl rfl) | exact nI_01 (Or.inr rfl) | assumption) dX6_passed_177 ?_
      refine V_iload6 dX6_passed_178 ?_
      refine V_aload0 dX6_passed_180 ?_
      refine gX6_53 dX6_passed_181 ?_
      refine V_iload7 dX6_passed_184 ?_
      refine V_iaload (by decide) aI_118 (by decide) rfl (by first | assumption | omega) dX6_passed_186 ?_
      rw [wr_c _ _ _ (by decide), wr_c _ _ _ (by decide), e1 118 (by decide), hx _ (by omega), hWd]
      refine kX6_105 (m_X6_go _ _ _ _ hp hd) (rOK_d (by decide) (by decide)) (Nat.le_of_ble_eq_true rfl) dX6_passed_187 (fun r187 h187 hq187 => ?_)
      obtain ⟨e_, rfl⟩ := hq187
      replace e_ := e_.symm
      subst e_
      rw [hn, oI_s]
      refine V_istore6 dX6_passed_190 (by decide) rfl ?_
      first | refine V_iinc7_n 1 dX6_passed_192 (by decide) (by decide) rfl ?_ | refine V_iinc7 (nI 1) dX6_passed_192 (by decide) (by decide) rfl ?_
      refine V_goto 129 dX6_passed_195 (by decide) ?_
      have hz := ih (wr (wr hc 112 (100 * l + u.length) (nI d)) 113 (180 * l + sB p d) (nI 1)) (u ++ [d]) (stp p d) hq (by rw [endW_app, he]; rfl) hov2 (by rw [← hWW, List.append_assoc]; rfl) ((e1.wr _ _ (by decide)).wr _ _ (by decide)) (by rw [List.length_append]; exact RBn_push i hl rc hp hd he hn (by omega))
      rw [List.length_append] at hz
      exact hz
