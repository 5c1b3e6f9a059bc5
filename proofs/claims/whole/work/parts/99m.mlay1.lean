theorem getD_midI {pre v : List Int32} {d : Int32} : (pre ++ d :: v).getD pre.length 0 = d := by
  simp [List.getD_eq_getElem?_getD]
set_option maxRecDepth 4000 in
theorem l_X6_lay_1 (G : GE) (h hc : Mem) (l s j n p : Nat) (Q : Option Value → Mem → Prop) (hp : p ≤ 100) (e1 : same [116] h hc) (e2 : ∀ x, x < p → hc 116 x = nI 0) (K : ∀ hc, same [116] h hc → (∀ x, x < 100 → hc 116 x = nI 0) → V idsB G RX6 cX6_lay 10 (some .int) (rmD 3) 102 [some (.ref (ad G 100)), some (.int (nI l)), some (.int (nI s)), some (.int (nI j)), some (.int (nI n)), some (.int (nI 100)), none, none, none, none] [] hc Q) : V idsB G RX6 cX6_lay 10 (some .int) (rmD 3) 81 [some (.ref (ad G 100)), some (.int (nI l)), some (.int (nI s)), some (.int (nI j)), some (.int (nI n)), some (.int (nI p)), none, none, none, none] [] hc Q := by
  induction hm : 100 - p using Nat.strongRecOn generalizing hc p with
  | _ m ih =>
    subst hm
    refine V_iload5 dX6_lay_81 ?_
    refine V_bipush (nI 100) dX6_lay_83 (by decide) ?_
    first | refine V_icmp_ge_n 102 dX6_lay_85 (by decide) (by omega) (by omega) (fun c85 => ?_) (fun c85 => ?_) | refine V_icmp_ge 102 dX6_lay_85 (by decide) (fun c85 => ?_) (fun c85 => ?_)
    · obtain rfl : p = 100 := by omega
      exact K hc e1 e2
    · refine V_aload0 dX6_lay_88 ?_
      refine gX6_47 dX6_lay_89 ?_
      refine V_iload5 dX6_lay_92 ?_
      refine V_iconst (nI 0) dX6_lay_94 (by decide) ?_
      refine V_iastore (by decide) aI_116 (by decide) rfl (by first | assumption | omega) dX6_lay_95 ?_
      first | refine V_iinc5_n 1 dX6_lay_96 (by decide) (by decide) rfl ?_ | refine V_iinc5 (nI 1) dX6_lay_96 (by decide) (by decide) rfl ?_
      refine V_goto 81 dX6_lay_99 (by decide) ?_
      exact ih _ (by omega) _ (p + 1) (by omega) (e1.wr _ _ (by decide)) (lt_s (fun x h1 => by rw [wr_j _ _ (by omega)]; exact e2 x h1) (wr_s _ _ _ _)) rfl
set_option maxRecDepth 4000 in
theorem l_X6_lay_2 (G : GE) (h hc : Mem) (N : Ng) (r : RBn N h) (l s j n : Nat) (hs : s < 8) (hjn : j + n ≤ 60) (L : List Int32) (hL : L.length = n) (hx : ∀ k, k < n → h 104 (60 * s + j + k) = L.getD k 0) (R : Option Nat) (Q : Option Value → Mem → Prop) (K : ∀ hc g p o7 o8 o9, same [116] h hc → ((g = 0 ∧ R = none) ∨ (g = 1 ∧ R = some p ∧ p < 100)) → V idsB G RX6 cX6_lay 10 (some .int) (rmD 3) 260 [some (.ref (ad G 100)), some (.int (nI l)), some (.int (nI s)), some (.int (nI j)), some (.int (nI n)), some (.int (nI p)), some (.int (nI g)), o7, o8, o9] [] hc Q) (vs : List Nat) (p : Nat) (hp : p < 100) (pre xs : List Int32) (hpx : pre ++ xs = L) (hR : wk (nSh N) (p :: vs) p xs = R) (e1 : same [116] h hc) (hm : ∀ t, t < 100 → hc 116 t = nI (if t ∈ vs then 1 else 0)) (o8 o9 : OV) : V idsB G RX6 cX6_lay 10 (some .int) (rmD 3) 121 [some (.ref (ad G 100)), some (.int (nI l)), some (.int (nI s)), some (.int (nI j)), some (.int (nI n)), some (.int (nI p)), some (.int (nI 1)), some (.int (nI pre.length)), o8, o9] [] hc Q := by
  induction xs generalizing hc vs p pre o8 o9 with
  | nil =>
    rw [List.append_nil] at hpx
    subst hpx
    refine V_iload7 dX6_lay_121 ?_
    refine V_iload4 dX6_lay_123 ?_
    first | refine V_icmp_ge_n 260 dX6_lay_125 (by decide) (by omega) (by omega) (fun c125 => ?_) (fun c125 => ?_) | refine V_icmp_ge 260 dX6_lay_125 (by decide) (fun c125 => ?_) (fun c125 => ?_)
    · exact K _ 1 p _ _ _ e1 (Or.inr ⟨rfl, hR.symm, hp⟩)
    · exact absurd (by omega) c125 --end
  | cons x xs ih =>
    have hlen : pre.length + (xs.length + 1) = n := by rw [← hL, ← hpx, List.length_append]; rfl
    have hxd : L.getD pre.length 0 = x := by rw [← hpx]; exact getD_midI
    have hm1 : ∀ t, t < 100 → wr hc 116 p (nI 1) 116 t = nI (if t ∈ p :: vs then 1 else 0) := fun t ht => by
      by_cases e : t = p
      · rw [e, wr_s, if_pos List.mem_cons_self]
      · rw [wr_j _ _ e, hm t ht]
        by_cases e2 : t ∈ vs
        · rw [if_pos e2, if_pos (List.mem_cons_of_mem _ e2)]
        · rw [if_neg e2, if_neg (fun z => (List.mem_cons.mp z).elim e e2)]
    refine V_iload7 dX6_lay_121 ?_
    refine V_iload4 dX6_lay_123 ?_
    first | refine V_icmp_ge_n 260 dX6_lay_125 (by decide) (by omega) (by omega) (fun c125 => ?_) (fun c125 => ?_) | refine V_icmp_ge 260 dX6_lay_125 (by decide) (fun c125 => ?_) (fun c125 => ?_)
    · exact absurd c125 (by omega) --end
    · refine V_iload6 dX6_lay_128 ?_
      first | refine V_if_eq_z 260 dX6_lay_130 (by decide) (fun c130 => ?_) (fun c130 => ?_) | refine V_if_eq_n 260 dX6_lay_130 (by decide) (by omega) (fun c130 => ?_) (fun c130 => ?_) | refine V_if_eq 260 dX6_lay_130 (by decide) (fun c130 => ?_) (fun c130 => ?_)
      · exact absurd c130 (by decide) --end
      · refine V_aload0 dX6_lay_133 ?_
        refine gX6_47 dX6_lay_134 ?_
        refine V_iload5 dX6_lay_137 ?_
        refine V_iconst (nI 1) dX6_lay_139 (by decide) ?_
        refine V_iastore (by decide) aI_116 (by decide) rfl (by first | assumption | omega) dX6_lay_140 ?_
        refine V_aload0 dX6_lay_141 ?_
        refine gX6_16 dX6_lay_142 ?_
        refine V_bipush (nI 60) dX6_lay_145 (by decide) ?_
        refine V_iload2 dX6_lay_147 ?_
        first | refine V_imul_n dX6_lay_148 ?_ | refine V_imul dX6_lay_148 ?_
        refine V_iload3 dX6_lay_149 ?_
        first | refine V_iadd_n dX6_lay_150 ?_ | refine V_iadd dX6_lay_150 ?_
        refine V_iload7 dX6_lay_151 ?_
        first | refine V_iadd_n dX6_lay_153 ?_ | refine V_iadd dX6_lay_153 ?_
        refine V_iaload (by decide) aI_104 (by decide) rfl (by omega) dX6_lay_154 ?_
        rw [wr_c _ _ _ (by decide), e1 104 (by decide), hx _ (by omega), hxd]
        refine V_istore8 dX6_lay_155 (by decide) rfl ?_
        refine V_iload8 dX6_lay_157 ?_
        refine V_i2l dX6_lay_159 ?_
        refine V_lconst 0 dX6_lay_160 (by decide) ?_
        refine V_ldc2_w ct_X6_143 dX6_lay_161 ?_
        refine kX6_72 (m_X6_in _ _ _ _ _) (rOK_d (by decide) (by decide)) (Nat.le_of_ble_eq_true rfl) dX6_lay_164 (fun r164 h164 hq164 => ?_)
        obtain ⟨e_, rfl⟩ := hq164
        replace e_ := e_.symm
        subst e_
        rw [bz_c (in_e x (n := 4) (by decide))]
        first | refine V_if_eq_z 180 dX6_lay_167 (by decide) (fun c167 => ?_) (fun c167 => ?_) | refine V_if_eq_n 180 dX6_lay_167 (by decide) (by omega) (fun c167 => ?_) (fun c167 => ?_) | refine V_if_eq 180 dX6_lay_167 (by decide) (fun c167 => ?_) (fun c167 => ?_)
        · have hRn : R = none := hR.symm.trans (wk_bad c167)
          refine V_ldc ct_X6_93 dX6_lay_180 ?_
          refine V_istore9 dX6_lay_182 (by decide) rfl ?_
          refine V_iload9 dX6_lay_184 ?_
          refine V_ldc ct_X6_93 dX6_lay_186 ?_
          refine V_icmp_eq 237 dX6_lay_188 (by decide) (fun c188 => ?_) (fun c188 => absurd rfl c188)
          refine V_iconst (nI 0) dX6_lay_237 (by decide) ?_
          refine V_istore6 dX6_lay_238 (by decide) rfl ?_
          refine V_iload6 dX6_lay_240 ?_
          first | refine V_if_eq_z 250 dX6_lay_242 (by decide) (fun c242 => ?_) (fun c242 => ?_) | refine V_if_eq_n 250 dX6_lay_242 (by decide) (by omega) (fun c242 => ?_) (fun c242 => ?_) | refine V_if_eq 250 dX6_lay_242 (by decide) (fun c242 => ?_) (fun c242 => ?_)
          · refine V_iload5 dX6_lay_250 ?_
            refine V_istore5 dX6_lay_252 (by decide) rfl ?_
            first | refine V_iinc7_n 1 dX6_lay_254 (by decide) (by decide) rfl ?_ | refine V_iinc7 (nI 1) dX6_lay_254 (by decide) (by decide) rfl ?_
            refine V_goto 121 dX6_lay_257 (by decide) ?_
            refine V_iload7 dX6_lay_121 ?_
            refine V_iload4 dX6_lay_123 ?_
            first | refine V_icmp_ge_n 260 dX6_lay_125 (by decide) (by omega) (by omega) (fun c125 => ?_) (fun c125 => ?_) | refine V_icmp_ge 260 dX6_lay_125 (by decide) (fun c125 => ?_) (fun c125 => ?_)
            · exact K (wr hc 116 p (nI 1)) 0 p _ _ _ (e1.wr _ _ (by decide)) (Or.inl ⟨rfl, hRn⟩)
            · refine V_iload6 dX6_lay_128 ?_
              first | refine V_if_eq_z 260 dX6_lay_130 (by decide) (fun c130 => ?_) (fun c130 => ?_) | refine V_if_eq_n 260 dX6_lay_130 (by decide) (by omega) (fun c130 => ?_) (fun c130 => ?_) | refine V_if_eq 260 dX6_lay_130 (by decide) (fun c130 => ?_) (fun c130 => ?_)
              · exact K (wr hc 116 p (nI 1)) 0 p _ _ _ (e1.wr _ _ (by decide)) (Or.inl ⟨rfl, hRn⟩)
              · exact absurd rfl c130 --end
          · exact absurd rfl c242 --end
        · obtain ⟨d, hd, rfl⟩ := (inR_iff (by decide)).mp c167
          rw [wk_step hd] at hR
          refine V_iload5 dX6_lay_170 ?_
          refine V_iload8 dX6_lay_172 ?_
          refine kX6_105 (m_X6_go _ _ _ _ hp hd) (rOK_d (by decide) (by decide)) (Nat.le_of_ble_eq_true rfl) dX6_lay_174 (fun r174 h174 hq174 => ?_)
          obtain ⟨e_, rfl⟩ := hq174
          replace e_ := e_.symm
          subst e_
          cases e : nb p d with
          | none =>
            rw [e] at hR
            have hRn : R = none := hR.symm
            rw [oI_n]
            refine V_goto 182 dX6_lay_177 (by decide) ?_
            refine V_istore9 dX6_lay_182 (by decide) rfl ?_
            refine V_iload9 dX6_lay_184 ?_
            refine V_ldc ct_X6_93 dX6_lay_186 ?_
            refine V_icmp_eq 237 dX6_lay_188 (by decide) (fun c188 => ?_) (fun c188 => absurd rfl c188)
            refine V_iconst (nI 0) dX6_lay_237 (by decide) ?_
            refine V_istore6 dX6_lay_238 (by decide) rfl ?_
            refine V_iload6 dX6_lay_240 ?_
            first | refine V_if_eq_z 250 dX6_lay_242 (by decide) (fun c242 => ?_) (fun c242 => ?_) | refine V_if_eq_n 250 dX6_lay_242 (by decide) (by omega) (fun c242 => ?_) (fun c242 => ?_) | refine V_if_eq 250 dX6_lay_242 (by decide) (fun c242 => ?_) (fun c242 => ?_)
            · refine V_iload5 dX6_lay_250 ?_
              refine V_istore5 dX6_lay_252 (by decide) rfl ?_
              first | refine V_iinc7_n 1 dX6_lay_254 (by decide) (by decide) rfl ?_ | refine V_iinc7 (nI 1) dX6_lay_254 (by decide) (by decide) rfl ?_
              refine V_goto 121 dX6_lay_257 (by decide) ?_
              refine V_iload7 dX6_lay_121 ?_
              refine V_iload4 dX6_lay_123 ?_
              first | refine V_icmp_ge_n 260 dX6_lay_125 (by decide) (by omega) (by omega) (fun c125 => ?_) (fun c125 => ?_) | refine V_icmp_ge 260 dX6_lay_125 (by decide) (fun c125 => ?_) (fun c125 => ?_)
              · exact K (wr hc 116 p (nI 1)) 0 p _ _ _ (e1.wr _ _ (by decide)) (Or.inl ⟨rfl, hRn⟩)
              · refine V_iload6 dX6_lay_128 ?_
                first | refine V_if_eq_z 260 dX6_lay_130 (by decide) (fun c130 => ?_) (fun c130 => ?_) | refine V_if_eq_n 260 dX6_lay_130 (by decide) (by omega) (fun c130 => ?_) (fun c130 => ?_) | refine V_if_eq 260 dX6_lay_130 (by decide) (fun c130 => ?_) (fun c130 => ?_)
                · exact K (wr hc 116 p (nI 1)) 0 p _ _ _ (e1.wr _ _ (by decide)) (Or.inl ⟨rfl, hRn⟩)
                · exact absurd rfl c130 --end
            · exact absurd rfl c242 --end
          | some q =>
            rw [e] at hR
            replace hR : (if nSh N q = true ∨ q ∈ p :: vs then none else wk (nSh N) (q :: p :: vs) q xs) = R := hR
            have hq := nb_lt hp e
            have hqm := nI_m (show q < 2 ^ 31 by omega)
            rw [oI_s]
            refine V_goto 182 dX6_lay_177 (by decide) ?_
            refine V_istore9 dX6_lay_182 (by decide) rfl ?_
            refine V_iload9 dX6_lay_184 ?_
            refine V_ldc ct_X6_93 dX6_lay_186 ?_
            refine V_icmp_eq 237 dX6_lay_188 (by decide) (fun c188 => absurd c188 hqm) (fun c188 => ?_)
            refine V_aload0 dX6_lay_191 ?_
            refine gX6_19 dX6_lay_192 ?_
            refine V_iload9 dX6_lay_195 ?_
            refine V_ldc ct_X6_93 dX6_lay_197 ?_
            refine V_icmp_ne 206 dX6_lay_199 (by decide) (fun c199 => ?_) (fun c199 => absurd c199 hqm)
            refine V_iload9 dX6_lay_206 ?_
            refine V_baload (by decide) aZ_105 (by decide) rfl (by first | assumption | omega) dX6_lay_208 ?_
            rw [wr_c _ _ _ (by decide), e1 105 (by decide), r.2.2.2.1 q hq]
            first | refine V_if_ne_z 237 dX6_lay_209 (by decide) (fun c209 => ?_) (fun c209 => ?_) | refine V_if_ne_n 237 dX6_lay_209 (by decide) (by omega) (fun c209 => ?_) (fun c209 => ?_) | refine V_if_ne 237 dX6_lay_209 (by decide) (fun c209 => ?_) (fun c209 => ?_)
            · have hRn : R = none := hR.symm.trans (if_pos (by first | exact Or.inl c209 | exact Or.inr hv))
              refine V_iconst (nI 0) dX6_lay_237 (by decide) ?_
              refine V_istore6 dX6_lay_238 (by decide) rfl ?_
              refine V_iload6 dX6_lay_240 ?_
              first | refine V_if_eq_z 250 dX6_lay_242 (by decide) (fun c242 => ?_) (fun c242 => ?_) | refine V_if_eq_n 250 dX6_lay_242 (by decide) (by omega) (fun c242 => ?_) (fun c242 => ?_) | refine V_if_eq 250 dX6_lay_242 (by decide) (fun c242 => ?_) (fun c242 => ?_)
              · refine V_iload5 dX6_lay_250 ?_
                refine V_istore5 dX6_lay_252 (by decide) rfl ?_
                first | refine V_iinc7_n 1 dX6_lay_254 (by decide) (by decide) rfl ?_ | refine V_iinc7 (nI 1) dX6_lay_254 (by decide) (by decide) rfl ?_
                refine V_goto 121 dX6_lay_257 (by decide) ?_
                refine V_iload7 dX6_lay_121 ?_
                refine V_iload4 dX6_lay_123 ?_
                first | refine V_icmp_ge_n 260 dX6_lay_125 (by decide) (by omega) (by omega) (fun c125 => ?_) (fun c125 => ?_) | refine V_icmp_ge 260 dX6_lay_125 (by decide) (fun c125 => ?_) (fun c125 => ?_)
                · exact K (wr hc 116 p (nI 1)) 0 p _ _ _ (e1.wr _ _ (by decide)) (Or.inl ⟨rfl, hRn⟩)
                · refine V_iload6 dX6_lay_128 ?_
                  first | refine V_if_eq_z 260 dX6_lay_130 (by decide) (fun c130 => ?_) (fun c130 => ?_) | refine V_if_eq_n 260 dX6_lay_130 (by decide) (by omega) (fun c130 => ?_) (fun c130 => ?_) | refine V_if_eq 260 dX6_lay_130 (by decide) (fun c130 => ?_) (fun c130 => ?_)
                  · exact K (wr hc 116 p (nI 1)) 0 p _ _ _ (e1.wr _ _ (by decide)) (Or.inl ⟨rfl, hRn⟩)
                  · exact absurd rfl c130 --end
              · exact absurd rfl c242 --end
            · refine V_aload0 dX6_lay_212 ?_
              refine gX6_47 dX6_lay_213 ?_
              refine V_iload9 dX6_lay_216 ?_
              refine V_ldc ct_X6_93 dX6_lay_218 ?_
              refine V_icmp_ne 227 dX6_lay_220 (by decide) (fun c220 => ?_) (fun c220 => absurd c220 hqm)
              refine V_iload9 dX6_lay_227 ?_
              refine V_iaload (by decide) aI_116 (by decide) rfl (by first | assumption | omega) dX6_lay_229 ?_
              rw [hm1 q hq]
              by_cases hv : q ∈ p :: vs
              · rw [if_pos hv]
                first | refine V_if_ne_z 237 dX6_lay_230 (by decide) (fun c230 => ?_) (fun c230 => ?_) | refine V_if_ne_n 237 dX6_lay_230 (by decide) (by omega) (fun c230 => ?_) (fun c230 => ?_) | refine V_if_ne 237 dX6_lay_230 (by decide) (fun c230 => ?_) (fun c230 => ?_)
                · have hRn : R = none := hR.symm.trans (if_pos (by first | exact Or.inl c209 | exact Or.inr hv))
                  refine V_iconst (nI 0) dX6_lay_237 (by decide) ?_
                  refine V_istore6 dX6_lay_238 (by decide) rfl ?_
                  refine V_iload6 dX6_lay_240 ?_
                  first | refine V_if_eq_z 250 dX6_lay_242 (by decide) (fun c242 => ?_) (fun c242 => ?_) | refine V_if_eq_n 250 dX6_lay_242 (by decide) (by omega) (fun c242 => ?_) (fun c242 => ?_) | refine V_if_eq 250 dX6_lay_242 (by decide) (fun c242 => ?_) (fun c242 => ?_)
                  · refine V_iload5 dX6_lay_250 ?_
                    refine V_istore5 dX6_lay_252 (by decide) rfl ?_
                    first | refine V_iinc7_n 1 dX6_lay_254 (by decide) (by decide) rfl ?_ | refine V_iinc7 (nI 1) dX6_lay_254 (by decide) (by decide) rfl ?_
                    refine V_goto 121 dX6_lay_257 (by decide) ?_
                    refine V_iload7 dX6_lay_121 ?_
                    refine V_iload4 dX6_lay_123 ?_
                    first | refine V_icmp_ge_n 260 dX6_lay_125 (by decide) (by omega) (by omega) (fun c125 => ?_) (fun c125 => ?_) | refine V_icmp_ge 260 dX6_lay_125 (by decide) (fun c125 => ?_) (fun c125 => ?_)
                    · exact K (wr hc 116 p (nI 1)) 0 p _ _ _ (e1.wr _ _ (by decide)) (Or.inl ⟨rfl, hRn⟩)
                    · refine V_iload6 dX6_lay_128 ?_
                      first | refine V_if_eq_z 260 dX6_lay_130 (by decide) (fun c130 => ?_) (fun c130 => ?_) | refine V_if_eq_n 260 dX6_lay_130 (by decide) (by omega) (fun c130 => ?_) (fun c130 => ?_) | refine V_if_eq 260 dX6_lay_130 (by decide) (fun c130 => ?_) (fun c130 => ?_)
                      · exact K (wr hc 116 p (nI 1)) 0 p _ _ _ (e1.wr _ _ (by decide)) (Or.inl ⟨rfl, hRn⟩)
                      · exact absurd rfl c130 --end
                  · exact absurd rfl c242 --end
                · exact absurd c230 (by decide) --end
              · rw [if_neg hv]
                first | refine V_if_ne_z 237 dX6_lay_230 (by decide) (fun c230 => ?_) (fun c230 => ?_) | refine V_if_ne_n 237 dX6_lay_230 (by decide) (by omega) (fun c230 => ?_) (fun c230 => ?_) | refine V_if_ne 237 dX6_lay_230 (by decide) (fun c230 => ?_) (fun c230 => ?_)
                · exact absurd rfl c230 --end
                · refine V_iconst (nI 1) dX6_lay_233 (by decide) ?_
                  refine V_goto 238 dX6_lay_234 (by decide) ?_
                  refine V_istore6 dX6_lay_238 (by decide) rfl ?_
                  refine V_iload6 dX6_lay_240 ?_
                  first | refine V_if_eq_z 250 dX6_lay_242 (by decide) (fun c242 => ?_) (fun c242 => ?_) | refine V_if_eq_n 250 dX6_lay_242 (by decide) (by omega) (fun c242 => ?_) (fun c242 => ?_) | refine V_if_eq 250 dX6_lay_242 (by decide) (fun c242 => ?_) (fun c242 => ?_)
                  · exact absurd c242 (by decide) --end
                  · refine V_iload9 dX6_lay_245 ?_
                    refine V_goto 252 dX6_lay_247 (by decide) ?_
                    refine V_istore5 dX6_lay_252 (by decide) rfl ?_
                    first | refine V_iinc7_n 1 dX6_lay_254 (by decide) (by decide) rfl ?_ | refine V_iinc7 (nI 1) dX6_lay_254 (by decide) (by decide) rfl ?_
                    refine V_goto 121 dX6_lay_257 (by decide) ?_
                    rw [if_neg (fun z => z.elim c209 hv)] at hR
                    have hz := ih (wr hc 116 p (nI 1)) (p :: vs) q hq (pre ++ [nI d]) (by rw [← hpx, List.append_assoc]; rfl) hR (e1.wr _ _ (by decide)) hm1 (some (.int (nI d))) (some (.int (nI q)))
                    rw [List.length_append] at hz
                    exact hz
set_option maxRecDepth 4000 in
theorem l_X6_lay_3 (G : GE) (h hc : Mem) (N : Ng) (i : Inv N) (l s j : Nat) (hl : l < 12) (hs : s < 8) (W : List Nat) (hW : j + W.length ≤ 60) (w6 : Int32) (o9 : OV) (hx : ∀ k, k < W.length → h 104 (60 * s + j + k) = nI (W.getD k 0)) (Q : Option Value → Mem → Prop) (K : ∀ hc p o8, same [112, 113] h hc → RBn (setW N l W) (wr hc 111 l (nI W.length)) → V idsB G RX6 cX6_lay 10 (some .int) (rmD 3) 381 [some (.ref (ad G 100)), some (.int (nI l)), some (.int (nI s)), some (.int (nI j)), some (.int (nI W.length)), some (.int (nI p)), some (.int w6), some (.int (nI W.length)), o8, o9] [] hc Q) (u v : List Nat) (p : Nat) (hp : p < 100) (he : endW (nSt N l) u = p) (hov : okW p v) (hWW : u ++ v = W) (e1 : same [112, 113] h hc) (rc : RBn (setW N l u) (wr hc 111 l (nI u.length))) (o8 : OV) : V idsB G RX6 cX6_lay 10 (some .int) (rmD 3) 310 [some (.ref (ad G 100)), some (.int (nI l)), some (.int (nI s)), some (.int (nI j)), some (.int (nI W.length)), some (.int (nI p)), some (.int w6), some (.int (nI u.length)), o8, o9] [] hc Q := by
  induction v generalizing hc u p o8 with
  | nil =>
    rw [List.append_nil] at hWW
    subst hWW
    refine V_iload7 dX6_lay_310 ?_
    refine V_iload4 dX6_lay_312 ?_
    first | refine V_icmp_ge_n 381 dX6_lay_314 (by decide) (by omega) (by omega) (fun c314 => ?_) (fun c314 => ?_) | refine V_icmp_ge 381 dX6_lay_314 (by decide) (fun c314 => ?_) (fun c314 => ?_)
    · exact K hc p _ e1 rc
    · exact absurd (Nat.le_refl _) c314 --end
  | cons d v ih =>
    obtain ⟨hd, hn, hov2⟩ := hov
    have hq := nb_lt hp hn
    have hps := phi_sB hp hd hn
    have hlen : u.length + (v.length + 1) = W.length := by rw [← hWW, List.length_append]; rfl
    have hWd : W.getD u.length 0 = d := by rw [← hWW]; exact getD_mid
    refine V_iload7 dX6_lay_310 ?_
    refine V_iload4 dX6_lay_312 ?_
    first | refine V_icmp_ge_n 381 dX6_lay_314 (by decide) (by omega) (by omega) (fun c314 => ?_) (fun c314 => ?_) | refine V_icmp_ge 381 dX6_lay_314 (by decide) (fun c314 => ?_) (fun c314 => ?_)
    · exact absurd c314 (by omega) --end
    · refine V_aload0 dX6_lay_317 ?_
      refine gX6_16 dX6_lay_318 ?_
      refine V_bipush (nI 60) dX6_lay_321 (by decide) ?_
      refine V_iload2 dX6_lay_323 ?_
      first | refine V_imul_n dX6_lay_324 ?_ | refine V_imul dX6_lay_324 ?_
      refine V_iload3 dX6_lay_325 ?_
      first | refine V_iadd_n dX6_lay_326 ?_ | refine V_iadd dX6_lay_326 ?_
      refine V_iload7 dX6_lay_327 ?_
      first | refine V_iadd_n dX6_lay_329 ?_ | refine V_iadd dX6_lay_329 ?_
      refine V_iaload (by decide) aI_104 (by decide) rfl (by omega) dX6_lay_330 ?_
      rw [e1 104 (by decide), hx _ (by omega), hWd]
      refine V_istore8 dX6_lay_331 (by decide) rfl ?_
      refine V_aload0 dX6_lay_333 ?_
      refine gX6_35 dX6_lay_334 ?_
      refine V_bipush (nI 100) dX6_lay_337 (by decide) ?_
      refine V_iload1 dX6_lay_339 ?_
      first | refine V_imul_n dX6_lay_340 ?_ | refine V_imul dX6_lay_340 ?_
      refine V_iload7 dX6_lay_341 ?_
      first | refine V_iadd_n dX6_lay_343 ?_ | refine V_iadd dX6_lay_343 ?_
      refine V_iload8 dX6_lay_344 ?_
      refine V_iastore (by decide) aI_112 (by decide) rfl (by omega) dX6_lay_346 ?_
      refine V_aload0 dX6_lay_347 ?_
      refine gX6_38 dX6_lay_348 ?_
      refine V_sipush (nI 180) dX6_lay_351 (by decide) ?_
      refine V_iload1 dX6_lay_354 ?_
      first | refine V_imul_n dX6_lay_355 ?_ | refine V_imul dX6_lay_355 ?_
      refine V_iload5 dX6_lay_356 ?_
      refine V_iload8 dX6_lay_358 ?_
      refine kX6_109 (m_X6_side _ _ _ _ hp hd (nb_h3 hn) (nb_h0 hn)) (rOK_d (by decide) (by decide)) (Nat.le_of_ble_eq_true rfl) dX6_lay_360 (fun r360 h360 hq360 => ?_)
      obtain ⟨e_, rfl⟩ := hq360
      replace e_ := e_.symm
      subst e_
      first | refine V_iadd_n dX6_lay_363 ?_ | refine V_iadd dX6_lay_363 ?_
      refine V_iconst (nI 1) dX6_lay_364 (by decide) ?_
      refine V_bastore (by decide) aZ_113 (by decide) rfl (by omega) (by first | exact bz_01 | exact nI_01 (Or.inl rfl) | exact nI_01 (Or.inr rfl) | assumption) dX6_lay_365 ?_
      refine V_iload5 dX6_lay_366 ?_
      refine V_iload8 dX6_lay_368 ?_
      refine kX6_105 (m_X6_go _ _ _ _ hp hd) (rOK_d (by decide) (by decide)) (Nat.le_of_ble_eq_true rfl) dX6_lay_370 (fun r370 h370 hq370 => ?_)
      obtain ⟨e_, rfl⟩ := hq370
      replace e_ := e_.symm
      subst e_
      rw [hn, oI_s]
      refine V_istore5 dX6_lay_373 (by decide) rfl ?_
      first | refine V_iinc7_n 1 dX6_lay_375 (by decide) (by decide) rfl ?_ | refine V_iinc7 (nI 1) dX6_lay_375 (by decide) (by decide) rfl ?_
      refine V_goto 310 dX6_lay_378 (by decide) ?_
      have hz := ih (wr (wr hc 112 (100 * l + u.length) (nI d)) 113 (180 * l + sB p d) (nI 1)) (u ++ [d]) (stp p d) hq (by rw [endW_app, he]; rfl) hov2 (by rw [← hWW, List.append_assoc]; rfl) ((e1.wr _ _ (by decide)).wr _ _ (by decide)) (by rw [List.length_append]; exact RBn_push i hl rc hp hd he hn (by omega)) (some (.int (nI d)))
      rw [List.length_append] at hz
      exact hz
