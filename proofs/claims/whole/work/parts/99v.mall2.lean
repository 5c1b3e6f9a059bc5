set_option maxRecDepth 4000 in
theorem l_X6_all_i3 (G : GE) (h : Mem) (N : Ng) (i : Inv N) (r : RBn N h) (c p a : Nat) (hp : p < 100) (ha : a < nNl N) (Q : Option Value → Mem → Prop) (K : ∀ o6 o7 o8, V idsB G RX6 cX6_all 9 (some .int) (rmD 4) 257 [some (.ref (ad G 100)), some (.int (nI 3)), some (.int (nI c)), some (.int (nI p)), some (.int (bz (FE N p a (nNl N) = true))), some (.int (nI a)), o6, o7, o8] [] h Q) (j : Nat) (hj : a < j ∧ j ≤ nNl N) (o7 o8 : OV) : V idsB G RX6 cX6_all 9 (some .int) (rmD 4) 158 [some (.ref (ad G 100)), some (.int (nI 3)), some (.int (nI c)), some (.int (nI p)), some (.int (bz (FE N p a j = true))), some (.int (nI a)), some (.int (nI j)), o7, o8] [] h Q := by
  have hnl := i.nl
  induction hm : nNl N - j using Nat.strongRecOn generalizing j o7 o8 with
  | _ m ih =>
    subst hm
    refine V_iload6 dX6_all_158 ?_
    refine V_aload0 dX6_all_160 ?_
    refine gX6_102 dX6_all_161 ?_
    rw [r.2.1]
    first | refine V_icmp_ge_n 257 dX6_all_164 (by decide) (by omega) (by omega) (fun c164 => ?_) (fun c164 => ?_) | refine V_icmp_ge 257 dX6_all_164 (by decide) (fun c164 => ?_) (fun c164 => ?_)
    · obtain rfl : j = nNl N := by omega
      exact K _ _ _
    · refine V_aload0 dX6_all_167 ?_
      refine V_iload5 dX6_all_168 ?_
      refine V_iload3 dX6_all_170 ?_
      refine kX6_154 (m_X6_at _ _ N i r a p (by omega) hp) (rOK_d (by decide) (by decide)) (Nat.le_of_ble_eq_true rfl) dX6_all_171 (fun r171 h171 hq171 => ?_)
      obtain ⟨e_, rfl⟩ := hq171
      replace e_ := e_.symm
      subst e_
      have ha16 := atM_lt N a p
      refine V_istore7 dX6_all_174 (by decide) rfl ?_
      refine V_aload0 dX6_all_176 ?_
      refine V_iload6 dX6_all_177 ?_
      refine V_iload3 dX6_all_179 ?_
      refine kX6_154 (m_X6_at _ _ N i r j p (by omega) hp) (rOK_d (by decide) (by decide)) (Nat.le_of_ble_eq_true rfl) dX6_all_180 (fun r180 h180 hq180 => ?_)
      obtain ⟨e_, rfl⟩ := hq180
      replace e_ := e_.symm
      subst e_
      have hj16 := atM_lt N j p
      refine V_istore8 dX6_all_183 (by decide) rfl ?_
      refine V_iload4 dX6_all_185 ?_
      first | refine V_if_ne_z 205 dX6_all_187 (by decide) (fun c187 => ?_) (fun c187 => ?_) | refine V_if_ne_n 205 dX6_all_187 (by decide) (by omega) (fun c187 => ?_) (fun c187 => ?_) | refine V_if_ne 205 dX6_all_187 (by decide) (fun c187 => ?_) (fun c187 => ?_)
      · have e0 : nI 1 = bz (FE N p a (j + 1) = true) := bz_r1 ((FE_s hj.1 (by omega)).mpr (by first | exact Or.inl c187 | exact Or.inr ⟨c195, c202⟩))
        refine V_iconst (nI 1) dX6_all_205 (by decide) ?_
        refine V_goto 210 dX6_all_206 (by decide) ?_
        rw [e0]
        refine V_istore4 dX6_all_210 (by decide) rfl ?_
        refine V_iload2 dX6_all_212 ?_
        refine V_iload1 dX6_all_213 ?_
        refine V_iconst (nI 4) dX6_all_214 (by decide) ?_
        first | refine V_icmp_ne_n 248 dX6_all_215 (by decide) (by omega) (by omega) (fun c215 => ?_) (fun c215 => ?_) | refine V_icmp_ne 248 dX6_all_215 (by decide) (fun c215 => ?_) (fun c215 => ?_)
        · refine V_iconst (nI 0) dX6_all_248 (by decide) ?_
          first | refine V_iadd_n dX6_all_249 ?_ | refine V_iadd dX6_all_249 ?_
          refine V_istore2 dX6_all_250 (by decide) rfl ?_
          first | refine V_iinc6_n 1 dX6_all_251 (by decide) (by decide) rfl ?_ | refine V_iinc6 (nI 1) dX6_all_251 (by decide) (by decide) rfl ?_
          refine V_goto 158 dX6_all_254 (by decide) ?_
          rw [Nat.add_zero]
          exact ih _ (by omega) (j + 1) (by omega) _ _ rfl
        · exact absurd c215 (by decide) --end
      · refine V_iload7 dX6_all_190 ?_
        refine V_iload8 dX6_all_192 ?_
        refine V_iand dX6_all_194 ?_
        rw [fa_and]
        have hand : atM N a p &&& atM N j p < 16 := Nat.lt_of_le_of_lt Nat.and_le_left ha16
        first | refine V_if_eq_z 209 dX6_all_195 (by decide) (fun c195 => ?_) (fun c195 => ?_) | refine V_if_eq_n 209 dX6_all_195 (by decide) (by omega) (fun c195 => ?_) (fun c195 => ?_) | refine V_if_eq 209 dX6_all_195 (by decide) (fun c195 => ?_) (fun c195 => ?_)
        · have e0 : nI 0 = bz (FE N p a (j + 1) = true) := bz_r0 (fun z => ((FE_s hj.1 (by omega)).mp z).elim c187 (fun y => by first | exact y.1 c195 | exact y.2 c202))
          refine V_iconst (nI 0) dX6_all_209 (by decide) ?_
          rw [e0]
          refine V_istore4 dX6_all_210 (by decide) rfl ?_
          refine V_iload2 dX6_all_212 ?_
          refine V_iload1 dX6_all_213 ?_
          refine V_iconst (nI 4) dX6_all_214 (by decide) ?_
          first | refine V_icmp_ne_n 248 dX6_all_215 (by decide) (by omega) (by omega) (fun c215 => ?_) (fun c215 => ?_) | refine V_icmp_ne 248 dX6_all_215 (by decide) (fun c215 => ?_) (fun c215 => ?_)
          · refine V_iconst (nI 0) dX6_all_248 (by decide) ?_
            first | refine V_iadd_n dX6_all_249 ?_ | refine V_iadd dX6_all_249 ?_
            refine V_istore2 dX6_all_250 (by decide) rfl ?_
            first | refine V_iinc6_n 1 dX6_all_251 (by decide) (by decide) rfl ?_ | refine V_iinc6 (nI 1) dX6_all_251 (by decide) (by decide) rfl ?_
            refine V_goto 158 dX6_all_254 (by decide) ?_
            rw [Nat.add_zero]
            exact ih _ (by omega) (j + 1) (by omega) _ _ rfl
          · exact absurd c215 (by decide) --end
        · refine V_iload7 dX6_all_198 ?_
          refine V_iload8 dX6_all_200 ?_
          first | refine V_icmp_eq_n 209 dX6_all_202 (by decide) (by omega) (by omega) (fun c202 => ?_) (fun c202 => ?_) | refine V_icmp_eq 209 dX6_all_202 (by decide) (fun c202 => ?_) (fun c202 => ?_)
          · have e0 : nI 0 = bz (FE N p a (j + 1) = true) := bz_r0 (fun z => ((FE_s hj.1 (by omega)).mp z).elim c187 (fun y => by first | exact y.1 c195 | exact y.2 c202))
            refine V_iconst (nI 0) dX6_all_209 (by decide) ?_
            rw [e0]
            refine V_istore4 dX6_all_210 (by decide) rfl ?_
            refine V_iload2 dX6_all_212 ?_
            refine V_iload1 dX6_all_213 ?_
            refine V_iconst (nI 4) dX6_all_214 (by decide) ?_
            first | refine V_icmp_ne_n 248 dX6_all_215 (by decide) (by omega) (by omega) (fun c215 => ?_) (fun c215 => ?_) | refine V_icmp_ne 248 dX6_all_215 (by decide) (fun c215 => ?_) (fun c215 => ?_)
            · refine V_iconst (nI 0) dX6_all_248 (by decide) ?_
              first | refine V_iadd_n dX6_all_249 ?_ | refine V_iadd dX6_all_249 ?_
              refine V_istore2 dX6_all_250 (by decide) rfl ?_
              first | refine V_iinc6_n 1 dX6_all_251 (by decide) (by decide) rfl ?_ | refine V_iinc6 (nI 1) dX6_all_251 (by decide) (by decide) rfl ?_
              refine V_goto 158 dX6_all_254 (by decide) ?_
              rw [Nat.add_zero]
              exact ih _ (by omega) (j + 1) (by omega) _ _ rfl
            · exact absurd c215 (by decide) --end
          · have e0 : nI 1 = bz (FE N p a (j + 1) = true) := bz_r1 ((FE_s hj.1 (by omega)).mpr (by first | exact Or.inl c187 | exact Or.inr ⟨c195, c202⟩))
            refine V_iconst (nI 1) dX6_all_205 (by decide) ?_
            refine V_goto 210 dX6_all_206 (by decide) ?_
            rw [e0]
            refine V_istore4 dX6_all_210 (by decide) rfl ?_
            refine V_iload2 dX6_all_212 ?_
            refine V_iload1 dX6_all_213 ?_
            refine V_iconst (nI 4) dX6_all_214 (by decide) ?_
            first | refine V_icmp_ne_n 248 dX6_all_215 (by decide) (by omega) (by omega) (fun c215 => ?_) (fun c215 => ?_) | refine V_icmp_ne 248 dX6_all_215 (by decide) (fun c215 => ?_) (fun c215 => ?_)
            · refine V_iconst (nI 0) dX6_all_248 (by decide) ?_
              first | refine V_iadd_n dX6_all_249 ?_ | refine V_iadd dX6_all_249 ?_
              refine V_istore2 dX6_all_250 (by decide) rfl ?_
              first | refine V_iinc6_n 1 dX6_all_251 (by decide) (by decide) rfl ?_ | refine V_iinc6 (nI 1) dX6_all_251 (by decide) (by decide) rfl ?_
              refine V_goto 158 dX6_all_254 (by decide) ?_
              rw [Nat.add_zero]
              exact ih _ (by omega) (j + 1) (by omega) _ _ rfl
            · exact absurd c215 (by decide) --end
set_option maxRecDepth 4000 in
theorem l_X6_all_o3 (G : GE) (h : Mem) (N : Ng) (i : Inv N) (r : RBn N h) (c p : Nat) (hp : p < 100) (Q : Option Value → Mem → Prop) (K : ∀ o5 o6 o7 o8, V idsB G RX6 cX6_all 9 (some .int) (rmD 4) 263 [some (.ref (ad G 100)), some (.int (nI 3)), some (.int (nI c)), some (.int (nI p)), some (.int (bz (FE N p (nNl N) 0 = true))), o5, o6, o7, o8] [] h Q) (a : Nat) (ha : a ≤ nNl N) (o6 o7 o8 : OV) : V idsB G RX6 cX6_all 9 (some .int) (rmD 4) 143 [some (.ref (ad G 100)), some (.int (nI 3)), some (.int (nI c)), some (.int (nI p)), some (.int (bz (FE N p a 0 = true))), some (.int (nI a)), o6, o7, o8] [] h Q := by
  have hnl := i.nl
  induction hm : nNl N - a using Nat.strongRecOn generalizing a o6 o7 o8 with
  | _ m ih =>
    subst hm
    refine V_iload5 dX6_all_143 ?_
    refine V_aload0 dX6_all_145 ?_
    refine gX6_102 dX6_all_146 ?_
    rw [r.2.1]
    first | refine V_icmp_ge_n 263 dX6_all_149 (by decide) (by omega) (by omega) (fun c149 => ?_) (fun c149 => ?_) | refine V_icmp_ge 263 dX6_all_149 (by decide) (fun c149 => ?_) (fun c149 => ?_)
    · obtain rfl : a = nNl N := by omega
      exact K _ _ _ _
    · refine V_iload5 dX6_all_152 ?_
      refine V_iconst (nI 1) dX6_all_154 (by decide) ?_
      first | refine V_iadd_n dX6_all_155 ?_ | refine V_iadd dX6_all_155 ?_
      refine V_istore6 dX6_all_156 (by decide) rfl ?_
      have hz := fun KK => l_X6_all_i3 G h N i r c p a hp (by omega) Q KK (a + 1) (by omega) o7 o8
      rw [FE_0] at hz
      refine hz (fun o6 o7 o8 => ?_)
      first | refine V_iinc5_n 1 dX6_all_257 (by decide) (by decide) rfl ?_ | refine V_iinc5 (nI 1) dX6_all_257 (by decide) (by decide) rfl ?_
      refine V_goto 143 dX6_all_260 (by decide) ?_
      rw [FE_n]
      exact ih _ (by omega) (a + 1) (by omega) _ _ _ rfl
set_option maxRecDepth 4000 in
theorem l_X6_all_3 (G : GE) (h : Mem) (N : Ng) (i : Inv N) (r : RBn N h) (p : Nat) (hp : p ≤ 100) (o4 o5 o6 o7 o8 : OV) : V idsB G RX6 cX6_all 9 (some .int) (rmD 4) 121 [some (.ref (ad G 100)), some (.int (nI 3)), some (.int (nI (fb_ct (forkB (nMk N)) p))), some (.int (nI p)), o4, o5, o6, o7, o8] [] h (Qi (fun v h' => h' = h ∧ v = nI (fb_ct (forkB (nMk N)) 100))) := by
  induction hm : 100 - p using Nat.strongRecOn generalizing p o4 o5 o6 o7 o8 with
  | _ m ih =>
    subst hm
    refine V_iload3 dX6_all_121 ?_
    refine V_bipush (nI 100) dX6_all_122 (by decide) ?_
    first | refine V_icmp_ge_n 287 dX6_all_124 (by decide) (by omega) (by omega) (fun c124 => ?_) (fun c124 => ?_) | refine V_icmp_ge 287 dX6_all_124 (by decide) (fun c124 => ?_) (fun c124 => ?_)
    · refine V_iload2 dX6_all_287 ?_
      refine V_ireti dX6_all_288 ?_
      obtain rfl : p = 100 := by omega
      exact ⟨rfl, rfl⟩
    · refine V_iload1 dX6_all_127 ?_
      refine V_iconst (nI 3) dX6_all_128 (by decide) ?_
      first | refine V_icmp_eq_n 137 dX6_all_129 (by decide) (by omega) (by omega) (fun c129 => ?_) (fun c129 => ?_) | refine V_icmp_eq 137 dX6_all_129 (by decide) (fun c129 => ?_) (fun c129 => ?_)
      · refine V_iconst (nI 0) dX6_all_137 (by decide) ?_
        refine V_istore4 dX6_all_138 (by decide) rfl ?_
        refine V_iconst (nI 0) dX6_all_140 (by decide) ?_
        refine V_istore5 dX6_all_141 (by decide) rfl ?_
        have e0 : nI 0 = bz (FE N p 0 0 = true) := bz_r0 FE_st
        have hz := fun KK => l_X6_all_o3 G h N i r (fb_ct (forkB (nMk N)) p) p (by omega) (Qi (fun v h' => h' = h ∧ v = nI (fb_ct (forkB (nMk N)) 100))) KK 0 (Nat.zero_le _) o6 o7 o8
        rw [← e0] at hz
        refine hz (fun o5 o6 o7 o8 => ?_)
        refine V_iload2 dX6_all_263 ?_
        refine V_iload1 dX6_all_264 ?_
        refine V_iconst (nI 3) dX6_all_265 (by decide) ?_
        first | refine V_icmp_ne_n 278 dX6_all_266 (by decide) (by omega) (by omega) (fun c266 => ?_) (fun c266 => ?_) | refine V_icmp_ne 278 dX6_all_266 (by decide) (fun c266 => ?_) (fun c266 => ?_)
        · exact absurd rfl c266 --end
        · refine V_iload4 dX6_all_269 ?_
          first | refine V_if_eq_z 278 dX6_all_271 (by decide) (fun c271 => ?_) (fun c271 => ?_) | refine V_if_eq_n 278 dX6_all_271 (by decide) (by omega) (fun c271 => ?_) (fun c271 => ?_) | refine V_if_eq 278 dX6_all_271 (by decide) (fun c271 => ?_) (fun c271 => ?_)
          · refine V_iconst (nI 0) dX6_all_278 (by decide) ?_
            first | refine V_iadd_n dX6_all_279 ?_ | refine V_iadd dX6_all_279 ?_
            refine V_istore2 dX6_all_280 (by decide) rfl ?_
            first | refine V_iinc3_n 1 dX6_all_281 (by decide) (by decide) rfl ?_ | refine V_iinc3 (nI 1) dX6_all_281 (by decide) (by decide) rfl ?_
            refine V_goto 121 dX6_all_284 (by decide) ?_
            first
            | rw [ct_t (p := forkB (nMk N)) (n := p) ((FE_f i).mp c271)]
            | rw [Nat.add_zero, ct_f (p := forkB (nMk N)) (n := p) (Bool.eq_false_iff.mpr (fun z => c271 ((FE_f i).mpr z)))]
            exact ih _ (by omega) (p + 1) (by omega) _ _ _ _ _ rfl
          · refine V_iconst (nI 1) dX6_all_274 (by decide) ?_
            refine V_goto 279 dX6_all_275 (by decide) ?_
            first | refine V_iadd_n dX6_all_279 ?_ | refine V_iadd dX6_all_279 ?_
            refine V_istore2 dX6_all_280 (by decide) rfl ?_
            first | refine V_iinc3_n 1 dX6_all_281 (by decide) (by decide) rfl ?_ | refine V_iinc3 (nI 1) dX6_all_281 (by decide) (by decide) rfl ?_
            refine V_goto 121 dX6_all_284 (by decide) ?_
            first
            | rw [ct_t (p := forkB (nMk N)) (n := p) ((FE_f i).mp c271)]
            | rw [Nat.add_zero, ct_f (p := forkB (nMk N)) (n := p) (Bool.eq_false_iff.mpr (fun z => c271 ((FE_f i).mpr z)))]
            exact ih _ (by omega) (p + 1) (by omega) _ _ _ _ _ rfl
      · exact absurd rfl c129 --end
set_option maxRecDepth 4000 in
theorem l_X6_all_i4 (G : GE) (h : Mem) (N : Ng) (i : Inv N) (r : RBn N h) (p a T : Nat) (hp : p < 100) (ha : a < nNl N) (Q : Option Value → Mem → Prop) (K : ∀ v4 o6 o7 o8, V idsB G RX6 cX6_all 9 (some .int) (rmD 4) 257 [some (.ref (ad G 100)), some (.int (nI 4)), some (.int (nI T)), some (.int (nI p)), some (.int v4), some (.int (nI a)), o6, o7, o8] [] h Q) (j c : Nat) (hj : a < j ∧ j ≤ nNl N) (hT : c + (e5 N p a * rst (a10 N p) (nNl N) j + e10 N p a * rst (a5 N p) (nNl N) j) = T) (v4 : Int32) (o7 o8 : OV) : V idsB G RX6 cX6_all 9 (some .int) (rmD 4) 158 [some (.ref (ad G 100)), some (.int (nI 4)), some (.int (nI c)), some (.int (nI p)), some (.int v4), some (.int (nI a)), some (.int (nI j)), o7, o8] [] h Q := by
  have hnl := i.nl
  induction hm : nNl N - j using Nat.strongRecOn generalizing j c v4 o7 o8 with
  | _ m ih =>
    subst hm
    refine V_iload6 dX6_all_158 ?_
    refine V_aload0 dX6_all_160 ?_
    refine gX6_102 dX6_all_161 ?_
    rw [r.2.1]
    first | refine V_icmp_ge_n 257 dX6_all_164 (by decide) (by omega) (by omega) (fun c164 => ?_) (fun c164 => ?_) | refine V_icmp_ge 257 dX6_all_164 (by decide) (fun c164 => ?_) (fun c164 => ?_)
    · obtain rfl : j = nNl N := by omega
      rw [rst_n, rst_n, Nat.mul_zero, Nat.mul_zero] at hT
      obtain rfl : c = T := hT
      exact K _ _ _ _
    · refine V_aload0 dX6_all_167 ?_
      refine V_iload5 dX6_all_168 ?_
      refine V_iload3 dX6_all_170 ?_
      refine kX6_154 (m_X6_at _ _ N i r a p (by omega) hp) (rOK_d (by decide) (by decide)) (Nat.le_of_ble_eq_true rfl) dX6_all_171 (fun r171 h171 hq171 => ?_)
      obtain ⟨e_, rfl⟩ := hq171
      replace e_ := e_.symm
      subst e_
      have ha16 := atM_lt N a p
      refine V_istore7 dX6_all_174 (by decide) rfl ?_
      refine V_aload0 dX6_all_176 ?_
      refine V_iload6 dX6_all_177 ?_
      refine V_iload3 dX6_all_179 ?_
      refine kX6_154 (m_X6_at _ _ N i r j p (by omega) hp) (rOK_d (by decide) (by decide)) (Nat.le_of_ble_eq_true rfl) dX6_all_180 (fun r180 h180 hq180 => ?_)
      obtain ⟨e_, rfl⟩ := hq180
      replace e_ := e_.symm
      subst e_
      have hj16 := atM_lt N j p
      refine V_istore8 dX6_all_183 (by decide) rfl ?_
      refine V_iload4 dX6_all_185 ?_
      first | refine V_if_ne_z 205 dX6_all_187 (by decide) (fun c187 => ?_) (fun c187 => ?_) | refine V_if_ne_n 205 dX6_all_187 (by decide) (by omega) (fun c187 => ?_) (fun c187 => ?_) | refine V_if_ne 205 dX6_all_187 (by decide) (fun c187 => ?_) (fun c187 => ?_)
      · refine V_iconst (nI 1) dX6_all_205 (by decide) ?_
        refine V_goto 210 dX6_all_206 (by decide) ?_
        refine V_istore4 dX6_all_210 (by decide) rfl ?_
        refine V_iload2 dX6_all_212 ?_
        refine V_iload1 dX6_all_213 ?_
        refine V_iconst (nI 4) dX6_all_214 (by decide) ?_
        first | refine V_icmp_ne_n 248 dX6_all_215 (by decide) (by omega) (by omega) (fun c215 => ?_) (fun c215 => ?_) | refine V_icmp_ne 248 dX6_all_215 (by decide) (fun c215 => ?_) (fun c215 => ?_)
        · exact absurd rfl c215 --end
        · refine V_iload7 dX6_all_218 ?_
          refine V_iconst (nI 5) dX6_all_220 (by decide) ?_
          first | refine V_icmp_ne_n 231 dX6_all_221 (by decide) (by omega) (by omega) (fun c221 => ?_) (fun c221 => ?_) | refine V_icmp_ne 231 dX6_all_221 (by decide) (fun c221 => ?_) (fun c221 => ?_)
          · refine V_iload7 dX6_all_231 ?_
            refine V_bipush (nI 10) dX6_all_233 (by decide) ?_
            first | refine V_icmp_ne_n 248 dX6_all_235 (by decide) (by omega) (by omega) (fun c235 => ?_) (fun c235 => ?_) | refine V_icmp_ne 248 dX6_all_235 (by decide) (fun c235 => ?_) (fun c235 => ?_)
            · refine V_iconst (nI 0) dX6_all_248 (by decide) ?_
              first | refine V_iadd_n dX6_all_249 ?_ | refine V_iadd dX6_all_249 ?_
              refine V_istore2 dX6_all_250 (by decide) rfl ?_
              first | refine V_iinc6_n 1 dX6_all_251 (by decide) (by decide) rfl ?_ | refine V_iinc6 (nI 1) dX6_all_251 (by decide) (by decide) rfl ?_
              refine V_goto 158 dX6_all_254 (by decide) ?_
              first
              | exact ih _ (by omega) (j + 1) (c + 1) (by omega) (xstep (by omega) 1 (Or.inl ⟨rfl, by omega⟩) hT) _ _ _ rfl
              | exact ih _ (by omega) (j + 1) (c + 0) (by omega) (xstep (by omega) 0 (Or.inr ⟨rfl, by omega⟩) hT) _ _ _ rfl
            · refine V_iload8 dX6_all_238 ?_
              refine V_iconst (nI 5) dX6_all_240 (by decide) ?_
              first | refine V_icmp_ne_n 248 dX6_all_241 (by decide) (by omega) (by omega) (fun c241 => ?_) (fun c241 => ?_) | refine V_icmp_ne 248 dX6_all_241 (by decide) (fun c241 => ?_) (fun c241 => ?_)
              · refine V_iconst (nI 0) dX6_all_248 (by decide) ?_
                first | refine V_iadd_n dX6_all_249 ?_ | refine V_iadd dX6_all_249 ?_
                refine V_istore2 dX6_all_250 (by decide) rfl ?_
                first | refine V_iinc6_n 1 dX6_all_251 (by decide) (by decide) rfl ?_ | refine V_iinc6 (nI 1) dX6_all_251 (by decide) (by decide) rfl ?_
                refine V_goto 158 dX6_all_254 (by decide) ?_
                first
                | exact ih _ (by omega) (j + 1) (c + 1) (by omega) (xstep (by omega) 1 (Or.inl ⟨rfl, by omega⟩) hT) _ _ _ rfl
                | exact ih _ (by omega) (j + 1) (c + 0) (by omega) (xstep (by omega) 0 (Or.inr ⟨rfl, by omega⟩) hT) _ _ _ rfl
              · refine V_iconst (nI 1) dX6_all_244 (by decide) ?_
                refine V_goto 249 dX6_all_245 (by decide) ?_
                first | refine V_iadd_n dX6_all_249 ?_ | refine V_iadd dX6_all_249 ?_
                refine V_istore2 dX6_all_250 (by decide) rfl ?_
                first | refine V_iinc6_n 1 dX6_all_251 (by decide) (by decide) rfl ?_ | refine V_iinc6 (nI 1) dX6_all_251 (by decide) (by decide) rfl ?_
                refine V_goto 158 dX6_all_254 (by decide) ?_
                first
                | exact ih _ (by omega) (j + 1) (c + 1) (by omega) (xstep (by omega) 1 (Or.inl ⟨rfl, by omega⟩) hT) _ _ _ rfl
                | exact ih _ (by omega) (j + 1) (c + 0) (by omega) (xstep (by omega) 0 (Or.inr ⟨rfl, by omega⟩) hT) _ _ _ rfl
          · refine V_iload8 dX6_all_224 ?_
            refine V_bipush (nI 10) dX6_all_226 (by decide) ?_
            first | refine V_icmp_eq_n 244 dX6_all_228 (by decide) (by omega) (by omega) (fun c228 => ?_) (fun c228 => ?_) | refine V_icmp_eq 244 dX6_all_228 (by decide) (fun c228 => ?_) (fun c228 => ?_)
            · refine V_iconst (nI 1) dX6_all_244 (by decide) ?_
              refine V_goto 249 dX6_all_245 (by decide) ?_
              first | refine V_iadd_n dX6_all_249 ?_ | refine V_iadd dX6_all_249 ?_
              refine V_istore2 dX6_all_250 (by decide) rfl ?_
              first | refine V_iinc6_n 1 dX6_all_251 (by decide) (by decide) rfl ?_ | refine V_iinc6 (nI 1) dX6_all_251 (by decide) (by decide) rfl ?_
              refine V_goto 158 dX6_all_254 (by decide) ?_
              first
              | exact ih _ (by omega) (j + 1) (c + 1) (by omega) (xstep (by omega) 1 (Or.inl ⟨rfl, by omega⟩) hT) _ _ _ rfl
              | exact ih _ (by omega) (j + 1) (c + 0) (by omega) (xstep (by omega) 0 (Or.inr ⟨rfl, by omega⟩) hT) _ _ _ rfl
            · refine V_iload7 dX6_all_231 ?_
              refine V_bipush (nI 10) dX6_all_233 (by decide) ?_
              first | refine V_icmp_ne_n 248 dX6_all_235 (by decide) (by omega) (by omega) (fun c235 => ?_) (fun c235 => ?_) | refine V_icmp_ne 248 dX6_all_235 (by decide) (fun c235 => ?_) (fun c235 => ?_)
              · refine V_iconst (nI 0) dX6_all_248 (by decide) ?_
                first | refine V_iadd_n dX6_all_249 ?_ | refine V_iadd dX6_all_249 ?_
                refine V_istore2 dX6_all_250 (by decide) rfl ?_
                first | refine V_iinc6_n 1 dX6_all_251 (by decide) (by decide) rfl ?_ | refine V_iinc6 (nI 1) dX6_all_251 (by decide) (by decide) rfl ?_
                refine V_goto 158 dX6_all_254 (by decide) ?_
                first
                | exact ih _ (by omega) (j + 1) (c + 1) (by omega) (xstep (by omega) 1 (Or.inl ⟨rfl, by omega⟩) hT) _ _ _ rfl
                | exact ih _ (by omega) (j + 1) (c + 0) (by omega) (xstep (by omega) 0 (Or.inr ⟨rfl, by omega⟩) hT) _ _ _ rfl
              · refine V_iload8 dX6_all_238 ?_
                refine V_iconst (nI 5) dX6_all_240 (by decide) ?_
                first | refine V_icmp_ne_n 248 dX6_all_241 (by decide) (by omega) (by omega) (fun c241 => ?_) (fun c241 => ?_) | refine V_icmp_ne 248 dX6_all_241 (by decide) (fun c241 => ?_) (fun c241 => ?_)
                · refine V_iconst (nI 0) dX6_all_248 (by decide) ?_
                  first | refine V_iadd_n dX6_all_249 ?_ | refine V_iadd dX6_all_249 ?_
                  refine V_istore2 dX6_all_250 (by decide) rfl ?_
                  first | refine V_iinc6_n 1 dX6_all_251 (by decide) (by decide) rfl ?_ | refine V_iinc6 (nI 1) dX6_all_251 (by decide) (by decide) rfl ?_
                  refine V_goto 158 dX6_all_254 (by decide) ?_
                  first
                  | exact ih _ (by omega) (j + 1) (c + 1) (by omega) (xstep (by omega) 1 (Or.inl ⟨rfl, by omega⟩) hT) _ _ _ rfl
                  | exact ih _ (by omega) (j + 1) (c + 0) (by omega) (xstep (by omega) 0 (Or.inr ⟨rfl, by omega⟩) hT) _ _ _ rfl
                · refine V_iconst (nI 1) dX6_all_244 (by decide) ?_
                  refine V_goto 249 dX6_all_245 (by decide) ?_
                  first | refine V_iadd_n dX6_all_249 ?_ | refine V_iadd dX6_all_249 ?_
                  refine V_istore2 dX6_all_250 (by decide) rfl ?_
                  first | refine V_iinc6_n 1 dX6_all_251 (by decide) (by decide) rfl ?_ | refine V_iinc6 (nI 1) dX6_all_251 (by decide) (by decide) rfl ?_
                  refine V_goto 158 dX6_all_254 (by decide) ?_
                  first
                  | exact ih _ (by omega) (j + 1) (c + 1) (by omega) (xstep (by omega) 1 (Or.inl ⟨rfl, by omega⟩) hT) _ _ _ rfl
                  | exact ih _ (by omega) (j + 1) (c + 0) (by omega) (xstep (by omega) 0 (Or.inr ⟨rfl, by omega⟩) hT) _ _ _ rfl
      · refine V_iload7 dX6_all_190 ?_
        refine V_iload8 dX6_all_192 ?_
        refine V_iand dX6_all_194 ?_
        rw [fa_and]
        have hand : atM N a p &&& atM N j p < 16 := Nat.lt_of_le_of_lt Nat.and_le_left ha16
        first | refine V_if_eq_z 209 dX6_all_195 (by decide) (fun c195 => ?_) (fun c195 => ?_) | refine V_if_eq_n 209 dX6_all_195 (by decide) (by omega) (fun c195 => ?_) (fun c195 => ?_) | refine V_if_eq 209 dX6_all_195 (by decide) (fun c195 => ?_) (fun c195 => ?_)
        · refine V_iconst (nI 0) dX6_all_209 (by decide) ?_
          refine V_istore4 dX6_all_210 (by decide) rfl ?_
          refine V_iload2 dX6_all_212 ?_
          refine V_iload1 dX6_all_213 ?_
          refine V_iconst (nI 4) dX6_all_214 (by decide) ?_
          first | refine V_icmp_ne_n 248 dX6_all_215 (by decide) (by omega) (by omega) (fun c215 => ?_) (fun c215 => ?_) | refine V_icmp_ne 248 dX6_all_215 (by decide) (fun c215 => ?_) (fun c215 => ?_)
          · exact absurd rfl c215 --end
          · refine V_iload7 dX6_all_218 ?_
            refine V_iconst (nI 5) dX6_all_220 (by decide) ?_
            first | refine V_icmp_ne_n 231 dX6_all_221 (by decide) (by omega) (by omega) (fun c221 => ?_) (fun c221 => ?_) | refine V_icmp_ne 231 dX6_all_221 (by decide) (fun c221 => ?_) (fun c221 => ?_)
            · refine V_iload7 dX6_all_231 ?_
              refine V_bipush (nI 10) dX6_all_233 (by decide) ?_
              first | refine V_icmp_ne_n 248 dX6_all_235 (by decide) (by omega) (by omega) (fun c235 => ?_) (fun c235 => ?_) | refine V_icmp_ne 248 dX6_all_235 (by decide) (fun c235 => ?_) (fun c235 => ?_)
              · refine V_iconst (nI 0) dX6_all_248 (by decide) ?_
                first | refine V_iadd_n dX6_all_249 ?_ | refine V_iadd dX6_all_249 ?_
                refine V_istore2 dX6_all_250 (by decide) rfl ?_
                first | refine V_iinc6_n 1 dX6_all_251 (by decide) (by decide) rfl ?_ | refine V_iinc6 (nI 1) dX6_all_251 (by decide) (by decide) rfl ?_
                refine V_goto 158 dX6_all_254 (by decide) ?_
                first
                | exact ih _ (by omega) (j + 1) (c + 1) (by omega) (xstep (by omega) 1 (Or.inl ⟨rfl, by omega⟩) hT) _ _ _ rfl
                | exact ih _ (by omega) (j + 1) (c + 0) (by omega) (xstep (by omega) 0 (Or.inr ⟨rfl, by omega⟩) hT) _ _ _ rfl
              · refine V_iload8 dX6_all_238 ?_
                refine V_iconst (nI 5) dX6_all_240 (by decide) ?_
                first | refine V_icmp_ne_n 248 dX6_all_241 (by decide) (by omega) (by omega) (fun c241 => ?_) (fun c241 => ?_) | refine V_icmp_ne 248 dX6_all_241 (by decide) (fun c241 => ?_) (fun c241 => ?_)
                · refine V_iconst (nI 0) dX6_all_248 (by decide) ?_
                  first | refine V_iadd_n dX6_all_249 ?_ | refine V_iadd dX6_all_249 ?_
                  refine V_istore2 dX6_all_250 (by decide) rfl ?_
                  first | refine V_iinc6_n 1 dX6_all_251 (by decide) (by decide) rfl ?_ | refine V_iinc6 (nI 1) dX6_all_251 (by decide) (by decide) rfl ?_
                  refine V_goto 158 dX6_all_254 (by decide) ?_
                  first
                  | exact ih _ (by omega) (j + 1) (c + 1) (by omega) (xstep (by omega) 1 (Or.inl ⟨rfl, by omega⟩) hT) _ _ _ rfl
                  | exact ih _ (by omega) (j + 1) (c + 0) (by omega) (xstep (by omega) 0 (Or.inr ⟨rfl, by omega⟩) hT) _ _ _ rfl
                · refine V_iconst (nI 1) dX6_all_244 (by decide) ?_
                  refine V_goto 249 dX6_all_245 (by decide) ?_
                  first | refine V_iadd_n dX6_all_249 ?_ | refine V_iadd dX6_all_249 ?_
                  refine V_istore2 dX6_all_250 (by decide) rfl ?_
                  first | refine V_iinc6_n 1 dX6_all_251 (by decide) (by decide) rfl ?_ | refine V_iinc6 (nI 1) dX6_all_251 (by decide) (by decide) rfl ?_
                  refine V_goto 158 dX6_all_254 (by decide) ?_
                  first
                  | exact ih _ (by omega) (j + 1) (c + 1) (by omega) (xstep (by omega) 1 (Or.inl ⟨rfl, by omega⟩) hT) _ _ _ rfl
                  | exact ih _ (by omega) (j + 1) (c + 0) (by omega) (xstep (by omega) 0 (Or.inr ⟨rfl, by omega⟩) hT) _ _ _ rfl
            · refine V_iload8 dX6_all_224 ?_
              refine V_bipush (nI 10) dX6_all_226 (by decide) ?_
              first | refine V_icmp_eq_n 244 dX6_all_228 (by decide) (by omega) (by omega) (fun c228 => ?_) (fun c228 => ?_) | refine V_icmp_eq 244 dX6_all_228 (by decide) (fun c228 => ?_) (fun c228 => ?_)
              · refine V_iconst (nI 1) dX6_all_244 (by decide) ?_
                refine V_goto 249 dX6_all_245 (by decide) ?_
                first | refine V_iadd_n dX6_all_249 ?_ | refine V_iadd dX6_all_249 ?_
                refine V_istore2 dX6_all_250 (by decide) rfl ?_
                first | refine V_iinc6_n 1 dX6_all_251 (by decide) (by decide) rfl ?_ | refine V_iinc6 (nI 1) dX6_all_251 (by decide) (by decide) rfl ?_
                refine V_goto 158 dX6_all_254 (by decide) ?_
                first
                | exact ih _ (by omega) (j + 1) (c + 1) (by omega) (xstep (by omega) 1 (Or.inl ⟨rfl, by omega⟩) hT) _ _ _ rfl
                | exact ih _ (by omega) (j + 1) (c + 0) (by omega) (xstep (by omega) 0 (Or.inr ⟨rfl, by omega⟩) hT) _ _ _ rfl
              · refine V_iload7 dX6_all_231 ?_
                refine V_bipush (nI 10) dX6_all_233 (by decide) ?_
                first | refine V_icmp_ne_n 248 dX6_all_235 (by decide) (by omega) (by omega) (fun c235 => ?_) (fun c235 => ?_) | refine V_icmp_ne 248 dX6_all_235 (by decide) (fun c235 => ?_) (fun c235 => ?_)
                · refine V_iconst (nI 0) dX6_all_248 (by decide) ?_
                  first | refine V_iadd_n dX6_all_249 ?_ | refine V_iadd dX6_all_249 ?_
                  refine V_istore2 dX6_all_250 (by decide) rfl ?_
                  first | refine V_iinc6_n 1 dX6_all_251 (by decide) (by decide) rfl ?_ | refine V_iinc6 (nI 1) dX6_all_251 (by decide) (by decide) rfl ?_
                  refine V_goto 158 dX6_all_254 (by decide) ?_
                  first
                  | exact ih _ (by omega) (j + 1) (c + 1) (by omega) (xstep (by omega) 1 (Or.inl ⟨rfl, by omega⟩) hT) _ _ _ rfl
                  | exact ih _ (by omega) (j + 1) (c + 0) (by omega) (xstep (by omega) 0 (Or.inr ⟨rfl, by omega⟩) hT) _ _ _ rfl
                · refine V_iload8 dX6_all_238 ?_
                  refine V_iconst (nI 5) dX6_all_240 (by decide) ?_
                  first | refine V_icmp_ne_n 248 dX6_all_241 (by decide) (by omega) (by omega) (fun c241 => ?_) (fun c241 => ?_) | refine V_icmp_ne 248 dX6_all_241 (by decide) (fun c241 => ?_) (fun c241 => ?_)
                  · refine V_iconst (nI 0) dX6_all_248 (by decide) ?_
                    first | refine V_iadd_n dX6_all_249 ?_ | refine V_iadd dX6_all_249 ?_
                    refine V_istore2 dX6_all_250 (by decide) rfl ?_
                    first | refine V_iinc6_n 1 dX6_all_251 (by decide) (by decide) rfl ?_ | refine V_iinc6 (nI 1) dX6_all_251 (by decide) (by decide) rfl ?_
                    refine V_goto 158 dX6_all_254 (by decide) ?_
                    first
                    | exact ih _ (by omega) (j + 1) (c + 1) (by omega) (xstep (by omega) 1 (Or.inl ⟨rfl, by omega⟩) hT) _ _ _ rfl
                    | exact ih _ (by omega) (j + 1) (c + 0) (by omega) (xstep (by omega) 0 (Or.inr ⟨rfl, by omega⟩) hT) _ _ _ rfl
                  · refine V_iconst (nI 1) dX6_all_244 (by decide) ?_
                    refine V_goto 249 dX6_all_245 (by decide) ?_
                    first | refine V_iadd_n dX6_all_249 ?_ | refine V_iadd dX6_all_249 ?_
                    refine V_istore2 dX6_all_250 (by decide) rfl ?_
                    first | refine V_iinc6_n 1 dX6_all_251 (by decide) (by decide) rfl ?_ | refine V_iinc6 (nI 1) dX6_all_251 (by decide) (by decide) rfl ?_
                    refine V_goto 158 dX6_all_254 (by decide) ?_
                    first
                    | exact ih _ (by omega) (j + 1) (c + 1) (by omega) (xstep (by omega) 1 (Or.inl ⟨rfl, by omega⟩) hT) _ _ _ rfl
                    | exact ih _ (by omega) (j + 1) (c + 0) (by omega) (xstep (by omega) 0 (Or.inr ⟨rfl, by omega⟩) hT) _ _ _ rfl
        · refine V_iload7 dX6_all_198 ?_
          refine V_iload8 dX6_all_200 ?_
          first | refine V_icmp_eq_n 209 dX6_all_202 (by decide) (by omega) (by omega) (fun c202 => ?_) (fun c202 => ?_) | refine V_icmp_eq 209 dX6_all_202 (by decide) (fun c202 => ?_) (fun c202 => ?_)
          · refine V_iconst (nI 0) dX6_all_209 (by decide) ?_
            refine V_istore4 dX6_all_210 (by decide) rfl ?_
            refine V_iload2 dX6_all_212 ?_
            refine V_iload1 dX6_all_213 ?_
            refine V_iconst (nI 4) dX6_all_214 (by decide) ?_
            first | refine V_icmp_ne_n 248 dX6_all_215 (by decide) (by omega) (by omega) (fun c215 => ?_) (fun c215 => ?_) | refine V_icmp_ne 248 dX6_all_215 (by decide) (fun c215 => ?_) (fun c215 => ?_)
            · exact absurd rfl c215 --end
            · refine V_iload7 dX6_all_218 ?_
              refine V_iconst (nI 5) dX6_all_220 (by decide) ?_
              first | refine V_icmp_ne_n 231 dX6_all_221 (by decide) (by omega) (by omega) (fun c221 => ?_) (fun c221 => ?_) | refine V_icmp_ne 231 dX6_all_221 (by decide) (fun c221 => ?_) (fun c221 => ?_)
              · refine V_iload7 dX6_all_231 ?_
                refine V_bipush (nI 10) dX6_all_233 (by decide) ?_
                first | refine V_icmp_ne_n 248 dX6_all_235 (by decide) (by omega) (by omega) (fun c235 => ?_) (fun c235 => ?_) | refine V_icmp_ne 248 dX6_all_235 (by decide) (fun c235 => ?_) (fun c235 => ?_)
                · refine V_iconst (nI 0) dX6_all_248 (by decide) ?_
                  first | refine V_iadd_n dX6_all_249 ?_ | refine V_iadd dX6_all_249 ?_
                  refine V_istore2 dX6_all_250 (by decide) rfl ?_
                  first | refine V_iinc6_n 1 dX6_all_251 (by decide) (by decide) rfl ?_ | refine V_iinc6 (nI 1) dX6_all_251 (by decide) (by decide) rfl ?_
                  refine V_goto 158 dX6_all_254 (by decide) ?_
                  first
                  | exact ih _ (by omega) (j + 1) (c + 1) (by omega) (xstep (by omega) 1 (Or.inl ⟨rfl, by omega⟩) hT) _ _ _ rfl
                  | exact ih _ (by omega) (j + 1) (c + 0) (by omega) (xstep (by omega) 0 (Or.inr ⟨rfl, by omega⟩) hT) _ _ _ rfl
                · refine V_iload8 dX6_all_238 ?_
                  refine V_iconst (nI 5) dX6_all_240 (by decide) ?_
                  first | refine V_icmp_ne_n 248 dX6_all_241 (by decide) (by omega) (by omega) (fun c241 => ?_) (fun c241 => ?_) | refine V_icmp_ne 248 dX6_all_241 (by decide) (fun c241 => ?_) (fun c241 => ?_)
                  · refine V_iconst (nI 0) dX6_all_248 (by decide) ?_
                    first | refine V_iadd_n dX6_all_249 ?_ | refine V_iadd dX6_all_249 ?_
                    refine V_istore2 dX6_all_250 (by decide) rfl ?_
                    first | refine V_iinc6_n 1 dX6_all_251 (by decide) (by decide) rfl ?_ | refine V_iinc6 (nI 1) dX6_all_251 (by decide) (by decide) rfl ?_
                    refine V_goto 158 dX6_all_254 (by decide) ?_
                    first
                    | exact ih _ (by omega) (j + 1) (c + 1) (by omega) (xstep (by omega) 1 (Or.inl ⟨rfl, by omega⟩) hT) _ _ _ rfl
                    | exact ih _ (by omega) (j + 1) (c + 0) (by omega) (xstep (by omega) 0 (Or.inr ⟨rfl, by omega⟩) hT) _ _ _ rfl
                  · refine V_iconst (nI 1) dX6_all_244 (by decide) ?_
                    refine V_goto 249 dX6_all_245 (by decide) ?_
                    first | refine V_iadd_n dX6_all_249 ?_ | refine V_iadd dX6_all_249 ?_
                    refine V_istore2 dX6_all_250 (by decide) rfl ?_
                    first | refine V_iinc6_n 1 dX6_all_251 (by decide) (by decide) rfl ?_ | refine V_iinc6 (nI 1) dX6_all_251 (by decide) (by decide) rfl ?_
                    refine V_goto 158 dX6_all_254 (by decide) ?_
                    first
                    | exact ih _ (by omega) (j + 1) (c + 1) (by omega) (xstep (by omega) 1 (Or.inl ⟨rfl, by omega⟩) hT) _ _ _ rfl
                    | exact ih _ (by omega) (j + 1) (c + 0) (by omega) (xstep (by omega) 0 (Or.inr ⟨rfl, by omega⟩) hT) _ _ _ rfl
              · refine V_iload8 dX6_all_224 ?_
                refine V_bipush (nI 10) dX6_all_226 (by decide) ?_
                first | refine V_icmp_eq_n 244 dX6_all_228 (by decide) (by omega) (by omega) (fun c228 => ?_) (fun c228 => ?_) | refine V_icmp_eq 244 dX6_all_228 (by decide) (fun c228 => ?_) (fun c228 => ?_)
                · refine V_iconst (nI 1) dX6_all_244 (by decide) ?_
                  refine V_goto 249 dX6_all_245 (by decide) ?_
                  first | refine V_iadd_n dX6_all_249 ?_ | refine V_iadd dX6_all_249 ?_
                  refine V_istore2 dX6_all_250 (by decide) rfl ?_
                  first | refine V_iinc6_n 1 dX6_all_251 (by decide) (by decide) rfl ?_ | refine V_iinc6 (nI 1) dX6_all_251 (by decide) (by decide) rfl ?_
                  refine V_goto 158 dX6_all_254 (by decide) ?_
                  first
                  | exact ih _ (by omega) (j + 1) (c + 1) (by omega) (xstep (by omega) 1 (Or.inl ⟨rfl, by omega⟩) hT) _ _ _ rfl
                  | exact ih _ (by omega) (j + 1) (c + 0) (by omega) (xstep (by omega) 0 (Or.inr ⟨rfl, by omega⟩) hT) _ _ _ rfl
                · refine V_iload7 dX6_all_231 ?_
                  refine V_bipush (nI 10) dX6_all_233 (by decide) ?_
                  first | refine V_icmp_ne_n 248 dX6_all_235 (by decide) (by omega) (by omega) (fun c235 => ?_) (fun c235 => ?_) | refine V_icmp_ne 248 dX6_all_235 (by decide) (fun c235 => ?_) (fun c235 => ?_)
                  · refine V_iconst (nI 0) dX6_all_248 (by decide) ?_
                    first | refine V_iadd_n dX6_all_249 ?_ | refine V_iadd dX6_all_249 ?_
                    refine V_istore2 dX6_all_250 (by decide) rfl ?_
                    first | refine V_iinc6_n 1 dX6_all_251 (by decide) (by decide) rfl ?_ | refine V_iinc6 (nI 1) dX6_all_251 (by decide) (by decide) rfl ?_
                    refine V_goto 158 dX6_all_254 (by decide) ?_
                    first
                    | exact ih _ (by omega) (j + 1) (c + 1) (by omega) (xstep (by omega) 1 (Or.inl ⟨rfl, by omega⟩) hT) _ _ _ rfl
                    | exact ih _ (by omega) (j + 1) (c + 0) (by omega) (xstep (by omega) 0 (Or.inr ⟨rfl, by omega⟩) hT) _ _ _ rfl
                  · refine V_iload8 dX6_all_238 ?_
                    refine V_iconst (nI 5) dX6_all_240 (by decide) ?_
                    first | refine V_icmp_ne_n 248 dX6_all_241 (by decide) (by omega) (by omega) (fun c241 => ?_) (fun c241 => ?_) | refine V_icmp_ne 248 dX6_all_241 (by decide) (fun c241 => ?_) (fun c241 => ?_)
                    · refine V_iconst (nI 0) dX6_all_248 (by decide) ?_
                      first | refine V_iadd_n dX6_all_249 ?_ | refine V_iadd dX6_all_249 ?_
                      refine V_istore2 dX6_all_250 (by decide) rfl ?_
                      first | refine V_iinc6_n 1 dX6_all_251 (by decide) (by decide) rfl ?_ | refine V_iinc6 (nI 1) dX6_all_251 (by decide) (by decide) rfl ?_
                      refine V_goto 158 dX6_all_254 (by decide) ?_
                      first
                      | exact ih _ (by omega) (j + 1) (c + 1) (by omega) (xstep (by omega) 1 (Or.inl ⟨rfl, by omega⟩) hT) _ _ _ rfl
                      | exact ih _ (by omega) (j + 1) (c + 0) (by omega) (xstep (by omega) 0 (Or.inr ⟨rfl, by omega⟩) hT) _ _ _ rfl
                    · refine V_iconst (nI 1) dX6_all_244 (by decide) ?_
                      refine V_goto 249 dX6_all_245 (by decide) ?_
                      first | refine V_iadd_n dX6_all_249 ?_ | refine V_iadd dX6_all_249 ?_
                      refine V_istore2 dX6_all_250 (by decide) rfl ?_
                      first | refine V_iinc6_n 1 dX6_all_251 (by decide) (by decide) rfl ?_ | refine V_iinc6 (nI 1) dX6_all_251 (by decide) (by decide) rfl ?_
                      refine V_goto 158 dX6_all_254 (by decide) ?_
                      first
                      | exact ih _ (by omega) (j + 1) (c + 1) (by omega) (xstep (by omega) 1 (Or.inl ⟨rfl, by omega⟩) hT) _ _ _ rfl
                      | exact ih _ (by omega) (j + 1) (c + 0) (by omega) (xstep (by omega) 0 (Or.inr ⟨rfl, by omega⟩) hT) _ _ _ rfl
          · refine V_iconst (nI 1) dX6_all_205 (by decide) ?_
            refine V_goto 210 dX6_all_206 (by decide) ?_
            refine V_istore4 dX6_all_210 (by decide) rfl ?_
            refine V_iload2 dX6_all_212 ?_
            refine V_iload1 dX6_all_213 ?_
            refine V_iconst (nI 4) dX6_all_214 (by decide) ?_
            first | refine V_icmp_ne_n 248 dX6_all_215 (by decide) (by omega) (by omega) (fun c215 => ?_) (fun c215 => ?_) | refine V_icmp_ne 248 dX6_all_215 (by decide) (fun c215 => ?_) (fun c215 => ?_)
            · exact absurd rfl c215 --end
            · refine V_iload7 dX6_all_218 ?_
              refine V_iconst (nI 5) dX6_all_220 (by decide) ?_
              first | refine V_icmp_ne_n 231 dX6_all_221 (by decide) (by omega) (by omega) (fun c221 => ?_) (fun c221 => ?_) | refine V_icmp_ne 231 dX6_all_221 (by decide) (fun c221 => ?_) (fun c221 => ?_)
              · refine V_iload7 dX6_all_231 ?_
                refine V_bipush (nI 10) dX6_all_233 (by decide) ?_
                first | refine V_icmp_ne_n 248 dX6_all_235 (by decide) (by omega) (by omega) (fun c235 => ?_) (fun c235 => ?_) | refine V_icmp_ne 248 dX6_all_235 (by decide) (fun c235 => ?_) (fun c235 => ?_)
                · refine V_iconst (nI 0) dX6_all_248 (by decide) ?_
                  first | refine V_iadd_n dX6_all_249 ?_ | refine V_iadd dX6_all_249 ?_
                  refine V_istore2 dX6_all_250 (by decide) rfl ?_
                  first | refine V_iinc6_n 1 dX6_all_251 (by decide) (by decide) rfl ?_ | refine V_iinc6 (nI 1) dX6_all_251 (by decide) (by decide) rfl ?_
                  refine V_goto 158 dX6_all_254 (by decide) ?_
                  first
                  | exact ih _ (by omega) (j + 1) (c + 1) (by omega) (xstep (by omega) 1 (Or.inl ⟨rfl, by omega⟩) hT) _ _ _ rfl
                  | exact ih _ (by omega) (j + 1) (c + 0) (by omega) (xstep (by omega) 0 (Or.inr ⟨rfl, by omega⟩) hT) _ _ _ rfl
                · refine V_iload8 dX6_all_238 ?_
                  refine V_iconst (nI 5) dX6_all_240 (by decide) ?_
                  first | refine V_icmp_ne_n 248 dX6_all_241 (by decide) (by omega) (by omega) (fun c241 => ?_) (fun c241 => ?_) | refine V_icmp_ne 248 dX6_all_241 (by decide) (fun c241 => ?_) (fun c241 => ?_)
                  · refine V_iconst (nI 0) dX6_all_248 (by decide) ?_
                    first | refine V_iadd_n dX6_all_249 ?_ | refine V_iadd dX6_all_249 ?_
                    refine V_istore2 dX6_all_250 (by decide) rfl ?_
                    first | refine V_iinc6_n 1 dX6_all_251 (by decide) (by decide) rfl ?_ | refine V_iinc6 (nI 1) dX6_all_251 (by decide) (by decide) rfl ?_
                    refine V_goto 158 dX6_all_254 (by decide) ?_
                    first
                    | exact ih _ (by omega) (j + 1) (c + 1) (by omega) (xstep (by omega) 1 (Or.inl ⟨rfl, by omega⟩) hT) _ _ _ rfl
                    | exact ih _ (by omega) (j + 1) (c + 0) (by omega) (xstep (by omega) 0 (Or.inr ⟨rfl, by omega⟩) hT) _ _ _ rfl
                  · refine V_iconst (nI 1) dX6_all_244 (by decide) ?_
                    refine V_goto 249 dX6_all_245 (by decide) ?_
                    first | refine V_iadd_n dX6_all_249 ?_ | refine V_iadd dX6_all_249 ?_
                    refine V_istore2 dX6_all_250 (by decide) rfl ?_
                    first | refine V_iinc6_n 1 dX6_all_251 (by decide) (by decide) rfl ?_ | refine V_iinc6 (nI 1) dX6_all_251 (by decide) (by decide) rfl ?_
                    refine V_goto 158 dX6_all_254 (by decide) ?_
                    first
                    | exact ih _ (by omega) (j + 1) (c + 1) (by omega) (xstep (by omega) 1 (Or.inl ⟨rfl, by omega⟩) hT) _ _ _ rfl
                    | exact ih _ (by omega) (j + 1) (c + 0) (by omega) (xstep (by omega) 0 (Or.inr ⟨rfl, by omega⟩) hT) _ _ _ rfl
              · refine V_iload8 dX6_all_224 ?_
                refine V_bipush (nI 10) dX6_all_226 (by decide) ?_
                first | refine V_icmp_eq_n 244 dX6_all_228 (by decide) (by omega) (by omega) (fun c228 => ?_) (fun c228 => ?_) | refine V_icmp_eq 244 dX6_all_228 (by decide) (fun c228 => ?_) (fun c228 => ?_)
                · refine V_iconst (nI 1) dX6_all_244 (by decide) ?_
                  refine V_goto 249 dX6_all_245 (by decide) ?_
                  first | refine V_iadd_n dX6_all_249 ?_ | refine V_iadd dX6_all_249 ?_
                  refine V_istore2 dX6_all_250 (by decide) rfl ?_
                  first | refine V_iinc6_n 1 dX6_all_251 (by decide) (by decide) rfl ?_ | refine V_iinc6 (nI 1) dX6_all_251 (by decide) (by decide) rfl ?_
                  refine V_goto 158 dX6_all_254 (by decide) ?_
                  first
                  | exact ih _ (by omega) (j + 1) (c + 1) (by omega) (xstep (by omega) 1 (Or.inl ⟨rfl, by omega⟩) hT) _ _ _ rfl
                  | exact ih _ (by omega) (j + 1) (c + 0) (by omega) (xstep (by omega) 0 (Or.inr ⟨rfl, by omega⟩) hT) _ _ _ rfl
                · refine V_iload7 dX6_all_231 ?_
                  refine V_bipush (nI 10) dX6_all_233 (by decide) ?_
                  first | refine V_icmp_ne_n 248 dX6_all_235 (by decide) (by omega) (by omega) (fun c235 => ?_) (fun c235 => ?_) | refine V_icmp_ne 248 dX6_all_235 (by decide) (fun c235 => ?_) (fun c235 => ?_)
                  · refine V_iconst (nI 0) dX6_all_248 (by decide) ?_
                    first | refine V_iadd_n dX6_all_249 ?_ | refine V_iadd dX6_all_249 ?_
                    refine V_istore2 dX6_all_250 (by decide) rfl ?_
                    first | refine V_iinc6_n 1 dX6_all_251 (by decide) (by decide) rfl ?_ | refine V_iinc6 (nI 1) dX6_all_251 (by decide) (by decide) rfl ?_
                    refine V_goto 158 dX6_all_254 (by decide) ?_
                    first
                    | exact ih _ (by omega) (j + 1) (c + 1) (by omega) (xstep (by omega) 1 (Or.inl ⟨rfl, by omega⟩) hT) _ _ _ rfl
                    | exact ih _ (by omega) (j + 1) (c + 0) (by omega) (xstep (by omega) 0 (Or.inr ⟨rfl, by omega⟩) hT) _ _ _ rfl
                  · refine V_iload8 dX6_all_238 ?_
                    refine V_iconst (nI 5) dX6_all_240 (by decide) ?_
                    first | refine V_icmp_ne_n 248 dX6_all_241 (by decide) (by omega) (by omega) (fun c241 => ?_) (fun c241 => ?_) | refine V_icmp_ne 248 dX6_all_241 (by decide) (fun c241 => ?_) (fun c241 => ?_)
                    · refine V_iconst (nI 0) dX6_all_248 (by decide) ?_
                      first | refine V_iadd_n dX6_all_249 ?_ | refine V_iadd dX6_all_249 ?_
                      refine V_istore2 dX6_all_250 (by decide) rfl ?_
                      first | refine V_iinc6_n 1 dX6_all_251 (by decide) (by decide) rfl ?_ | refine V_iinc6 (nI 1) dX6_all_251 (by decide) (by decide) rfl ?_
                      refine V_goto 158 dX6_all_254 (by decide) ?_
                      first
                      | exact ih _ (by omega) (j + 1) (c + 1) (by omega) (xstep (by omega) 1 (Or.inl ⟨rfl, by omega⟩) hT) _ _ _ rfl
                      | exact ih _ (by omega) (j + 1) (c + 0) (by omega) (xstep (by omega) 0 (Or.inr ⟨rfl, by omega⟩) hT) _ _ _ rfl
                    · refine V_iconst (nI 1) dX6_all_244 (by decide) ?_
                      refine V_goto 249 dX6_all_245 (by decide) ?_
                      first | refine V_iadd_n dX6_all_249 ?_ | refine V_iadd dX6_all_249 ?_
                      refine V_istore2 dX6_all_250 (by decide) rfl ?_
                      first | refine V_iinc6_n 1 dX6_all_251 (by decide) (by decide) rfl ?_ | refine V_iinc6 (nI 1) dX6_all_251 (by decide) (by decide) rfl ?_
                      refine V_goto 158 dX6_all_254 (by decide) ?_
                      first
                      | exact ih _ (by omega) (j + 1) (c + 1) (by omega) (xstep (by omega) 1 (Or.inl ⟨rfl, by omega⟩) hT) _ _ _ rfl
                      | exact ih _ (by omega) (j + 1) (c + 0) (by omega) (xstep (by omega) 0 (Or.inr ⟨rfl, by omega⟩) hT) _ _ _ rfl
set_option maxRecDepth 4000 in
theorem l_X6_all_o4 (G : GE) (h : Mem) (N : Ng) (i : Inv N) (r : RBn N h) (p T : Nat) (hp : p < 100) (Q : Option Value → Mem → Prop) (K : ∀ v4 o5 o6 o7 o8, V idsB G RX6 cX6_all 9 (some .int) (rmD 4) 263 [some (.ref (ad G 100)), some (.int (nI 4)), some (.int (nI T)), some (.int (nI p)), some (.int v4), o5, o6, o7, o8] [] h Q) (a c : Nat) (ha : a ≤ nNl N) (hS : c + rst (a5 N p) (nNl N) a * rst (a10 N p) (nNl N) a = T) (v4 : Int32) (o6 o7 o8 : OV) : V idsB G RX6 cX6_all 9 (some .int) (rmD 4) 143 [some (.ref (ad G 100)), some (.int (nI 4)), some (.int (nI c)), some (.int (nI p)), some (.int v4), some (.int (nI a)), o6, o7, o8] [] h Q := by
  have hnl := i.nl
  induction hm : nNl N - a using Nat.strongRecOn generalizing a c v4 o6 o7 o8 with
  | _ m ih =>
    subst hm
    refine V_iload5 dX6_all_143 ?_
    refine V_aload0 dX6_all_145 ?_
    refine gX6_102 dX6_all_146 ?_
    rw [r.2.1]
    first | refine V_icmp_ge_n 263 dX6_all_149 (by decide) (by omega) (by omega) (fun c149 => ?_) (fun c149 => ?_) | refine V_icmp_ge 263 dX6_all_149 (by decide) (fun c149 => ?_) (fun c149 => ?_)
    · obtain rfl : a = nNl N := by omega
      rw [rst_n, Nat.zero_mul] at hS
      obtain rfl : c = T := hS
      exact K _ _ _ _ _
    · refine V_iload5 dX6_all_152 ?_
      refine V_iconst (nI 1) dX6_all_154 (by decide) ?_
      first | refine V_iadd_n dX6_all_155 ?_ | refine V_iadd dX6_all_155 ?_
      refine V_istore6 dX6_all_156 (by decide) rfl ?_
      obtain ⟨T', q1, q2⟩ := xouter (show a < nNl N by omega) hS
      refine l_X6_all_i4 G h N i r p a T' hp (by omega) Q (fun v4 o6 o7 o8 => ?_) (a + 1) c (by omega) q1 v4 o7 o8
      first | refine V_iinc5_n 1 dX6_all_257 (by decide) (by decide) rfl ?_ | refine V_iinc5 (nI 1) dX6_all_257 (by decide) (by decide) rfl ?_
      refine V_goto 143 dX6_all_260 (by decide) ?_
      exact ih _ (by omega) (a + 1) T' (by omega) q2 _ _ _ _ rfl
set_option maxRecDepth 4000 in
theorem l_X6_all_4 (G : GE) (h : Mem) (N : Ng) (i : Inv N) (r : RBn N h) (p : Nat) (hp : p ≤ 100) (o4 o5 o6 o7 o8 : OV) : V idsB G RX6 cX6_all 9 (some .int) (rmD 4) 121 [some (.ref (ad G 100)), some (.int (nI 4)), some (.int (nI (fb_sm (fun p => popc (lfM (nMk N) p 0 &&& lfM (nMk N) p 2) * popc (lfM (nMk N) p 1 &&& lfM (nMk N) p 3)) p))), some (.int (nI p)), o4, o5, o6, o7, o8] [] h (Qi (fun v h' => h' = h ∧ v = nI (xSum N))) := by
  induction hm : 100 - p using Nat.strongRecOn generalizing p o4 o5 o6 o7 o8 with
  | _ m ih =>
    subst hm
    refine V_iload3 dX6_all_121 ?_
    refine V_bipush (nI 100) dX6_all_122 (by decide) ?_
    first | refine V_icmp_ge_n 287 dX6_all_124 (by decide) (by omega) (by omega) (fun c124 => ?_) (fun c124 => ?_) | refine V_icmp_ge 287 dX6_all_124 (by decide) (fun c124 => ?_) (fun c124 => ?_)
    · refine V_iload2 dX6_all_287 ?_
      refine V_ireti dX6_all_288 ?_
      obtain rfl : p = 100 := by omega
      exact ⟨rfl, rfl⟩
    · refine V_iload1 dX6_all_127 ?_
      refine V_iconst (nI 3) dX6_all_128 (by decide) ?_
      first | refine V_icmp_eq_n 137 dX6_all_129 (by decide) (by omega) (by omega) (fun c129 => ?_) (fun c129 => ?_) | refine V_icmp_eq 137 dX6_all_129 (by decide) (fun c129 => ?_) (fun c129 => ?_)
      · exact absurd c129 (by decide) --end
      · refine V_iload1 dX6_all_132 ?_
        refine V_iconst (nI 4) dX6_all_133 (by decide) ?_
        first | refine V_icmp_ne_n 287 dX6_all_134 (by decide) (by omega) (by omega) (fun c134 => ?_) (fun c134 => ?_) | refine V_icmp_ne 287 dX6_all_134 (by decide) (fun c134 => ?_) (fun c134 => ?_)
        · exact absurd rfl c134 --end
        · refine V_iconst (nI 0) dX6_all_137 (by decide) ?_
          refine V_istore4 dX6_all_138 (by decide) rfl ?_
          refine V_iconst (nI 0) dX6_all_140 (by decide) ?_
          refine V_istore5 dX6_all_141 (by decide) rfl ?_
          refine l_X6_all_o4 G h N i r p (fb_sm (fun p => popc (lfM (nMk N) p 0 &&& lfM (nMk N) p 2) * popc (lfM (nMk N) p 1 &&& lfM (nMk N) p 3)) (p + 1)) (by omega) _ (fun v4 o5 o6 o7 o8 => ?_) 0 (fb_sm (fun p => popc (lfM (nMk N) p 0 &&& lfM (nMk N) p 2) * popc (lfM (nMk N) p 1 &&& lfM (nMk N) p 3)) p) (Nat.zero_le _) (by rw [rst_0, rst_0, ct_5 i (by omega), ct_10 i (by omega)]; rfl) _ _ _ _
          refine V_iload2 dX6_all_263 ?_
          refine V_iload1 dX6_all_264 ?_
          refine V_iconst (nI 3) dX6_all_265 (by decide) ?_
          first | refine V_icmp_ne_n 278 dX6_all_266 (by decide) (by omega) (by omega) (fun c266 => ?_) (fun c266 => ?_) | refine V_icmp_ne 278 dX6_all_266 (by decide) (fun c266 => ?_) (fun c266 => ?_)
          · refine V_iconst (nI 0) dX6_all_278 (by decide) ?_
            first | refine V_iadd_n dX6_all_279 ?_ | refine V_iadd dX6_all_279 ?_
            refine V_istore2 dX6_all_280 (by decide) rfl ?_
            first | refine V_iinc3_n 1 dX6_all_281 (by decide) (by decide) rfl ?_ | refine V_iinc3 (nI 1) dX6_all_281 (by decide) (by decide) rfl ?_
            refine V_goto 121 dX6_all_284 (by decide) ?_
            rw [Nat.add_zero]
            exact ih _ (by omega) (p + 1) (by omega) _ _ _ _ _ rfl
          · exact absurd c266 (by decide) --end
