set_option maxRecDepth 4000 in
theorem m_X5_isSheet (G : GE) (h : Mem) (x : Int32) : Ct idsA G yX5_isSheet cX5_isSheet 1 (some .boolean) (rmD 0) [.int x] h (Qi fun r h' => h' = h ∧ r = bz (inR x 8)) := by
  refine Ct.of [some (.int x)] (by decide) (Nat.le_of_ble_eq_true rfl) (lvE_ok 0 rfl) ?_
  refine V_iload0 dX5_isSheet_0 ?_
  first | refine V_if_lt_n 14 dX5_isSheet_1 (by decide) (by omega) (fun c1 => ?_) (fun c1 => ?_) | refine V_if_lt 14 dX5_isSheet_1 (by decide) (fun c1 => ?_) (fun c1 => ?_)
  · refine V_iconst (nI 0) dX5_isSheet_14 (by decide) ?_
    refine V_zreti dX5_isSheet_15 (by first | exact bz_01 | exact nI_01 (Or.inl rfl) | exact nI_01 (Or.inr rfl) | assumption) ?_
    exact ⟨rfl, by first | exact bz_r1 (by simp only [inR, Int32.lt_iff_toInt_lt, Int32.le_iff_toInt_le, nI_toInt (show 8 < 2 ^ 31 by decide), nI_toInt (show 10 < 2 ^ 31 by decide), nI_toInt (show 4 < 2 ^ 31 by decide), Int32.toInt_zero] at *; omega) | exact bz_r0 (by simp only [inR, Int32.lt_iff_toInt_lt, Int32.le_iff_toInt_le, nI_toInt (show 8 < 2 ^ 31 by decide), nI_toInt (show 10 < 2 ^ 31 by decide), nI_toInt (show 4 < 2 ^ 31 by decide), Int32.toInt_zero] at *; omega)⟩
  · refine V_iload0 dX5_isSheet_4 ?_
    refine V_bipush (nI 8) dX5_isSheet_5 (by decide) ?_
    first | refine V_icmp_ge_n 14 dX5_isSheet_7 (by decide) (by omega) (by omega) (fun c7 => ?_) (fun c7 => ?_) | refine V_icmp_ge 14 dX5_isSheet_7 (by decide) (fun c7 => ?_) (fun c7 => ?_)
    · refine V_iconst (nI 0) dX5_isSheet_14 (by decide) ?_
      refine V_zreti dX5_isSheet_15 (by first | exact bz_01 | exact nI_01 (Or.inl rfl) | exact nI_01 (Or.inr rfl) | assumption) ?_
      exact ⟨rfl, by first | exact bz_r1 (by simp only [inR, Int32.lt_iff_toInt_lt, Int32.le_iff_toInt_le, nI_toInt (show 8 < 2 ^ 31 by decide), nI_toInt (show 10 < 2 ^ 31 by decide), nI_toInt (show 4 < 2 ^ 31 by decide), Int32.toInt_zero] at *; omega) | exact bz_r0 (by simp only [inR, Int32.lt_iff_toInt_lt, Int32.le_iff_toInt_le, nI_toInt (show 8 < 2 ^ 31 by decide), nI_toInt (show 10 < 2 ^ 31 by decide), nI_toInt (show 4 < 2 ^ 31 by decide), Int32.toInt_zero] at *; omega)⟩
    · refine V_iconst (nI 1) dX5_isSheet_10 (by decide) ?_
      refine V_goto 15 dX5_isSheet_11 (by decide) ?_
      refine V_zreti dX5_isSheet_15 (by first | exact bz_01 | exact nI_01 (Or.inl rfl) | exact nI_01 (Or.inr rfl) | assumption) ?_
      exact ⟨rfl, by first | exact bz_r1 (by simp only [inR, Int32.lt_iff_toInt_lt, Int32.le_iff_toInt_le, nI_toInt (show 8 < 2 ^ 31 by decide), nI_toInt (show 10 < 2 ^ 31 by decide), nI_toInt (show 4 < 2 ^ 31 by decide), Int32.toInt_zero] at *; omega) | exact bz_r0 (by simp only [inR, Int32.lt_iff_toInt_lt, Int32.le_iff_toInt_le, nI_toInt (show 8 < 2 ^ 31 by decide), nI_toInt (show 10 < 2 ^ 31 by decide), nI_toInt (show 4 < 2 ^ 31 by decide), Int32.toInt_zero] at *; omega)⟩
set_option maxRecDepth 4000 in
theorem m_X5_isPlace (G : GE) (h : Mem) (x y : Int32) : Ct idsA G yX5_isPlace cX5_isPlace 2 (some .boolean) (rmD 0) [.int x, .int y] h (Qi fun r h' => h' = h ∧ r = bz (inR x 10 ∧ inR y 10)) := by
  refine Ct.of [some (.int x), some (.int y)] (by decide) (Nat.le_of_ble_eq_true rfl) (lvE_ok 0 rfl) ?_
  refine V_iload0 dX5_isPlace_0 ?_
  first | refine V_if_lt_n 24 dX5_isPlace_1 (by decide) (by omega) (fun c1 => ?_) (fun c1 => ?_) | refine V_if_lt 24 dX5_isPlace_1 (by decide) (fun c1 => ?_) (fun c1 => ?_)
  · refine V_iconst (nI 0) dX5_isPlace_24 (by decide) ?_
    refine V_zreti dX5_isPlace_25 (by first | exact bz_01 | exact nI_01 (Or.inl rfl) | exact nI_01 (Or.inr rfl) | assumption) ?_
    exact ⟨rfl, by first | exact bz_r1 (by simp only [inR, Int32.lt_iff_toInt_lt, Int32.le_iff_toInt_le, nI_toInt (show 8 < 2 ^ 31 by decide), nI_toInt (show 10 < 2 ^ 31 by decide), nI_toInt (show 4 < 2 ^ 31 by decide), Int32.toInt_zero] at *; omega) | exact bz_r0 (by simp only [inR, Int32.lt_iff_toInt_lt, Int32.le_iff_toInt_le, nI_toInt (show 8 < 2 ^ 31 by decide), nI_toInt (show 10 < 2 ^ 31 by decide), nI_toInt (show 4 < 2 ^ 31 by decide), Int32.toInt_zero] at *; omega)⟩
  · refine V_iload0 dX5_isPlace_4 ?_
    refine V_bipush (nI 10) dX5_isPlace_5 (by decide) ?_
    first | refine V_icmp_ge_n 24 dX5_isPlace_7 (by decide) (by omega) (by omega) (fun c7 => ?_) (fun c7 => ?_) | refine V_icmp_ge 24 dX5_isPlace_7 (by decide) (fun c7 => ?_) (fun c7 => ?_)
    · refine V_iconst (nI 0) dX5_isPlace_24 (by decide) ?_
      refine V_zreti dX5_isPlace_25 (by first | exact bz_01 | exact nI_01 (Or.inl rfl) | exact nI_01 (Or.inr rfl) | assumption) ?_
      exact ⟨rfl, by first | exact bz_r1 (by simp only [inR, Int32.lt_iff_toInt_lt, Int32.le_iff_toInt_le, nI_toInt (show 8 < 2 ^ 31 by decide), nI_toInt (show 10 < 2 ^ 31 by decide), nI_toInt (show 4 < 2 ^ 31 by decide), Int32.toInt_zero] at *; omega) | exact bz_r0 (by simp only [inR, Int32.lt_iff_toInt_lt, Int32.le_iff_toInt_le, nI_toInt (show 8 < 2 ^ 31 by decide), nI_toInt (show 10 < 2 ^ 31 by decide), nI_toInt (show 4 < 2 ^ 31 by decide), Int32.toInt_zero] at *; omega)⟩
    · refine V_iload1 dX5_isPlace_10 ?_
      first | refine V_if_lt_n 24 dX5_isPlace_11 (by decide) (by omega) (fun c11 => ?_) (fun c11 => ?_) | refine V_if_lt 24 dX5_isPlace_11 (by decide) (fun c11 => ?_) (fun c11 => ?_)
      · refine V_iconst (nI 0) dX5_isPlace_24 (by decide) ?_
        refine V_zreti dX5_isPlace_25 (by first | exact bz_01 | exact nI_01 (Or.inl rfl) | exact nI_01 (Or.inr rfl) | assumption) ?_
        exact ⟨rfl, by first | exact bz_r1 (by simp only [inR, Int32.lt_iff_toInt_lt, Int32.le_iff_toInt_le, nI_toInt (show 8 < 2 ^ 31 by decide), nI_toInt (show 10 < 2 ^ 31 by decide), nI_toInt (show 4 < 2 ^ 31 by decide), Int32.toInt_zero] at *; omega) | exact bz_r0 (by simp only [inR, Int32.lt_iff_toInt_lt, Int32.le_iff_toInt_le, nI_toInt (show 8 < 2 ^ 31 by decide), nI_toInt (show 10 < 2 ^ 31 by decide), nI_toInt (show 4 < 2 ^ 31 by decide), Int32.toInt_zero] at *; omega)⟩
      · refine V_iload1 dX5_isPlace_14 ?_
        refine V_bipush (nI 10) dX5_isPlace_15 (by decide) ?_
        first | refine V_icmp_ge_n 24 dX5_isPlace_17 (by decide) (by omega) (by omega) (fun c17 => ?_) (fun c17 => ?_) | refine V_icmp_ge 24 dX5_isPlace_17 (by decide) (fun c17 => ?_) (fun c17 => ?_)
        · refine V_iconst (nI 0) dX5_isPlace_24 (by decide) ?_
          refine V_zreti dX5_isPlace_25 (by first | exact bz_01 | exact nI_01 (Or.inl rfl) | exact nI_01 (Or.inr rfl) | assumption) ?_
          exact ⟨rfl, by first | exact bz_r1 (by simp only [inR, Int32.lt_iff_toInt_lt, Int32.le_iff_toInt_le, nI_toInt (show 8 < 2 ^ 31 by decide), nI_toInt (show 10 < 2 ^ 31 by decide), nI_toInt (show 4 < 2 ^ 31 by decide), Int32.toInt_zero] at *; omega) | exact bz_r0 (by simp only [inR, Int32.lt_iff_toInt_lt, Int32.le_iff_toInt_le, nI_toInt (show 8 < 2 ^ 31 by decide), nI_toInt (show 10 < 2 ^ 31 by decide), nI_toInt (show 4 < 2 ^ 31 by decide), Int32.toInt_zero] at *; omega)⟩
        · refine V_iconst (nI 1) dX5_isPlace_20 (by decide) ?_
          refine V_goto 25 dX5_isPlace_21 (by decide) ?_
          refine V_zreti dX5_isPlace_25 (by first | exact bz_01 | exact nI_01 (Or.inl rfl) | exact nI_01 (Or.inr rfl) | assumption) ?_
          exact ⟨rfl, by first | exact bz_r1 (by simp only [inR, Int32.lt_iff_toInt_lt, Int32.le_iff_toInt_le, nI_toInt (show 8 < 2 ^ 31 by decide), nI_toInt (show 10 < 2 ^ 31 by decide), nI_toInt (show 4 < 2 ^ 31 by decide), Int32.toInt_zero] at *; omega) | exact bz_r0 (by simp only [inR, Int32.lt_iff_toInt_lt, Int32.le_iff_toInt_le, nI_toInt (show 8 < 2 ^ 31 by decide), nI_toInt (show 10 < 2 ^ 31 by decide), nI_toInt (show 4 < 2 ^ 31 by decide), Int32.toInt_zero] at *; omega)⟩
set_option maxRecDepth 4000 in
theorem m_X5_isDirection (G : GE) (h : Mem) (x : Int32) : Ct idsA G yX5_isDirection cX5_isDirection 1 (some .boolean) (rmD 0) [.int x] h (Qi fun r h' => h' = h ∧ r = bz (inR x 4)) := by
  refine Ct.of [some (.int x)] (by decide) (Nat.le_of_ble_eq_true rfl) (lvE_ok 0 rfl) ?_
  refine V_iload0 dX5_isDirection_0 ?_
  first | refine V_if_lt_n 13 dX5_isDirection_1 (by decide) (by omega) (fun c1 => ?_) (fun c1 => ?_) | refine V_if_lt 13 dX5_isDirection_1 (by decide) (fun c1 => ?_) (fun c1 => ?_)
  · refine V_iconst (nI 0) dX5_isDirection_13 (by decide) ?_
    refine V_zreti dX5_isDirection_14 (by first | exact bz_01 | exact nI_01 (Or.inl rfl) | exact nI_01 (Or.inr rfl) | assumption) ?_
    exact ⟨rfl, by first | exact bz_r1 (by simp only [inR, Int32.lt_iff_toInt_lt, Int32.le_iff_toInt_le, nI_toInt (show 8 < 2 ^ 31 by decide), nI_toInt (show 10 < 2 ^ 31 by decide), nI_toInt (show 4 < 2 ^ 31 by decide), Int32.toInt_zero] at *; omega) | exact bz_r0 (by simp only [inR, Int32.lt_iff_toInt_lt, Int32.le_iff_toInt_le, nI_toInt (show 8 < 2 ^ 31 by decide), nI_toInt (show 10 < 2 ^ 31 by decide), nI_toInt (show 4 < 2 ^ 31 by decide), Int32.toInt_zero] at *; omega)⟩
  · refine V_iload0 dX5_isDirection_4 ?_
    refine V_iconst (nI 4) dX5_isDirection_5 (by decide) ?_
    first | refine V_icmp_ge_n 13 dX5_isDirection_6 (by decide) (by omega) (by omega) (fun c6 => ?_) (fun c6 => ?_) | refine V_icmp_ge 13 dX5_isDirection_6 (by decide) (fun c6 => ?_) (fun c6 => ?_)
    · refine V_iconst (nI 0) dX5_isDirection_13 (by decide) ?_
      refine V_zreti dX5_isDirection_14 (by first | exact bz_01 | exact nI_01 (Or.inl rfl) | exact nI_01 (Or.inr rfl) | assumption) ?_
      exact ⟨rfl, by first | exact bz_r1 (by simp only [inR, Int32.lt_iff_toInt_lt, Int32.le_iff_toInt_le, nI_toInt (show 8 < 2 ^ 31 by decide), nI_toInt (show 10 < 2 ^ 31 by decide), nI_toInt (show 4 < 2 ^ 31 by decide), Int32.toInt_zero] at *; omega) | exact bz_r0 (by simp only [inR, Int32.lt_iff_toInt_lt, Int32.le_iff_toInt_le, nI_toInt (show 8 < 2 ^ 31 by decide), nI_toInt (show 10 < 2 ^ 31 by decide), nI_toInt (show 4 < 2 ^ 31 by decide), Int32.toInt_zero] at *; omega)⟩
    · refine V_iconst (nI 1) dX5_isDirection_9 (by decide) ?_
      refine V_goto 14 dX5_isDirection_10 (by decide) ?_
      refine V_zreti dX5_isDirection_14 (by first | exact bz_01 | exact nI_01 (Or.inl rfl) | exact nI_01 (Or.inr rfl) | assumption) ?_
      exact ⟨rfl, by first | exact bz_r1 (by simp only [inR, Int32.lt_iff_toInt_lt, Int32.le_iff_toInt_le, nI_toInt (show 8 < 2 ^ 31 by decide), nI_toInt (show 10 < 2 ^ 31 by decide), nI_toInt (show 4 < 2 ^ 31 by decide), Int32.toInt_zero] at *; omega) | exact bz_r0 (by simp only [inR, Int32.lt_iff_toInt_lt, Int32.le_iff_toInt_le, nI_toInt (show 8 < 2 ^ 31 by decide), nI_toInt (show 10 < 2 ^ 31 by decide), nI_toInt (show 4 < 2 ^ 31 by decide), Int32.toInt_zero] at *; omega)⟩
set_option maxRecDepth 4000 in
theorem m_X5_placeAt (G : GE) (h : Mem) (x y : Nat) : Ct idsA G yX5_placeAt cX5_placeAt 2 (some .int) (rmD 0) [.int (nI x), .int (nI y)] h (Qi fun r h' => h' = h ∧ r = nI (y * 10 + x)) := by
  refine Ct.of [some (.int (nI x)), some (.int (nI y))] (by decide) (Nat.le_of_ble_eq_true rfl) (lvE_ok 0 rfl) ?_
  refine V_iload1 dX5_placeAt_0 ?_
  refine V_bipush (nI 10) dX5_placeAt_1 (by decide) ?_
  first | refine V_imul_n dX5_placeAt_3 ?_ | refine V_imul dX5_placeAt_3 ?_
  refine V_iload0 dX5_placeAt_4 ?_
  first | refine V_iadd_n dX5_placeAt_5 ?_ | refine V_iadd dX5_placeAt_5 ?_
  refine V_ireti dX5_placeAt_6 ?_
  exact ⟨rfl, rfl⟩
set_option maxRecDepth 4000 in
theorem m_X5_found (G : GE) (h : Mem) (f : Nat) : Ct idsA G yX5_found cX5_found 2 (some .int) (rmD 0) [.ref (ad G 0), .int (nI f)] h (Qi fun r h' => h' = wr h 0 10 (nI f) ∧ r = -1000010 - nI f) := by
  refine Ct.of [some (.ref (ad G 0)), some (.int (nI f))] (by decide) (Nat.le_of_ble_eq_true rfl) (lvE_ok 0 rfl) ?_
  refine V_aload0 dX5_found_0 ?_
  refine V_iload1 dX5_found_1 ?_
  refine pX5_261 dX5_found_2 ?_
  refine V_ldc_w ct_X5_264 dX5_found_5 ?_
  refine V_iload1 dX5_found_8 ?_
  first | refine V_isub_n dX5_found_9 (by omega) ?_ | refine V_isub dX5_found_9 ?_
  refine V_ireti dX5_found_10 ?_
  exact ⟨rfl, rfl⟩
set_option maxRecDepth 4000 in
theorem m_X5_unfound (G : GE) (h : Mem) (v : Int32) : Ct idsA G yX5_unfound cX5_unfound 2 (some .int) (rmD 0) [.ref (ad G 0), .int v] h (Qi fun r h' => h' = wr h 0 10 (nI 0) ∧ r = v) := by
  refine Ct.of [some (.ref (ad G 0)), some (.int v)] (by decide) (Nat.le_of_ble_eq_true rfl) (lvE_ok 0 rfl) ?_
  refine V_aload0 dX5_unfound_0 ?_
  refine V_iconst (nI 0) dX5_unfound_1 (by decide) ?_
  refine pX5_261 dX5_unfound_2 ?_
  refine V_iload1 dX5_unfound_5 ?_
  refine V_ireti dX5_unfound_6 ?_
  exact ⟨rfl, rfl⟩
set_option maxRecDepth 4000 in
theorem m_X5_beside (G : GE) (h : Mem) (p d : Nat) (hp : p < 100) (hd : d < 4) : Ct idsA G yX5_beside cX5_beside 2 (some .int) (rmD 0) [.int (nI p), .int (nI d)] h (Qi fun r h' => h' = h ∧ r = oI (nb p d) (-1)) := by
  refine Ct.of [some (.int (nI p)), some (.int (nI d))] (by decide) (Nat.le_of_ble_eq_true rfl) (lvE_ok 0 rfl) ?_
  refine V_iload1 dX5_beside_0 ?_
  rcases (show d = 0 ∨ d = 1 ∨ d = 2 ∨ d = 3 by omega) with rfl | rfl | rfl | rfl
  · refine V_tableIn 28 dX5_beside_1 (by decide) (by decide) rfl (by decide) ?_
    refine V_iload0 dX5_beside_28 ?_
    refine V_bipush (nI 10) dX5_beside_29 (by decide) ?_
    first | refine V_icmp_lt_n 41 dX5_beside_31 (by decide) (by omega) (by omega) (fun c31 => ?_) (fun c31 => ?_) | refine V_icmp_lt 41 dX5_beside_31 (by decide) (fun c31 => ?_) (fun c31 => ?_)
    · refine V_iconst (-1) dX5_beside_41 (by decide) ?_
      refine V_ireti dX5_beside_42 ?_
      exact ⟨rfl, by by_cases e0 : 10 ≤ p <;> by_cases e1 : p % 10 < 9 <;> by_cases e2 : p < 90 <;> by_cases e3 : 0 < p % 10 <;> simp [nb, oI, e0, e1, e2, e3] <;> omega⟩
    · refine V_iload0 dX5_beside_34 ?_
      refine V_bipush (nI 10) dX5_beside_35 (by decide) ?_
      first | refine V_isub_n dX5_beside_37 (by omega) ?_ | refine V_isub dX5_beside_37 ?_
      refine V_goto 42 dX5_beside_38 (by decide) ?_
      refine V_ireti dX5_beside_42 ?_
      exact ⟨rfl, by by_cases e0 : 10 ≤ p <;> by_cases e1 : p % 10 < 9 <;> by_cases e2 : p < 90 <;> by_cases e3 : 0 < p % 10 <;> simp [nb, oI, e0, e1, e2, e3] <;> omega⟩
  · refine V_tableIn 43 dX5_beside_1 (by decide) (by decide) rfl (by decide) ?_
    refine V_iload0 dX5_beside_43 ?_
    refine V_bipush (nI 10) dX5_beside_44 (by decide) ?_
    first | refine V_irem_n dX5_beside_46 (by omega) (by omega) (by omega) ?_ | refine V_irem dX5_beside_46 (by decide) ?_
    refine V_bipush (nI 9) dX5_beside_47 (by decide) ?_
    first | refine V_icmp_ge_n 58 dX5_beside_49 (by decide) (by omega) (by omega) (fun c49 => ?_) (fun c49 => ?_) | refine V_icmp_ge 58 dX5_beside_49 (by decide) (fun c49 => ?_) (fun c49 => ?_)
    · refine V_iconst (-1) dX5_beside_58 (by decide) ?_
      refine V_ireti dX5_beside_59 ?_
      exact ⟨rfl, by by_cases e0 : 10 ≤ p <;> by_cases e1 : p % 10 < 9 <;> by_cases e2 : p < 90 <;> by_cases e3 : 0 < p % 10 <;> simp [nb, oI, e0, e1, e2, e3] <;> omega⟩
    · refine V_iload0 dX5_beside_52 ?_
      refine V_iconst (nI 1) dX5_beside_53 (by decide) ?_
      first | refine V_iadd_n dX5_beside_54 ?_ | refine V_iadd dX5_beside_54 ?_
      refine V_goto 59 dX5_beside_55 (by decide) ?_
      refine V_ireti dX5_beside_59 ?_
      exact ⟨rfl, by by_cases e0 : 10 ≤ p <;> by_cases e1 : p % 10 < 9 <;> by_cases e2 : p < 90 <;> by_cases e3 : 0 < p % 10 <;> simp [nb, oI, e0, e1, e2, e3] <;> omega⟩
  · refine V_tableIn 60 dX5_beside_1 (by decide) (by decide) rfl (by decide) ?_
    refine V_iload0 dX5_beside_60 ?_
    refine V_bipush (nI 90) dX5_beside_61 (by decide) ?_
    first | refine V_icmp_ge_n 73 dX5_beside_63 (by decide) (by omega) (by omega) (fun c63 => ?_) (fun c63 => ?_) | refine V_icmp_ge 73 dX5_beside_63 (by decide) (fun c63 => ?_) (fun c63 => ?_)
    · refine V_iconst (-1) dX5_beside_73 (by decide) ?_
      refine V_ireti dX5_beside_74 ?_
      exact ⟨rfl, by by_cases e0 : 10 ≤ p <;> by_cases e1 : p % 10 < 9 <;> by_cases e2 : p < 90 <;> by_cases e3 : 0 < p % 10 <;> simp [nb, oI, e0, e1, e2, e3] <;> omega⟩
    · refine V_iload0 dX5_beside_66 ?_
      refine V_bipush (nI 10) dX5_beside_67 (by decide) ?_
      first | refine V_iadd_n dX5_beside_69 ?_ | refine V_iadd dX5_beside_69 ?_
      refine V_goto 74 dX5_beside_70 (by decide) ?_
      refine V_ireti dX5_beside_74 ?_
      exact ⟨rfl, by by_cases e0 : 10 ≤ p <;> by_cases e1 : p % 10 < 9 <;> by_cases e2 : p < 90 <;> by_cases e3 : 0 < p % 10 <;> simp [nb, oI, e0, e1, e2, e3] <;> omega⟩
  · refine V_tableOut 75 dX5_beside_1 (by decide) (by decide) ?_
    refine V_iload0 dX5_beside_75 ?_
    refine V_bipush (nI 10) dX5_beside_76 (by decide) ?_
    first | refine V_irem_n dX5_beside_78 (by omega) (by omega) (by omega) ?_ | refine V_irem dX5_beside_78 (by decide) ?_
    first | refine V_if_le_n 88 dX5_beside_79 (by decide) (by omega) (fun c79 => ?_) (fun c79 => ?_) | refine V_if_le 88 dX5_beside_79 (by decide) (fun c79 => ?_) (fun c79 => ?_)
    · refine V_iconst (-1) dX5_beside_88 (by decide) ?_
      refine V_ireti dX5_beside_89 ?_
      exact ⟨rfl, by by_cases e0 : 10 ≤ p <;> by_cases e1 : p % 10 < 9 <;> by_cases e2 : p < 90 <;> by_cases e3 : 0 < p % 10 <;> simp [nb, oI, e0, e1, e2, e3] <;> omega⟩
    · refine V_iload0 dX5_beside_82 ?_
      refine V_iconst (nI 1) dX5_beside_83 (by decide) ?_
      first | refine V_isub_n dX5_beside_84 (by omega) ?_ | refine V_isub dX5_beside_84 ?_
      refine V_goto 89 dX5_beside_85 (by decide) ?_
      refine V_ireti dX5_beside_89 ?_
      exact ⟨rfl, by by_cases e0 : 10 ≤ p <;> by_cases e1 : p % 10 < 9 <;> by_cases e2 : p < 90 <;> by_cases e3 : 0 < p % 10 <;> simp [nb, oI, e0, e1, e2, e3] <;> omega⟩
set_option maxRecDepth 4000 in
theorem m_X5_sideBetween (G : GE) (h : Mem) (p q d : Nat) (hp : p < 100) (hq : q < 100) (hd : d < 4) : Ct idsA G yX5_sideBetween cX5_sideBetween 3 (some .int) (rmD 1) [.int (nI p), .int (nI q), .int (nI d)] h (Qi fun r h' => h' = h ∧ r = nI (sA p q d)) := by
  refine Ct.of [some (.int (nI p)), some (.int (nI q)), some (.int (nI d))] (by decide) (Nat.le_of_ble_eq_true rfl) (lvE_ok 0 rfl) ?_
  refine V_iload0 dX5_sideBetween_0 ?_
  refine V_iload1 dX5_sideBetween_1 ?_
  refine kX5_265 (by decide) (Nat.le_of_ble_eq_true rfl) dX5_sideBetween_2 ?_
  rw [show (if nI q < nI p then nI q else nI p) = nI (min p q) by simp only [nI_ltI (show q < 2 ^ 31 by omega) (show p < 2 ^ 31 by omega), Nat.min_def]; split <;> split <;> first | rfl | (congr 1; omega)]
  refine V_iconst (nI 2) dX5_sideBetween_5 (by decide) ?_
  first | refine V_imul_n dX5_sideBetween_6 ?_ | refine V_imul dX5_sideBetween_6 ?_
  refine V_iload2 dX5_sideBetween_7 ?_
  refine V_iconst (nI 2) dX5_sideBetween_8 (by decide) ?_
  first | refine V_irem_n dX5_sideBetween_9 (by omega) (by omega) (by omega) ?_ | refine V_irem dX5_sideBetween_9 (by decide) ?_
  first | refine V_iadd_n dX5_sideBetween_10 ?_ | refine V_iadd dX5_sideBetween_10 ?_
  refine V_ireti dX5_sideBetween_11 ?_
  exact ⟨rfl, rfl⟩
