section VA
variable {ids : List Nat} {G : GE} {own : String} {cc : ByteArray} {nL : Nat} {ret : Option FieldType} {R : Room} {pc : Nat} {lv : List OV} {st : List Value} {h : Mem} {Q : Option Value → Mem → Prop}
theorem V_iand_n {a b : Nat} (hd : decode cc pc = .ok (.iand, 1)) (k : V ids G own cc nL ret R (pc + 1) lv (.int (nI (a &&& b)) :: st) h Q) : V ids G own cc nL ret R pc lv (.int (nI b) :: .int (nI a) :: st) h Q := V_iand hd (by rw [fa_and]; exact k)
theorem V_ior_n {a b : Nat} (hd : decode cc pc = .ok (.ior, 1)) (k : V ids G own cc nL ret R (pc + 1) lv (.int (nI (a ||| b)) :: st) h Q) : V ids G own cc nL ret R pc lv (.int (nI b) :: .int (nI a) :: st) h Q := V_ior hd (by rw [fa_or]; exact k)
theorem V_ixor_n {a b : Nat} (hd : decode cc pc = .ok (.ixor, 1)) (k : V ids G own cc nL ret R (pc + 1) lv (.int (nI (a ^^^ b)) :: st) h Q) : V ids G own cc nL ret R pc lv (.int (nI b) :: .int (nI a) :: st) h Q := V_ixor hd (by rw [fb_xorI]; exact k)
end VA
theorem ct_t {p : Nat → Bool} {n : Nat} (h : p n = true) : fb_ct p n + 1 = fb_ct p (n + 1) := by rw [fb_ct_succ, if_pos h]
theorem ct_f {p : Nat → Bool} {n : Nat} (h : p n = false) : fb_ct p n = fb_ct p (n + 1) := by rw [fb_ct_succ, if_neg (by rw [h]; decide)]; rfl
theorem or_lt12 {a b : Nat} (ha : a < 4096) (hb : b < 4096) : a ||| b < 4096 := Nat.or_lt_two_pow (n := 12) ha hb
def popc (x : Nat) : Nat := fb_ct (fun i => x.testBit i) 12
theorem popc_le (x : Nat) : popc x ≤ 12 := fb_ct_le _ 12
theorem nb_lt {p d q : Nat} (hp : p < 100) (h : nb p d = some q) : q < 100 := by
  unfold nb at h
  repeat' split at h
  all_goals first | cases h; omega | cases h
theorem sA_lt {p q d : Nat} (hp : p < 100) : sA p q d < 200 := by
  unfold sA
  have := Nat.min_le_left p q
  have := Nat.mod_lt d (show 0 < 2 by decide)
  omega
def lfM (M : Nat → Nat) (p d : Nat) : Nat := match nb p d with
  | none => 0
  | some q => M (sA p q d)
/-- the row linesBy holds the masks M -/
def hasM (M : Nat → Nat) (h : Mem) : Prop := (∀ s, s < 200 → h 10 s = nI (M s)) ∧ ∀ s, M s < 4096
theorem lfM_lt {M : Nat → Nat} (hM : ∀ s, M s < 4096) (p d : Nat) : lfM M p d < 4096 := by
  unfold lfM
  split
  · decide
  · exact hM _
theorem and_lt12 {a b : Nat} (h : a < 4096) : a &&& b < 4096 := Nat.lt_of_le_of_lt Nat.and_le_left h
set_option maxRecDepth 4000 in
theorem m_J6_bitCount_0f7a4 (G : GE) (h : Mem) (x : Nat) (hx : x < 4096) : Ct idsA G yJ6_bitCount_0f7a4 cJ6_bitCount_0f7a4 1 (some .int) (rmD 0) [.int (nI x)] h (Qi fun r h' => h' = h ∧ r = nI (popc x)) := by
  refine Ct.of [some (.int (nI x))] (by decide) (Nat.le_of_ble_eq_true rfl) (lvE_ok 0 rfl) ?_
  refine V_iload0 dJ6_bitCount_0f7a4_0 ?_
  refine V_iload0 dJ6_bitCount_0f7a4_1 ?_
  refine V_iconst (nI 1) dJ6_bitCount_0f7a4_2 (by decide) ?_
  refine V_iushr dJ6_bitCount_0f7a4_3 ?_
  refine V_ldc_w ct_J6_265 dJ6_bitCount_0f7a4_4 ?_
  first | refine V_iand_n dJ6_bitCount_0f7a4_7 ?_ | refine V_iand dJ6_bitCount_0f7a4_7 ?_
  first | refine V_isub_n dJ6_bitCount_0f7a4_8 (by omega) ?_ | refine V_isub dJ6_bitCount_0f7a4_8 ?_
  refine V_istore0 dJ6_bitCount_0f7a4_9 (by decide) ?_
  refine V_iload0 dJ6_bitCount_0f7a4_10 ?_
  refine V_ldc_w ct_J6_266 dJ6_bitCount_0f7a4_11 ?_
  first | refine V_iand_n dJ6_bitCount_0f7a4_14 ?_ | refine V_iand dJ6_bitCount_0f7a4_14 ?_
  refine V_iload0 dJ6_bitCount_0f7a4_15 ?_
  refine V_iconst (nI 2) dJ6_bitCount_0f7a4_16 (by decide) ?_
  refine V_iushr dJ6_bitCount_0f7a4_17 ?_
  refine V_ldc_w ct_J6_266 dJ6_bitCount_0f7a4_18 ?_
  first | refine V_iand_n dJ6_bitCount_0f7a4_21 ?_ | refine V_iand dJ6_bitCount_0f7a4_21 ?_
  first | refine V_iadd_n dJ6_bitCount_0f7a4_22 ?_ | refine V_iadd dJ6_bitCount_0f7a4_22 ?_
  refine V_istore0 dJ6_bitCount_0f7a4_23 (by decide) ?_
  refine V_iload0 dJ6_bitCount_0f7a4_24 ?_
  refine V_iload0 dJ6_bitCount_0f7a4_25 ?_
  refine V_iconst (nI 4) dJ6_bitCount_0f7a4_26 (by decide) ?_
  refine V_iushr dJ6_bitCount_0f7a4_27 ?_
  first | refine V_iadd_n dJ6_bitCount_0f7a4_28 ?_ | refine V_iadd dJ6_bitCount_0f7a4_28 ?_
  refine V_ldc_w ct_J6_267 dJ6_bitCount_0f7a4_29 ?_
  first | refine V_iand_n dJ6_bitCount_0f7a4_32 ?_ | refine V_iand dJ6_bitCount_0f7a4_32 ?_
  refine V_istore0 dJ6_bitCount_0f7a4_33 (by decide) ?_
  refine V_iload0 dJ6_bitCount_0f7a4_34 ?_
  refine V_iload0 dJ6_bitCount_0f7a4_35 ?_
  refine V_bipush (nI 8) dJ6_bitCount_0f7a4_36 (by decide) ?_
  refine V_iushr dJ6_bitCount_0f7a4_38 ?_
  first | refine V_iadd_n dJ6_bitCount_0f7a4_39 ?_ | refine V_iadd dJ6_bitCount_0f7a4_39 ?_
  refine V_istore0 dJ6_bitCount_0f7a4_40 (by decide) ?_
  refine V_iload0 dJ6_bitCount_0f7a4_41 ?_
  refine V_iload0 dJ6_bitCount_0f7a4_42 ?_
  refine V_bipush (nI 16) dJ6_bitCount_0f7a4_43 (by decide) ?_
  refine V_iushr dJ6_bitCount_0f7a4_45 ?_
  first | refine V_iadd_n dJ6_bitCount_0f7a4_46 ?_ | refine V_iadd dJ6_bitCount_0f7a4_46 ?_
  refine V_istore0 dJ6_bitCount_0f7a4_47 (by decide) ?_
  refine V_iload0 dJ6_bitCount_0f7a4_48 ?_
  refine V_bipush (nI 63) dJ6_bitCount_0f7a4_49 (by decide) ?_
  first | refine V_iand_n dJ6_bitCount_0f7a4_51 ?_ | refine V_iand dJ6_bitCount_0f7a4_51 ?_
  refine V_ireti dJ6_bitCount_0f7a4_52 ?_
  refine ⟨rfl, ?_⟩
  revert x
  decide +kernel
