set_option maxRecDepth 8000 in
theorem law_loop (GA GB : GE) (eG : GB = (GA.1, GA.2.1, GA.2.2.1, GB.2.2.2)) (b L : Nat) (xs : Nat → Int32) (hL : L ≤ 3072) (i : Nat) (S : St) (hA hB : Mem) (hi : i ≤ L) (iS : Ok S) (ra : RA S hA) (rb : RB S hB) : LV GA GB b L xs RL cL_law 4 18 [some (.ref b), some (.ref (ad GA 0)), some (.ref (ad GB 100)), some (.int (nI i))] [] hA hB := by
  induction hn : L - i using Nat.strongRecOn generalizing i S hA hB with
  | _ n ih =>
    subst hn
    refine L_iload3 dL_law_18 ?_
    refine L_aload0 dL_law_19 ?_
    refine L_slen dL_law_20 ?_
    refine L_bipush (nI 6) dL_law_21 (by decide) ?_
    refine L_isub dL_law_23 ?_
    refine L_icmp_gt 983 dL_law_24 (by decide) (fun c => ?_) (fun c => ?_)
    · refine L_iconst (nI 1) dL_law_983 (by decide) ?_
      exact L_ret rfl dL_law_984
    · have hi6 := six hL hi c
      have K : ∀ (S : St) (hA hB : Mem), Ok S → RA S hA → RB S hB → LV GA GB b L xs RL cL_law 4 977 [some (.ref b), some (.ref (ad GA 0)), some (.ref (ad GB 100)), some (.int (nI i))] [] hA hB := fun S hA hB iS ra rb => by
        refine L_iinc3_n 6 dL_law_977 (by decide) (by decide) rfl ?_
        refine L_goto 18 dL_law_980 (by decide) ?_
        exact ih _ (by omega) (i + 6) S hA hB (by omega) iS ra rb rfl
      refine L_aload0 dL_law_27 ?_
      refine L_iload3 dL_law_28 ?_
      refine L_sld rfl (show i < L by omega) (by omega) dL_law_29 ?_
      refine L_bipush (nI 31) dL_law_30 (by decide) ?_
      refine L_iand dL_law_32 ?_
      obtain ⟨k, hk, ek⟩ := and31 (xs i)
      rw [ek]
      rcases (show k = 0 ∨ k = 1 ∨ k = 2 ∨ k = 3 ∨ k = 4 ∨ k = 5 ∨ k = 6 ∨ k = 7 ∨ k = 8 ∨ k = 9 ∨ k = 10 ∨ k = 11 ∨ k = 12 ∨ k = 13 ∨ k = 14 ∨ k = 15 ∨ k = 16 ∨ k = 17 ∨ k = 18 ∨ k = 19 ∨ k = 20 ∨ k = 21 ∨ k = 22 ∨ k = 23 ∨ k = 24 ∨ k = 25 ∨ k = 26 ∨ k = 27 ∨ k = 28 ∨ k = 29 ∨ k = 30 ∨ k = 31 by omega) with rfl | rfl | rfl | rfl | rfl | rfl | rfl | rfl | rfl | rfl | rfl | rfl | rfl | rfl | rfl | rfl | rfl | rfl | rfl | rfl | rfl | rfl | rfl | rfl | rfl | rfl | rfl | rfl | rfl | rfl | rfl | rfl
      · exact L_tableIn 156 dL_law_33 (by decide) (by decide) rfl (by decide) (law_c0 GA GB eG b L xs hL i hi6 S hA hB iS ra rb K)
      · exact L_tableIn 199 dL_law_33 (by decide) (by decide) rfl (by decide) (law_c1 GA GB eG b L xs hL i hi6 S hA hB iS ra rb K)
      · exact L_tableIn 242 dL_law_33 (by decide) (by decide) rfl (by decide) (law_c2 GA GB eG b L xs hL i hi6 S hA hB iS ra rb K)
      · exact L_tableIn 305 dL_law_33 (by decide) (by decide) rfl (by decide) (law_c3 GA GB eG b L xs hL i hi6 S hA hB iS ra rb K)
      · exact L_tableIn 328 dL_law_33 (by decide) (by decide) rfl (by decide) (law_c4 GA GB eG b L xs hL i hi6 S hA hB iS ra rb K)
      · exact L_tableIn 361 dL_law_33 (by decide) (by decide) rfl (by decide) (law_c5 GA GB eG b L xs hL i hi6 S hA hB iS ra rb K)
      · exact L_tableIn 394 dL_law_33 (by decide) (by decide) rfl (by decide) (law_c6 GA GB eG b L xs hL i hi6 S hA hB iS ra rb K)
      · exact L_tableIn 427 dL_law_33 (by decide) (by decide) rfl (by decide) (law_c7 GA GB eG b L xs hL i hi6 S hA hB iS ra rb K)
      · exact L_tableIn 460 dL_law_33 (by decide) (by decide) rfl (by decide) (law_c8 GA GB eG b L xs hL i hi6 S hA hB iS ra rb K)
      · exact L_tableIn 493 dL_law_33 (by decide) (by decide) rfl (by decide) (law_c9 GA GB eG b L xs hL i hi6 S hA hB iS ra rb K)
      · exact L_tableIn 516 dL_law_33 (by decide) (by decide) rfl (by decide) (law_c10 GA GB eG b L xs hL i hi6 S hA hB iS ra rb K)
      · exact L_tableIn 569 dL_law_33 (by decide) (by decide) rfl (by decide) (law_c11 GA GB eG b L xs hL i hi6 S hA hB iS ra rb K)
      · exact L_tableIn 592 dL_law_33 (by decide) (by decide) rfl (by decide) (law_c12 GA GB eG b L xs hL i hi6 S hA hB iS ra rb K)
      · exact L_tableIn 605 dL_law_33 (by decide) (by decide) rfl (by decide) (law_c13 GA GB eG b L xs hL i hi6 S hA hB iS ra rb K)
      · exact L_tableIn 618 dL_law_33 (by decide) (by decide) rfl (by decide) (law_c14 GA GB eG b L xs hL i hi6 S hA hB iS ra rb K)
      · exact L_tableIn 651 dL_law_33 (by decide) (by decide) rfl (by decide) (law_c15 GA GB eG b L xs hL i hi6 S hA hB iS ra rb K)
      · exact L_tableIn 694 dL_law_33 (by decide) (by decide) rfl (by decide) (law_c16 GA GB eG b L xs hL i hi6 S hA hB iS ra rb K)
      · exact L_tableIn 717 dL_law_33 (by decide) (by decide) rfl (by decide) (law_c17 GA GB eG b L xs hL i hi6 S hA hB iS ra rb K)
      · exact L_tableIn 740 dL_law_33 (by decide) (by decide) rfl (by decide) (law_c18 GA GB eG b L xs hL i hi6 S hA hB iS ra rb K)
      · exact L_tableIn 773 dL_law_33 (by decide) (by decide) rfl (by decide) (law_c19 GA GB eG b L xs hL i hi6 S hA hB iS ra rb K)
      · exact L_tableIn 796 dL_law_33 (by decide) (by decide) rfl (by decide) (law_c20 GA GB eG b L xs hL i hi6 S hA hB iS ra rb K)
      · exact L_tableIn 829 dL_law_33 (by decide) (by decide) rfl (by decide) (law_c21 GA GB eG b L xs hL i hi6 S hA hB iS ra rb K)
      · exact L_tableIn 852 dL_law_33 (by decide) (by decide) rfl (by decide) (law_c22 GA GB eG b L xs hL i hi6 S hA hB iS ra rb K)
      · exact L_tableIn 885 dL_law_33 (by decide) (by decide) rfl (by decide) (law_c23 GA GB eG b L xs hL i hi6 S hA hB iS ra rb K)
      · exact L_tableIn 918 dL_law_33 (by decide) (by decide) rfl (by decide) (law_c24 GA GB eG b L xs hL i hi6 S hA hB iS ra rb K)
      · exact L_tableIn 941 dL_law_33 (by decide) (by decide) rfl (by decide) (law_c25 GA GB eG b L xs hL i hi6 S hA hB iS ra rb K)
      · exact L_tableIn 964 dL_law_33 (by decide) (by decide) rfl (by decide) (law_c26 GA GB eG b L xs hL i hi6 S hA hB iS ra rb K)
      · exact L_tableOut 977 dL_law_33 (by decide) (by decide) (K S hA hB iS ra rb)
      · exact L_tableOut 977 dL_law_33 (by decide) (by decide) (K S hA hB iS ra rb)
      · exact L_tableOut 977 dL_law_33 (by decide) (by decide) (K S hA hB iS ra rb)
      · exact L_tableOut 977 dL_law_33 (by decide) (by decide) (K S hA hB iS ra rb)
      · exact L_tableOut 977 dL_law_33 (by decide) (by decide) (K S hA hB iS ra rb)
