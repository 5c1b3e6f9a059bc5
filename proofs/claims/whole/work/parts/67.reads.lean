theorem oI_s (k : Nat) (v : Int32) : oI (some k) v = nI k := rfl
theorem oI_n (v : Int32) : oI none v = v := rfl
def endP (N : Ng) (q l : Nat) : Prop := nWy N l ≠ [] ∧ (nSt N l = q ∨ nGl N l = q)
noncomputable def endB (N : Ng) (q : Nat) : Bool := @decide (∃ l, l < nNl N ∧ endP N q l) (Classical.propDecidable _)
theorem endB_t {N : Ng} {q : Nat} : endB N q = true ↔ ∃ l, l < nNl N ∧ endP N q l := by unfold endB; exact @decide_eq_true_iff _ (Classical.propDecidable _)
def onwO (M : Nat → Nat) (p d : Nat) : Option Nat := if ¬ lfM M p d = 0 then some d else if ¬ lfM M p ((d + 1) % 4) = 0 then some ((d + 1) % 4) else if ¬ lfM M p ((d + 3) % 4) = 0 then some ((d + 3) % 4) else none
theorem onw_eq (M : Nat → Nat) (p d : Nat) : onw M p d = oI (onwO M p d) (-1) := by
  unfold onw onwO
  repeat' split
  all_goals rfl
theorem onwO_some {M : Nat → Nat} {p d d' : Nat} (hd : d < 4) (h : onwO M p d = some d') : d' < 4 ∧ ¬ lfM M p d' = 0 := by
  unfold onwO at h
  by_cases h1 : ¬ lfM M p d = 0
  · rw [if_pos h1] at h; cases h; exact ⟨hd, h1⟩
  · rw [if_neg h1] at h
    by_cases h2 : ¬ lfM M p ((d + 1) % 4) = 0
    · rw [if_pos h2] at h; cases h; exact ⟨by omega, h2⟩
    · rw [if_neg h2] at h
      by_cases h3 : ¬ lfM M p ((d + 3) % 4) = 0
      · rw [if_pos h3] at h; cases h; exact ⟨by omega, h3⟩
      · rw [if_neg h3] at h; cases h
noncomputable def rdF (N : Ng) (st : Nat) : Nat → Nat → Nat → Nat
  | 0, p, _ => p
  | n + 1, p, d => ite' (stp p d ≠ st ∧ endB N (stp p d) = true) (stp p d) (match onwO (nMk N) (stp p d) d with
    | none => stp p d
    | some d' => rdF N st n (stp p d) d')
noncomputable def vReads (N : Ng) (x d : Int32) : Int32 := ite' (inR x (nNp N) ∧ inR d 4) (ite' (lfM (nMk N) (nPp N (cl x)) (cl d) = 0) (-1000002) (oI (ptF (nPp N) (nNp N) (rdF N (nPp N (cl x)) 100 (nPp N (cl x)) (cl d))) (-1000000))) (-1000001)
noncomputable def O_reads (S : St) (x d : Int32) : Int32 × St := (vReads S.2.1 x d, S)
theorem popc_zero {x : Nat} (hx : x < 4096) : popc x = 0 ↔ x = 0 := by
  constructor
  · intro h
    apply ext12 hx (by decide)
    intro k hk
    have := (fb_ct_zero (p := fun i => x.testBit i)).mp h k hk
    simpa using this
  · intro h
    rw [h]
    exact fb_ct_zero.mpr (fun k _ => by simp)
theorem V_post {ids : List Nat} {G : GE} {own : String} {cc : ByteArray} {nL : Nat} {ret : Option FieldType} {R : Room} {pc : Nat} {lv : List OV} {st : List Value} {h : Mem} {Q Q' : Option Value → Mem → Prop} (k : V ids G own cc nL ret R pc lv st h Q) (hq : ∀ v h', Q v h' → Q' v h') : V ids G own cc nL ret R pc lv st h Q' := by
  intro p e s m args below meth c H locs ls A hC hr hK hP hD hS hl
  intro T hT X
  obtain ⟨t, h1, o, h2, h3, ⟨⟨v, h', h4, h5, h6⟩, h7⟩, h8⟩ := k p e s m args below meth c H locs ls A hC hr hK hP hD hS hl T hT X
  exact ⟨t, h1, o, h2, h3, ⟨⟨v, h', h4, hq v h' h5, h6⟩, h7⟩, h8⟩
set_option maxRecDepth 4000 in
theorem l_X5_isEndOfWay (G : GE) (h : Mem) (N : Ng) (i : Inv N) (r : RAn N h) (q : Nat) (hq : q < 100) (k : Nat) (hk : k ≤ nNl N) (hno : ∀ l, l < k → ¬ endP N q l) : V idsA G RX5 cX5_isEndOfWay 3 (some .boolean) (rmD 1) 2 [some (.ref (ad G 0)), some (.int (nI q)), some (.int (nI k))] [] h (Qi (fun v h' => h' = h ∧ v = bz (endB N q = true))) := by
  induction hn : nNl N - k using Nat.strongRecOn generalizing k with
  | _ n ih =>
    subst hn
    have hnl := i.nl
    have hlen := i.len (l := k)
    refine V_iload2 dX5_isEndOfWay_2 ?_
    refine V_aload0 dX5_isEndOfWay_3 ?_
    refine gX5_129 dX5_isEndOfWay_4 ?_
    rw [r.2.1]
    first | refine V_icmp_ge_n 56 dX5_isEndOfWay_7 (by decide) (by omega) (by omega) (fun c7 => ?_) (fun c7 => ?_) | refine V_icmp_ge 56 dX5_isEndOfWay_7 (by decide) (fun c7 => ?_) (fun c7 => ?_)
    · refine V_iconst (nI 0) dX5_isEndOfWay_56 (by decide) ?_
      refine V_zreti dX5_isEndOfWay_57 (by first | exact bz_01 | exact nI_01 (Or.inl rfl) | exact nI_01 (Or.inr rfl) | assumption) ?_
      exact ⟨rfl, bz_r0 (fun z => by obtain ⟨l, h1, h2⟩ := endB_t.mp z; exact hno l (by omega) h2)⟩
    · have hkl : k < nNl N := by omega
      have s1 := i.st hkl
      have s2 := i.gl hkl
      refine V_aload0 dX5_isEndOfWay_10 ?_
      refine gX5_21 dX5_isEndOfWay_11 ?_
      refine V_iload2 dX5_isEndOfWay_14 ?_
      refine V_aaloadL (by decide) rfl (by first | assumption | omega) dX5_isEndOfWay_15 ?_
      refine kX5_169 (by first | assumption | omega) (m_X1_hasWay _ _ k (nWy N k).length (by omega) (RAn.len i r (by omega)) (by omega)) (rOK_d (by decide) (by decide)) (Nat.le_of_ble_eq_true rfl) dX5_isEndOfWay_16 (fun r16 h16 hq16 => ?_)
      obtain ⟨e_, rfl⟩ := hq16
      replace e_ := e_.symm
      subst e_
      first | refine V_if_eq_z 50 dX5_isEndOfWay_19 (by decide) (fun c19 => ?_) (fun c19 => ?_) | refine V_if_eq_n 50 dX5_isEndOfWay_19 (by decide) (by omega) (fun c19 => ?_) (fun c19 => ?_) | refine V_if_eq 50 dX5_isEndOfWay_19 (by decide) (fun c19 => ?_) (fun c19 => ?_)
      · first | refine V_iinc2_n 1 dX5_isEndOfWay_50 (by decide) (by decide) rfl ?_ | refine V_iinc2 (nI 1) dX5_isEndOfWay_50 (by decide) (by decide) rfl ?_
        refine V_goto 2 dX5_isEndOfWay_53 (by decide) ?_
        exact ih _ (by omega) (k + 1) (by omega) (lt_s hno (fun z => by first | exact z.2.elim c32 c45 | exact z.1 (len0.mp c19))) rfl
      · refine V_aload0 dX5_isEndOfWay_22 ?_
        refine gX5_21 dX5_isEndOfWay_23 ?_
        refine V_iload2 dX5_isEndOfWay_26 ?_
        refine V_aaloadL (by decide) rfl (by first | assumption | omega) dX5_isEndOfWay_27 ?_
        refine gX5_277 (by first | assumption | omega) dX5_isEndOfWay_28 ?_
        rw [(r.L hkl).2.1]
        refine V_iload1 dX5_isEndOfWay_31 ?_
        first | refine V_icmp_eq_n 48 dX5_isEndOfWay_32 (by decide) (by omega) (by omega) (fun c32 => ?_) (fun c32 => ?_) | refine V_icmp_eq 48 dX5_isEndOfWay_32 (by decide) (fun c32 => ?_) (fun c32 => ?_)
        · refine V_iconst (nI 1) dX5_isEndOfWay_48 (by decide) ?_
          refine V_zreti dX5_isEndOfWay_49 (by first | exact bz_01 | exact nI_01 (Or.inl rfl) | exact nI_01 (Or.inr rfl) | assumption) ?_
          exact ⟨rfl, bz_r1 (endB_t.mpr ⟨k, hkl, fun z => len0.mpr z c19, by first | exact Or.inr c45 | exact Or.inl c32⟩)⟩
        · refine V_aload0 dX5_isEndOfWay_35 ?_
          refine gX5_21 dX5_isEndOfWay_36 ?_
          refine V_iload2 dX5_isEndOfWay_39 ?_
          refine V_aaloadL (by decide) rfl (by first | assumption | omega) dX5_isEndOfWay_40 ?_
          refine gX5_280 (by first | assumption | omega) dX5_isEndOfWay_41 ?_
          rw [(r.L hkl).2.2.1]
          refine V_iload1 dX5_isEndOfWay_44 ?_
          first | refine V_icmp_ne_n 50 dX5_isEndOfWay_45 (by decide) (by omega) (by omega) (fun c45 => ?_) (fun c45 => ?_) | refine V_icmp_ne 50 dX5_isEndOfWay_45 (by decide) (fun c45 => ?_) (fun c45 => ?_)
          · first | refine V_iinc2_n 1 dX5_isEndOfWay_50 (by decide) (by decide) rfl ?_ | refine V_iinc2 (nI 1) dX5_isEndOfWay_50 (by decide) (by decide) rfl ?_
            refine V_goto 2 dX5_isEndOfWay_53 (by decide) ?_
            exact ih _ (by omega) (k + 1) (by omega) (lt_s hno (fun z => by first | exact z.2.elim c32 c45 | exact z.1 (len0.mp c19))) rfl
          · refine V_iconst (nI 1) dX5_isEndOfWay_48 (by decide) ?_
            refine V_zreti dX5_isEndOfWay_49 (by first | exact bz_01 | exact nI_01 (Or.inl rfl) | exact nI_01 (Or.inr rfl) | assumption) ?_
            exact ⟨rfl, bz_r1 (endB_t.mpr ⟨k, hkl, fun z => len0.mpr z c19, by first | exact Or.inr c45 | exact Or.inl c32⟩)⟩
set_option maxRecDepth 4000 in
theorem m_X5_isEndOfWay (G : GE) (h : Mem) (N : Ng) (i : Inv N) (r : RAn N h) (q : Nat) (hq : q < 100) : Ct idsA G yX5_isEndOfWay cX5_isEndOfWay 3 (some .boolean) (rmD 1) [.ref (ad G 0), .int (nI q)] h (Qi fun v h' => h' = h ∧ v = bz (endB N q = true)) := by
  refine Ct.of [some (.ref (ad G 0)), some (.int (nI q)), none] (by decide) (Nat.le_of_ble_eq_true rfl) (lvE_ok 1 rfl) ?_
  refine V_iconst (nI 0) dX5_isEndOfWay_0 (by decide) ?_
  refine V_istore2 dX5_isEndOfWay_1 (by decide) rfl ?_
  exact l_X5_isEndOfWay G h N i r q hq 0 (Nat.zero_le _) (fun _ z => absurd z (Nat.not_lt_zero _))
set_option maxRecDepth 4000 in
theorem l_X5_reads (G : GE) (h : Mem) (N : Ng) (i : Inv N) (r : RAn N h) (x d0 : Int32) (st : Nat) (hst : st < 100) (p d g : Nat) (hg : g ≤ 100) (hp : p < 100) (hd : d < 4) (hlf : ¬ lfM (nMk N) p d = 0) : V idsA G RX5 cX5_reads 7 (some .int) (rmD 4) 49 [some (.ref (ad G 0)), some (.int x), some (.int d0), some (.int (nI st)), some (.int (nI p)), some (.int (nI d)), some (.int (nI g))] [] h (Qi (fun v h' => h' = h ∧ v = oI (ptF (nPp N) (nNp N) (rdF N st (100 - g) p d)) (-1000000))) := by
  induction hn : 100 - g using Nat.strongRecOn generalizing p d g with
  | _ n ih =>
    subst hn
    refine V_iload6 dX5_reads_49 ?_
    refine V_bipush (nI 100) dX5_reads_51 (by decide) ?_
    first | refine V_icmp_ge_n 116 dX5_reads_53 (by decide) (by omega) (by omega) (fun c53 => ?_) (fun c53 => ?_) | refine V_icmp_ge 116 dX5_reads_53 (by decide) (fun c53 => ?_) (fun c53 => ?_)
    · refine V_aload0 dX5_reads_116 ?_
      refine gX5_28 dX5_reads_117 ?_
      refine gX5_110 dX5_reads_120 ?_
      refine V_iload4 dX5_reads_123 ?_
      refine V_iaload (by decide) aI_9 (by decide) rfl (by first | assumption | omega) dX5_reads_125 ?_
      rw [r.2.2.2.2.1 _ hp]
      refine V_ireti dX5_reads_126 ?_
      obtain rfl : g = 100 := by omega
      exact ⟨rfl, rfl⟩
    · refine V_iload5 dX5_reads_56 ?_
      first | refine V_if_lt_n 116 dX5_reads_58 (by decide) (by omega) (fun c58 => ?_) (fun c58 => ?_) | refine V_if_lt 116 dX5_reads_58 (by decide) (fun c58 => ?_) (fun c58 => ?_)
      · exact c58.elim --end
      · obtain ⟨q, e⟩ : ∃ q, nb p d = some q := by
          cases e : nb p d with
          | none => exfalso; apply hlf; unfold lfM; rw [e]
          | some q => exact ⟨q, rfl⟩
        have hq := nb_lt hp e
        refine V_iload4 dX5_reads_61 ?_
        refine V_iload5 dX5_reads_63 ?_
        refine kX5_225 (m_X5_beside _ _ _ _ (by first | assumption | omega) (by first | assumption | omega)) (rOK_d (by decide) (by decide)) (Nat.le_of_ble_eq_true rfl) dX5_reads_65 (fun r65 h65 hq65 => ?_)
        obtain ⟨e_, rfl⟩ := hq65
        replace e_ := e_.symm
        subst e_
        rw [e, oI_s]
        refine V_istore4 dX5_reads_68 (by decide) rfl ?_
        refine V_iload4 dX5_reads_70 ?_
        first | refine V_if_ge_n 78 dX5_reads_72 (by decide) (by omega) (fun c72 => ?_) (fun c72 => ?_) | refine V_if_ge 78 dX5_reads_72 (by decide) (fun c72 => ?_) (fun c72 => ?_)
        · refine V_iload4 dX5_reads_78 ?_
          refine V_iload3 dX5_reads_80 ?_
          first | refine V_icmp_eq_n 97 dX5_reads_81 (by decide) (by omega) (by omega) (fun c81 => ?_) (fun c81 => ?_) | refine V_icmp_eq 97 dX5_reads_81 (by decide) (fun c81 => ?_) (fun c81 => ?_)
          · refine V_aload0 dX5_reads_97 ?_
            refine gX5_28 dX5_reads_98 ?_
            refine V_iload4 dX5_reads_101 ?_
            refine V_iload5 dX5_reads_103 ?_
            refine kX5_231 (m_X2_onward _ _ (nMk N) r.M q d hq hd) (rOK_d (by decide) (by decide)) (Nat.le_of_ble_eq_true rfl) dX5_reads_105 (fun r105 h105 hq105 => ?_)
            obtain ⟨e_, rfl⟩ := hq105
            replace e_ := e_.symm
            subst e_
            rw [onw_eq]
            have hgo : ¬ (q ≠ st ∧ endB N q = true) := fun z => by first | exact c90 z.2 | exact z.1 c81
            cases e2 : onwO (nMk N) q d with
            | none =>
              rw [oI_n]
              refine V_istore5 dX5_reads_108 (by decide) rfl ?_
              first | refine V_iinc6_n 1 dX5_reads_110 (by decide) (by decide) rfl ?_ | refine V_iinc6 (nI 1) dX5_reads_110 (by decide) (by decide) rfl ?_
              refine V_goto 49 dX5_reads_113 (by decide) ?_
              refine V_iload6 dX5_reads_49 ?_
              refine V_bipush (nI 100) dX5_reads_51 (by decide) ?_
              first | refine V_icmp_ge_n 116 dX5_reads_53 (by decide) (by omega) (by omega) (fun c53 => ?_) (fun c53 => ?_) | refine V_icmp_ge 116 dX5_reads_53 (by decide) (fun c53 => ?_) (fun c53 => ?_)
              · refine V_aload0 dX5_reads_116 ?_
                refine gX5_28 dX5_reads_117 ?_
                refine gX5_110 dX5_reads_120 ?_
                refine V_iload4 dX5_reads_123 ?_
                refine V_iaload (by decide) aI_9 (by decide) rfl (by first | assumption | omega) dX5_reads_125 ?_
                rw [r.2.2.2.2.1 _ hq]
                refine V_ireti dX5_reads_126 ?_
                rw [show 100 - g = (99 - g) + 1 by omega, rdF, stp_eq e]
                rw [ite_f hgo, e2]
                exact ⟨rfl, rfl⟩
              · refine V_iload5 dX5_reads_56 ?_
                first | refine V_if_lt_n 116 dX5_reads_58 (by decide) (by omega) (fun c58 => ?_) (fun c58 => ?_) | refine V_if_lt 116 dX5_reads_58 (by decide) (fun c58 => ?_) (fun c58 => ?_)
                · refine V_aload0 dX5_reads_116 ?_
                  refine gX5_28 dX5_reads_117 ?_
                  refine gX5_110 dX5_reads_120 ?_
                  refine V_iload4 dX5_reads_123 ?_
                  refine V_iaload (by decide) aI_9 (by decide) rfl (by first | assumption | omega) dX5_reads_125 ?_
                  rw [r.2.2.2.2.1 _ hq]
                  refine V_ireti dX5_reads_126 ?_
                  rw [show 100 - g = (99 - g) + 1 by omega, rdF, stp_eq e]
                  rw [ite_f hgo, e2]
                  exact ⟨rfl, rfl⟩
                · exact absurd (by decide) c58 --end
            | some d2 =>
              obtain ⟨hd2, hl2⟩ := onwO_some hd e2
              rw [oI_s]
              refine V_istore5 dX5_reads_108 (by decide) rfl ?_
              first | refine V_iinc6_n 1 dX5_reads_110 (by decide) (by decide) rfl ?_ | refine V_iinc6 (nI 1) dX5_reads_110 (by decide) (by decide) rfl ?_
              refine V_goto 49 dX5_reads_113 (by decide) ?_
              rw [show oI (ptF (nPp N) (nNp N) (rdF N st (100 - g) p d)) (-1000000) = oI (ptF (nPp N) (nNp N) (rdF N st (100 - (g + 1)) q d2)) (-1000000) by rw [show 100 - g = (100 - (g + 1)) + 1 by omega, rdF, stp_eq e, ite_f hgo, e2]]
              exact ih _ (by omega) q d2 (g + 1) (by omega) hq hd2 hl2 rfl
          · refine V_aload0 dX5_reads_84 ?_
            refine V_iload4 dX5_reads_85 ?_
            refine kX5_228 (m_X5_isEndOfWay _ _ N i r q hq) (rOK_d (by decide) (by decide)) (Nat.le_of_ble_eq_true rfl) dX5_reads_87 (fun r87 h87 hq87 => ?_)
            obtain ⟨e_, rfl⟩ := hq87
            replace e_ := e_.symm
            subst e_
            first | refine V_if_eq_z 97 dX5_reads_90 (by decide) (fun c90 => ?_) (fun c90 => ?_) | refine V_if_eq_n 97 dX5_reads_90 (by decide) (by omega) (fun c90 => ?_) (fun c90 => ?_) | refine V_if_eq 97 dX5_reads_90 (by decide) (fun c90 => ?_) (fun c90 => ?_)
            · refine V_aload0 dX5_reads_97 ?_
              refine gX5_28 dX5_reads_98 ?_
              refine V_iload4 dX5_reads_101 ?_
              refine V_iload5 dX5_reads_103 ?_
              refine kX5_231 (m_X2_onward _ _ (nMk N) r.M q d hq hd) (rOK_d (by decide) (by decide)) (Nat.le_of_ble_eq_true rfl) dX5_reads_105 (fun r105 h105 hq105 => ?_)
              obtain ⟨e_, rfl⟩ := hq105
              replace e_ := e_.symm
              subst e_
              rw [onw_eq]
              have hgo : ¬ (q ≠ st ∧ endB N q = true) := fun z => by first | exact c90 z.2 | exact z.1 c81
              cases e2 : onwO (nMk N) q d with
              | none =>
                rw [oI_n]
                refine V_istore5 dX5_reads_108 (by decide) rfl ?_
                first | refine V_iinc6_n 1 dX5_reads_110 (by decide) (by decide) rfl ?_ | refine V_iinc6 (nI 1) dX5_reads_110 (by decide) (by decide) rfl ?_
                refine V_goto 49 dX5_reads_113 (by decide) ?_
                refine V_iload6 dX5_reads_49 ?_
                refine V_bipush (nI 100) dX5_reads_51 (by decide) ?_
                first | refine V_icmp_ge_n 116 dX5_reads_53 (by decide) (by omega) (by omega) (fun c53 => ?_) (fun c53 => ?_) | refine V_icmp_ge 116 dX5_reads_53 (by decide) (fun c53 => ?_) (fun c53 => ?_)
                · refine V_aload0 dX5_reads_116 ?_
                  refine gX5_28 dX5_reads_117 ?_
                  refine gX5_110 dX5_reads_120 ?_
                  refine V_iload4 dX5_reads_123 ?_
                  refine V_iaload (by decide) aI_9 (by decide) rfl (by first | assumption | omega) dX5_reads_125 ?_
                  rw [r.2.2.2.2.1 _ hq]
                  refine V_ireti dX5_reads_126 ?_
                  rw [show 100 - g = (99 - g) + 1 by omega, rdF, stp_eq e]
                  rw [ite_f hgo, e2]
                  exact ⟨rfl, rfl⟩
                · refine V_iload5 dX5_reads_56 ?_
                  first | refine V_if_lt_n 116 dX5_reads_58 (by decide) (by omega) (fun c58 => ?_) (fun c58 => ?_) | refine V_if_lt 116 dX5_reads_58 (by decide) (fun c58 => ?_) (fun c58 => ?_)
                  · refine V_aload0 dX5_reads_116 ?_
                    refine gX5_28 dX5_reads_117 ?_
                    refine gX5_110 dX5_reads_120 ?_
                    refine V_iload4 dX5_reads_123 ?_
                    refine V_iaload (by decide) aI_9 (by decide) rfl (by first | assumption | omega) dX5_reads_125 ?_
                    rw [r.2.2.2.2.1 _ hq]
                    refine V_ireti dX5_reads_126 ?_
                    rw [show 100 - g = (99 - g) + 1 by omega, rdF, stp_eq e]
                    rw [ite_f hgo, e2]
                    exact ⟨rfl, rfl⟩
                  · exact absurd (by decide) c58 --end
              | some d2 =>
                obtain ⟨hd2, hl2⟩ := onwO_some hd e2
                rw [oI_s]
                refine V_istore5 dX5_reads_108 (by decide) rfl ?_
                first | refine V_iinc6_n 1 dX5_reads_110 (by decide) (by decide) rfl ?_ | refine V_iinc6 (nI 1) dX5_reads_110 (by decide) (by decide) rfl ?_
                refine V_goto 49 dX5_reads_113 (by decide) ?_
                rw [show oI (ptF (nPp N) (nNp N) (rdF N st (100 - g) p d)) (-1000000) = oI (ptF (nPp N) (nNp N) (rdF N st (100 - (g + 1)) q d2)) (-1000000) by rw [show 100 - g = (100 - (g + 1)) + 1 by omega, rdF, stp_eq e, ite_f hgo, e2]]
                exact ih _ (by omega) q d2 (g + 1) (by omega) hq hd2 hl2 rfl
            · refine V_iconst (-1) dX5_reads_93 (by decide) ?_
              refine V_goto 108 dX5_reads_94 (by decide) ?_
              refine V_istore5 dX5_reads_108 (by decide) rfl ?_
              first | refine V_iinc6_n 1 dX5_reads_110 (by decide) (by decide) rfl ?_ | refine V_iinc6 (nI 1) dX5_reads_110 (by decide) (by decide) rfl ?_
              refine V_goto 49 dX5_reads_113 (by decide) ?_
              refine V_iload6 dX5_reads_49 ?_
              refine V_bipush (nI 100) dX5_reads_51 (by decide) ?_
              first | refine V_icmp_ge_n 116 dX5_reads_53 (by decide) (by omega) (by omega) (fun c53 => ?_) (fun c53 => ?_) | refine V_icmp_ge 116 dX5_reads_53 (by decide) (fun c53 => ?_) (fun c53 => ?_)
              · refine V_aload0 dX5_reads_116 ?_
                refine gX5_28 dX5_reads_117 ?_
                refine gX5_110 dX5_reads_120 ?_
                refine V_iload4 dX5_reads_123 ?_
                refine V_iaload (by decide) aI_9 (by decide) rfl (by first | assumption | omega) dX5_reads_125 ?_
                rw [r.2.2.2.2.1 _ hq]
                refine V_ireti dX5_reads_126 ?_
                rw [show 100 - g = (99 - g) + 1 by omega, rdF, stp_eq e]
                rw [ite_t ⟨c81, c90⟩]
                exact ⟨rfl, rfl⟩
              · refine V_iload5 dX5_reads_56 ?_
                first | refine V_if_lt_n 116 dX5_reads_58 (by decide) (by omega) (fun c58 => ?_) (fun c58 => ?_) | refine V_if_lt 116 dX5_reads_58 (by decide) (fun c58 => ?_) (fun c58 => ?_)
                · refine V_aload0 dX5_reads_116 ?_
                  refine gX5_28 dX5_reads_117 ?_
                  refine gX5_110 dX5_reads_120 ?_
                  refine V_iload4 dX5_reads_123 ?_
                  refine V_iaload (by decide) aI_9 (by decide) rfl (by first | assumption | omega) dX5_reads_125 ?_
                  rw [r.2.2.2.2.1 _ hq]
                  refine V_ireti dX5_reads_126 ?_
                  rw [show 100 - g = (99 - g) + 1 by omega, rdF, stp_eq e]
                  rw [ite_t ⟨c81, c90⟩]
                  exact ⟨rfl, rfl⟩
                · exact absurd (by decide) c58 --end
        · exact c72.elim --end
set_option maxRecDepth 4000 in
theorem m_X5_reads (G : GE) (h : Mem) (S : St) (i : Ok S) (a : RA S h) (x d : Int32) : Ct idsA G yX5_reads cX5_reads 7 (some .int) (rmD 4) [.ref (ad G 0), .int x, .int d] h (Qi fun rv h' => rv = (O_reads S x d).1 ∧ RA (O_reads S x d).2 h') := by
  refine Ct.of [some (.ref (ad G 0)), some (.int x), some (.int d), none, none, none, none] (by decide) (Nat.le_of_ble_eq_true rfl) (lvE_ok 4 rfl) ?_
  refine V_aload0 dX5_reads_0 ?_
  refine V_iload1 dX5_reads_1 ?_
  refine kX5_126 (m_X5_isPoint _ _ S.2.1 i.1 a.2.1 _) (rOK_d (by decide) (by decide)) (Nat.le_of_ble_eq_true rfl) dX5_reads_2 (fun r2 h2 hq2 => ?_)
  obtain ⟨e_, rfl⟩ := hq2
  replace e_ := e_.symm
  subst e_
  first | refine V_if_eq_z 15 dX5_reads_5 (by decide) (fun c5 => ?_) (fun c5 => ?_) | refine V_if_eq_n 15 dX5_reads_5 (by decide) (by omega) (fun c5 => ?_) (fun c5 => ?_) | refine V_if_eq 15 dX5_reads_5 (by decide) (fun c5 => ?_) (fun c5 => ?_)
  · refine V_ldc ct_X5_57 dX5_reads_15 ?_
    refine V_ireti dX5_reads_17 ?_
    rw [O_reads, vReads, ite_f (show ¬ (inR x (nNp S.2.1) ∧ inR d 4) from fun z => by first | exact c5 z.1 | exact c12 z.2)]
    exact ⟨rfl, a⟩
  · refine V_iload2 dX5_reads_8 ?_
    refine kX5_179 (m_X5_isDirection _ _ _) (rOK_d (by decide) (by decide)) (Nat.le_of_ble_eq_true rfl) dX5_reads_9 (fun r9 h9 hq9 => ?_)
    obtain ⟨e_, rfl⟩ := hq9
    replace e_ := e_.symm
    subst e_
    first | refine V_if_ne_z 18 dX5_reads_12 (by decide) (fun c12 => ?_) (fun c12 => ?_) | refine V_if_ne_n 18 dX5_reads_12 (by decide) (by omega) (fun c12 => ?_) (fun c12 => ?_) | refine V_if_ne 18 dX5_reads_12 (by decide) (fun c12 => ?_) (fun c12 => ?_)
    · have hg : inR x (nNp S.2.1) ∧ inR d 4 := ⟨c5, c12⟩
      have hnp := i.1.np
      obtain ⟨k, hk, rfl⟩ := (inR_iff (by omega)).mp c5
      obtain ⟨d', hd', rfl⟩ := (inR_iff (by decide)).mp c12
      have kk := cl_nI (show k < 2 ^ 31 by omega)
      have kd := cl_nI (show d' < 2 ^ 31 by omega)
      have hpt := (i.1.pt hk).1
      have hl12 := lfM_lt (mk_lt S.2.1) (nPp S.2.1 k) d'
      have hpc := popc_le (lfM (nMk S.2.1) (nPp S.2.1 k) d')
      refine V_aload0 dX5_reads_18 ?_
      refine gX5_15 dX5_reads_19 ?_
      refine V_iload1 dX5_reads_22 ?_
      refine V_iaload (by decide) aI_2 (by decide) rfl (by first | assumption | omega) dX5_reads_23 ?_
      rw [a.2.1.2.2.1 k hk]
      refine V_istore3 dX5_reads_24 (by decide) rfl ?_
      refine V_aload0 dX5_reads_25 ?_
      refine gX5_28 dX5_reads_26 ?_
      refine V_iload3 dX5_reads_29 ?_
      refine V_iload2 dX5_reads_30 ?_
      refine kX5_182 (m_X2_widthFrom _ _ (nMk S.2.1) a.2.1.M _ _ hpt hd') (rOK_d (by decide) (by decide)) (Nat.le_of_ble_eq_true rfl) dX5_reads_31 (fun r31 h31 hq31 => ?_)
      obtain ⟨e_, rfl⟩ := hq31
      replace e_ := e_.symm
      subst e_
      first | refine V_if_ne_z 40 dX5_reads_34 (by decide) (fun c34 => ?_) (fun c34 => ?_) | refine V_if_ne_n 40 dX5_reads_34 (by decide) (by omega) (fun c34 => ?_) (fun c34 => ?_) | refine V_if_ne 40 dX5_reads_34 (by decide) (fun c34 => ?_) (fun c34 => ?_)
      · refine V_iload3 dX5_reads_40 ?_
        refine V_istore4 dX5_reads_41 (by decide) rfl ?_
        refine V_iload2 dX5_reads_43 ?_
        refine V_istore5 dX5_reads_44 (by decide) rfl ?_
        refine V_iconst (nI 0) dX5_reads_46 (by decide) ?_
        refine V_istore6 dX5_reads_47 (by decide) rfl ?_
        have hne : ¬ lfM (nMk S.2.1) (nPp S.2.1 k) d' = 0 := fun z => c34 ((popc_zero hl12).mpr z)
        refine V_post (l_X5_reads G h S.2.1 i.1 a.2.1 _ _ (nPp S.2.1 k) hpt (nPp S.2.1 k) d' 0 (by decide) hpt hd' hne) ?_
        rintro v h' ⟨y, rfl, rfl, rfl⟩
        refine ⟨_, rfl, ?_, a⟩
        rw [O_reads, vReads, ite_t hg, kk, kd, ite_f hne]
      · refine V_ldc ct_X5_114 dX5_reads_37 ?_
        refine V_ireti dX5_reads_39 ?_
        rw [O_reads, vReads, ite_t hg, kk, kd, ite_t ((popc_zero hl12).mp c34)]
        exact ⟨rfl, a⟩
    · refine V_ldc ct_X5_57 dX5_reads_15 ?_
      refine V_ireti dX5_reads_17 ?_
      rw [O_reads, vReads, ite_f (show ¬ (inR x (nNp S.2.1) ∧ inR d 4) from fun z => by first | exact c5 z.1 | exact c12 z.2)]
      exact ⟨rfl, a⟩
