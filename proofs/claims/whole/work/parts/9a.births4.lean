set_option maxRecDepth 8000 in
theorem nl_X2 (G : GE) (q b7 b15 b24 b32 b40 : Nat) (KF : List Nat) (kc ks : Nat) (Q : va_W → Prop) (Kx : ∀ f : Nat → Int32, (∀ j, j < 100 → f j = -1000000) → NV G RX2 cX2_init 2 rX2 KF kc ks [0, 1, 0, 0, 1, 2, 3] 67 [some (.ref q), some (.int (nI 100))] [] [(q, .inr (2, [.ref b7, .ref b15, .ref b24, .ref b32, .ref b40, .int 0, .int 0])), (b7, .inl (G.2.2.1 1, 100, .inl (fun _ => 0))), (b15, .inl (G.2.2.1 0, 100, .inl f)), (b24, .inl (G.2.2.1 0, 200, .inl (fun _ => 0))), (b32, .inl (G.2.2.1 1, 100, .inl (fun _ => 0))), (b40, .inl (G.2.2.1 0, 12, .inl (fun _ => 0)))] Q) (k : Nat) (hk : k ≤ 100) (f : Nat → Int32) (hf : ∀ j, j < k → f j = -1000000) : NV G RX2 cX2_init 2 rX2 KF kc ks [0, 1, 0, 0, 1, 2, 3] 47 [some (.ref q), some (.int (nI k))] [] [(q, .inr (2, [.ref b7, .ref b15, .ref b24, .ref b32, .ref b40, .int 0, .int 0])), (b7, .inl (G.2.2.1 1, 100, .inl (fun _ => 0))), (b15, .inl (G.2.2.1 0, 100, .inl f)), (b24, .inl (G.2.2.1 0, 200, .inl (fun _ => 0))), (b32, .inl (G.2.2.1 1, 100, .inl (fun _ => 0))), (b40, .inl (G.2.2.1 0, 12, .inl (fun _ => 0)))] Q := by
  induction hm : 100 - k using Nat.strongRecOn generalizing k f with
  | _ z ih =>
    subst hm
    refine N_iload1 dX2_init_47 ?_
    refine N_bipush (nI 100) dX2_init_48 (by decide) ?_
    refine N_icmp_ge_n 67 dX2_init_50 (by decide) (by omega) (by omega) (fun c => ?_) (fun c => ?_)
    · obtain rfl : k = 100 := by omega
      exact Kx f hf
    · refine N_aload0 dX2_init_53 ?_
      refine N_get 0 iX2 rfl rfl 1 (by decide) fl_X2_15 rfl rfl dX2_init_54 ?_
      refine N_iload1 dX2_init_57 ?_
      refine N_ldc ct_X2_28 dX2_init_58 ?_
      refine N_iast 2 0 rfl rfl (by decide) rfl (by omega) dX2_init_60 ?_
      refine N_ws [(q, .inr (2, [.ref b7, .ref b15, .ref b24, .ref b32, .ref b40, .int 0, .int 0])), (b7, .inl (G.2.2.1 1, 100, .inl (fun _ => 0))), (b15, .inl (G.2.2.1 0, 100, .inl (upd f k (-1000000)))), (b24, .inl (G.2.2.1 0, 200, .inl (fun _ => 0))), (b32, .inl (G.2.2.1 1, 100, .inl (fun _ => 0))), (b40, .inl (G.2.2.1 0, 12, .inl (fun _ => 0)))] rfl ?_
      refine N_iinc1_n 1 dX2_init_61 (by decide) (by decide) rfl ?_
      refine N_goto 47 dX2_init_64 (by decide) ?_
      refine ih _ (by omega) (k + 1) (by omega) (upd f k (-1000000)) (fun j hj => ?_) rfl
      by_cases e : j = k
      · rw [e, pk_us]
      · rw [pk_un e]; exact hf j (by omega)
set_option maxRecDepth 8000 in
theorem n_X2 (G : GE) (q : Nat) : Cn G yX2_init cX2_init 2 rX2 [0, 1] [2, 3] [.ref q] [(q, .inr (2, [.null, .null, .null, .null, .null, .int 0, .int 0]))] (fun ws => ∃ (b7 b15 b24 b32 b40 : Nat) (f9 f12 : Nat → Int32), (∀ j, j < 100 → f9 j = -1000000) ∧ (∀ j, j < 12 → f12 j = nI (prc 10 3 j)) ∧ ws = [(q, .inr (2, [.ref b7, .ref b15, .ref b24, .ref b32, .ref b40, .int (nI 10), .int (nI 3)])), (b7, .inl (G.2.2.1 1, 100, .inl (fun _ => 0))), (b15, .inl (G.2.2.1 0, 100, .inl f9)), (b24, .inl (G.2.2.1 0, 200, .inl (fun _ => 0))), (b32, .inl (G.2.2.1 1, 100, .inl (fun _ => 0))), (b40, .inl (G.2.2.1 0, 12, .inl f12))]) := by
  refine Cn.of [some (.ref q), none] (by decide) rfl (Nat.le_of_ble_eq_true rfl) (lvE_ok 1 rfl) ?_
  refine N_aload0 dX2_init_0 ?_
  refine N_objInit ml_X2_3 (Nat.le_of_ble_eq_true rfl) (Nat.le_of_ble_eq_true rfl) dX2_init_1 ?_
  refine N_aload0 dX2_init_4 ?_
  refine N_bipush (nI 100) dX2_init_5 (by decide) ?_
  refine N_newZ rfl (by decide) (Nat.le_of_ble_eq_true rfl) (Nat.le_of_ble_eq_true rfl) dX2_init_7 (fun b7 => ?_)
  refine N_ws [(q, .inr (2, [.null, .null, .null, .null, .null, .int 0, .int 0])), (b7, .inl (G.2.2.1 1, 100, .inl (fun _ => 0)))] rfl ?_
  refine N_putF (ty := tyX2 0) 0 iX2 tyX2 tyX2_ok nmX2 rfl rfl 0 (by decide) fl_X2_9 rfl rfl rfl (tyX2_ok 0 (by decide)) rfl rfl (Nat.le_of_ble_eq_true rfl) dX2_init_9 ?_
  refine N_ws [(q, .inr (2, [.ref b7, .null, .null, .null, .null, .int 0, .int 0])), (b7, .inl (G.2.2.1 1, 100, .inl (fun _ => 0)))] rfl ?_
  refine N_aload0 dX2_init_12 ?_
  refine N_bipush (nI 100) dX2_init_13 (by decide) ?_
  refine N_newI rfl (by decide) (Nat.le_of_ble_eq_true rfl) (Nat.le_of_ble_eq_true rfl) dX2_init_15 (fun b15 => ?_)
  refine N_ws [(q, .inr (2, [.ref b7, .null, .null, .null, .null, .int 0, .int 0])), (b7, .inl (G.2.2.1 1, 100, .inl (fun _ => 0))), (b15, .inl (G.2.2.1 0, 100, .inl (fun _ => 0)))] rfl ?_
  refine N_putF (ty := tyX2 1) 0 iX2 tyX2 tyX2_ok nmX2 rfl rfl 1 (by decide) fl_X2_15 rfl rfl rfl (tyX2_ok 1 (by decide)) rfl rfl (Nat.le_of_ble_eq_true rfl) dX2_init_17 ?_
  refine N_ws [(q, .inr (2, [.ref b7, .ref b15, .null, .null, .null, .int 0, .int 0])), (b7, .inl (G.2.2.1 1, 100, .inl (fun _ => 0))), (b15, .inl (G.2.2.1 0, 100, .inl (fun _ => 0)))] rfl ?_
  refine N_aload0 dX2_init_20 ?_
  refine N_sipush (nI 200) dX2_init_21 (by decide) ?_
  refine N_newI rfl (by decide) (Nat.le_of_ble_eq_true rfl) (Nat.le_of_ble_eq_true rfl) dX2_init_24 (fun b24 => ?_)
  refine N_ws [(q, .inr (2, [.ref b7, .ref b15, .null, .null, .null, .int 0, .int 0])), (b7, .inl (G.2.2.1 1, 100, .inl (fun _ => 0))), (b15, .inl (G.2.2.1 0, 100, .inl (fun _ => 0))), (b24, .inl (G.2.2.1 0, 200, .inl (fun _ => 0)))] rfl ?_
  refine N_putF (ty := tyX2 2) 0 iX2 tyX2 tyX2_ok nmX2 rfl rfl 2 (by decide) fl_X2_19 rfl rfl rfl (tyX2_ok 2 (by decide)) rfl rfl (Nat.le_of_ble_eq_true rfl) dX2_init_26 ?_
  refine N_ws [(q, .inr (2, [.ref b7, .ref b15, .ref b24, .null, .null, .int 0, .int 0])), (b7, .inl (G.2.2.1 1, 100, .inl (fun _ => 0))), (b15, .inl (G.2.2.1 0, 100, .inl (fun _ => 0))), (b24, .inl (G.2.2.1 0, 200, .inl (fun _ => 0)))] rfl ?_
  refine N_aload0 dX2_init_29 ?_
  refine N_bipush (nI 100) dX2_init_30 (by decide) ?_
  refine N_newZ rfl (by decide) (Nat.le_of_ble_eq_true rfl) (Nat.le_of_ble_eq_true rfl) dX2_init_32 (fun b32 => ?_)
  refine N_ws [(q, .inr (2, [.ref b7, .ref b15, .ref b24, .null, .null, .int 0, .int 0])), (b7, .inl (G.2.2.1 1, 100, .inl (fun _ => 0))), (b15, .inl (G.2.2.1 0, 100, .inl (fun _ => 0))), (b24, .inl (G.2.2.1 0, 200, .inl (fun _ => 0))), (b32, .inl (G.2.2.1 1, 100, .inl (fun _ => 0)))] rfl ?_
  refine N_putF (ty := tyX2 3) 0 iX2 tyX2 tyX2_ok nmX2 rfl rfl 3 (by decide) fl_X2_22 rfl rfl rfl (tyX2_ok 3 (by decide)) rfl rfl (Nat.le_of_ble_eq_true rfl) dX2_init_34 ?_
  refine N_ws [(q, .inr (2, [.ref b7, .ref b15, .ref b24, .ref b32, .null, .int 0, .int 0])), (b7, .inl (G.2.2.1 1, 100, .inl (fun _ => 0))), (b15, .inl (G.2.2.1 0, 100, .inl (fun _ => 0))), (b24, .inl (G.2.2.1 0, 200, .inl (fun _ => 0))), (b32, .inl (G.2.2.1 1, 100, .inl (fun _ => 0)))] rfl ?_
  refine N_aload0 dX2_init_37 ?_
  refine N_bipush (nI 12) dX2_init_38 (by decide) ?_
  refine N_newI rfl (by decide) (Nat.le_of_ble_eq_true rfl) (Nat.le_of_ble_eq_true rfl) dX2_init_40 (fun b40 => ?_)
  refine N_ws [(q, .inr (2, [.ref b7, .ref b15, .ref b24, .ref b32, .null, .int 0, .int 0])), (b7, .inl (G.2.2.1 1, 100, .inl (fun _ => 0))), (b15, .inl (G.2.2.1 0, 100, .inl (fun _ => 0))), (b24, .inl (G.2.2.1 0, 200, .inl (fun _ => 0))), (b32, .inl (G.2.2.1 1, 100, .inl (fun _ => 0))), (b40, .inl (G.2.2.1 0, 12, .inl (fun _ => 0)))] rfl ?_
  refine N_putF (ty := tyX2 4) 0 iX2 tyX2 tyX2_ok nmX2 rfl rfl 4 (by decide) fl_X2_25 rfl rfl rfl (tyX2_ok 4 (by decide)) rfl rfl (Nat.le_of_ble_eq_true rfl) dX2_init_42 ?_
  refine N_ws [(q, .inr (2, [.ref b7, .ref b15, .ref b24, .ref b32, .ref b40, .int 0, .int 0])), (b7, .inl (G.2.2.1 1, 100, .inl (fun _ => 0))), (b15, .inl (G.2.2.1 0, 100, .inl (fun _ => 0))), (b24, .inl (G.2.2.1 0, 200, .inl (fun _ => 0))), (b32, .inl (G.2.2.1 1, 100, .inl (fun _ => 0))), (b40, .inl (G.2.2.1 0, 12, .inl (fun _ => 0)))] rfl ?_
  refine N_iconst (nI 0) dX2_init_45 (by decide) ?_
  refine N_istore1 dX2_init_46 (by decide) rfl ?_
  refine nl_X2 G q b7 b15 b24 b32 b40 _ _ _ _ (fun f hf => ?_) 0 (by decide) _ (fun j hj => absurd hj (Nat.not_lt_zero _))
  refine N_aload0 dX2_init_67 ?_
  refine N_bipush (nI 10) dX2_init_68 (by decide) ?_
  refine N_iconst (nI 3) dX2_init_70 (by decide) ?_
  refine N_G (ad' := fun c => ([0, 0, 0, 0, q, 0, 0, 0, b7, b15, b24, b32, b40] : List Nat).getD c 0) ?_
  refine N_ws (wsM idsN (G.1, G.2.1, G.2.2.1, fun c => ([0, 0, 0, 0, q, 0, 0, 0, b7, b15, b24, b32, b40] : List Nat).getD c 0) (fun c => if c = 9 then f else fun _ => 0)) rfl ?_
  refine N_callV (G := (G.1, G.2.1, G.2.2.1, fun c => ([0, 0, 0, 0, q, 0, 0, 0, b7, b15, b24, b32, b40] : List Nat).getD c 0)) (C := RX2) (b := 4) (ci := 2) (rest := []) (av := [.int (nI 10), .int (nI 3)]) (nm_X2_putRules (G.1, G.2.1, G.2.2.1, fun c => ([0, 0, 0, 0, q, 0, 0, 0, b7, b15, b24, b32, b40] : List Nat).getD c 0) (fun c => if c = 9 then f else fun _ => 0) 10 3 (by decide) (by decide)) ml_X2_29 imX2_putRules seX2_putRules in_X2 coX2_putRules okX2_putRules ⟨rfl, rfl, (Nat.le_of_ble_eq_true rfl), (Nat.le_of_ble_eq_true rfl)⟩ (Nat.le_of_ble_eq_true rfl) (Nat.le_of_ble_eq_true rfl) (by decide) rfl rfl (by decide) rfl (Nat.le_of_ble_eq_true rfl) dX2_init_71 (fun h2 hq => ?_)
  obtain ⟨s1, e5, e6, hp⟩ := hq
  refine N_ret (Nat.le_of_ble_eq_true rfl) (Nat.le_of_ble_eq_true rfl) (by decide) dX2_init_74 ⟨b7, b15, b24, b32, b40, h2 9, h2 12, fun j hj => ?_, fun j hj => hp j hj, ?_⟩
  · rw [s1 9 (by decide)]; exact hf j hj
  · show ([(q, .inr (2, [.ref b7, .ref b15, .ref b24, .ref b32, .ref b40, .int (h2 4 5), .int (h2 4 6)])), (b7, .inl (G.2.2.1 1, 100, .inl (h2 8))), (b15, .inl (G.2.2.1 0, 100, .inl (h2 9))), (b24, .inl (G.2.2.1 0, 200, .inl (h2 10))), (b32, .inl (G.2.2.1 1, 100, .inl (h2 11))), (b40, .inl (G.2.2.1 0, 12, .inl (h2 12)))] : va_W) = _
    rw [e5, e6, s1 8 (by decide), s1 10 (by decide), s1 11 (by decide)]
    rfl
