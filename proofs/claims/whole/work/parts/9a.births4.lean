set_option maxRecDepth 8000 in
theorem nl_X2 (G : GE) (q b7 b15 b24 b32 : Nat) (KF : List Nat) (kc ks : Nat) (Q : va_W → Prop) (Kx : ∀ f : Nat → Int32, (∀ j, j < 100 → f j = -1000000) → NV G RX2 cX2_init 2 rX2 KF kc ks [1, 0, 0, 1, 2, 3] 70 [some (.ref q), some (.int (nI 100))] [] [(q, .inr (2, [.ref b7, .ref b15, .ref b24, .ref b32, .int (nI 10), .int (nI 3)])), (b7, .inl (G.2.2.1 1, 100, .inl (fun _ => 0))), (b15, .inl (G.2.2.1 0, 100, .inl f)), (b24, .inl (G.2.2.1 0, 200, .inl (fun _ => 0))), (b32, .inl (G.2.2.1 1, 100, .inl (fun _ => 0)))] Q) (k : Nat) (hk : k ≤ 100) (f : Nat → Int32) (hf : ∀ j, j < k → f j = -1000000) : NV G RX2 cX2_init 2 rX2 KF kc ks [1, 0, 0, 1, 2, 3] 50 [some (.ref q), some (.int (nI k))] [] [(q, .inr (2, [.ref b7, .ref b15, .ref b24, .ref b32, .int (nI 10), .int (nI 3)])), (b7, .inl (G.2.2.1 1, 100, .inl (fun _ => 0))), (b15, .inl (G.2.2.1 0, 100, .inl f)), (b24, .inl (G.2.2.1 0, 200, .inl (fun _ => 0))), (b32, .inl (G.2.2.1 1, 100, .inl (fun _ => 0)))] Q := by
  induction hm : 100 - k using Nat.strongRecOn generalizing k f with
  | _ z ih =>
    subst hm
    refine N_iload1 dX2_init_50 ?_
    refine N_bipush (nI 100) dX2_init_51 (by decide) ?_
    refine N_icmp_ge_n 70 dX2_init_53 (by decide) (by omega) (by omega) (fun c => ?_) (fun c => ?_)
    · obtain rfl : k = 100 := by omega
      exact Kx f hf
    · refine N_aload0 dX2_init_56 ?_
      refine N_get 0 iX2 rfl rfl 1 (by decide) fl_X2_15 rfl rfl dX2_init_57 ?_
      refine N_iload1 dX2_init_60 ?_
      refine N_ldc ct_X2_32 dX2_init_61 ?_
      refine N_iast 2 1 rfl rfl (by decide) rfl (by omega) dX2_init_63 ?_
      refine N_ws [(q, .inr (2, [.ref b7, .ref b15, .ref b24, .ref b32, .int (nI 10), .int (nI 3)])), (b7, .inl (G.2.2.1 1, 100, .inl (fun _ => 0))), (b15, .inl (G.2.2.1 0, 100, .inl (upd f k (-1000000)))), (b24, .inl (G.2.2.1 0, 200, .inl (fun _ => 0))), (b32, .inl (G.2.2.1 1, 100, .inl (fun _ => 0)))] rfl ?_
      refine N_iinc1_n 1 dX2_init_64 (by decide) (by decide) rfl ?_
      refine N_goto 50 dX2_init_67 (by decide) ?_
      refine ih _ (by omega) (k + 1) (by omega) (upd f k (-1000000)) (fun j hj => ?_) rfl
      by_cases e : j = k
      · rw [e, pk_us]
      · rw [pk_un e]; exact hf j (by omega)
set_option maxRecDepth 8000 in
theorem n_X2 (G : GE) (q : Nat) : Cn G yX2_init cX2_init 2 rX2 [0, 1] [2, 3] [.ref q] [(q, .inr (2, [.null, .null, .null, .null, .int 0, .int 0]))] (fun ws => ∃ (b7 b15 b24 b32 : Nat) (f9 : Nat → Int32), (∀ j, j < 100 → f9 j = -1000000) ∧ ws = [(q, .inr (2, [.ref b7, .ref b15, .ref b24, .ref b32, .int (nI 10), .int (nI 3)])), (b7, .inl (G.2.2.1 1, 100, .inl (fun _ => 0))), (b15, .inl (G.2.2.1 0, 100, .inl f9)), (b24, .inl (G.2.2.1 0, 200, .inl (fun _ => 0))), (b32, .inl (G.2.2.1 1, 100, .inl (fun _ => 0)))]) := by
  refine Cn.of [some (.ref q), none] (by decide) rfl (Nat.le_of_ble_eq_true rfl) (lvE_ok 1 rfl) ?_
  refine N_aload0 dX2_init_0 ?_
  refine N_objInit ml_X2_3 (Nat.le_of_ble_eq_true rfl) (Nat.le_of_ble_eq_true rfl) dX2_init_1 ?_
  refine N_aload0 dX2_init_4 ?_
  refine N_bipush (nI 100) dX2_init_5 (by decide) ?_
  refine N_newZ rfl (by decide) (Nat.le_of_ble_eq_true rfl) (Nat.le_of_ble_eq_true rfl) dX2_init_7 (fun b7 => ?_)
  refine N_ws [(q, .inr (2, [.null, .null, .null, .null, .int 0, .int 0])), (b7, .inl (G.2.2.1 1, 100, .inl (fun _ => 0)))] rfl ?_
  refine N_putF (ty := tyX2 0) 0 iX2 tyX2 tyX2_ok nmX2 rfl rfl 0 (by decide) fl_X2_9 rfl rfl rfl (tyX2_ok 0 (by decide)) rfl rfl (Nat.le_of_ble_eq_true rfl) dX2_init_9 ?_
  refine N_ws [(q, .inr (2, [.ref b7, .null, .null, .null, .int 0, .int 0])), (b7, .inl (G.2.2.1 1, 100, .inl (fun _ => 0)))] rfl ?_
  refine N_aload0 dX2_init_12 ?_
  refine N_bipush (nI 100) dX2_init_13 (by decide) ?_
  refine N_newI rfl (by decide) (Nat.le_of_ble_eq_true rfl) (Nat.le_of_ble_eq_true rfl) dX2_init_15 (fun b15 => ?_)
  refine N_ws [(q, .inr (2, [.ref b7, .null, .null, .null, .int 0, .int 0])), (b7, .inl (G.2.2.1 1, 100, .inl (fun _ => 0))), (b15, .inl (G.2.2.1 0, 100, .inl (fun _ => 0)))] rfl ?_
  refine N_putF (ty := tyX2 1) 0 iX2 tyX2 tyX2_ok nmX2 rfl rfl 1 (by decide) fl_X2_15 rfl rfl rfl (tyX2_ok 1 (by decide)) rfl rfl (Nat.le_of_ble_eq_true rfl) dX2_init_17 ?_
  refine N_ws [(q, .inr (2, [.ref b7, .ref b15, .null, .null, .int 0, .int 0])), (b7, .inl (G.2.2.1 1, 100, .inl (fun _ => 0))), (b15, .inl (G.2.2.1 0, 100, .inl (fun _ => 0)))] rfl ?_
  refine N_aload0 dX2_init_20 ?_
  refine N_sipush (nI 200) dX2_init_21 (by decide) ?_
  refine N_newI rfl (by decide) (Nat.le_of_ble_eq_true rfl) (Nat.le_of_ble_eq_true rfl) dX2_init_24 (fun b24 => ?_)
  refine N_ws [(q, .inr (2, [.ref b7, .ref b15, .null, .null, .int 0, .int 0])), (b7, .inl (G.2.2.1 1, 100, .inl (fun _ => 0))), (b15, .inl (G.2.2.1 0, 100, .inl (fun _ => 0))), (b24, .inl (G.2.2.1 0, 200, .inl (fun _ => 0)))] rfl ?_
  refine N_putF (ty := tyX2 2) 0 iX2 tyX2 tyX2_ok nmX2 rfl rfl 2 (by decide) fl_X2_19 rfl rfl rfl (tyX2_ok 2 (by decide)) rfl rfl (Nat.le_of_ble_eq_true rfl) dX2_init_26 ?_
  refine N_ws [(q, .inr (2, [.ref b7, .ref b15, .ref b24, .null, .int 0, .int 0])), (b7, .inl (G.2.2.1 1, 100, .inl (fun _ => 0))), (b15, .inl (G.2.2.1 0, 100, .inl (fun _ => 0))), (b24, .inl (G.2.2.1 0, 200, .inl (fun _ => 0)))] rfl ?_
  refine N_aload0 dX2_init_29 ?_
  refine N_bipush (nI 100) dX2_init_30 (by decide) ?_
  refine N_newZ rfl (by decide) (Nat.le_of_ble_eq_true rfl) (Nat.le_of_ble_eq_true rfl) dX2_init_32 (fun b32 => ?_)
  refine N_ws [(q, .inr (2, [.ref b7, .ref b15, .ref b24, .null, .int 0, .int 0])), (b7, .inl (G.2.2.1 1, 100, .inl (fun _ => 0))), (b15, .inl (G.2.2.1 0, 100, .inl (fun _ => 0))), (b24, .inl (G.2.2.1 0, 200, .inl (fun _ => 0))), (b32, .inl (G.2.2.1 1, 100, .inl (fun _ => 0)))] rfl ?_
  refine N_putF (ty := tyX2 3) 0 iX2 tyX2 tyX2_ok nmX2 rfl rfl 3 (by decide) fl_X2_22 rfl rfl rfl (tyX2_ok 3 (by decide)) rfl rfl (Nat.le_of_ble_eq_true rfl) dX2_init_34 ?_
  refine N_ws [(q, .inr (2, [.ref b7, .ref b15, .ref b24, .ref b32, .int 0, .int 0])), (b7, .inl (G.2.2.1 1, 100, .inl (fun _ => 0))), (b15, .inl (G.2.2.1 0, 100, .inl (fun _ => 0))), (b24, .inl (G.2.2.1 0, 200, .inl (fun _ => 0))), (b32, .inl (G.2.2.1 1, 100, .inl (fun _ => 0)))] rfl ?_
  refine N_aload0 dX2_init_37 ?_
  refine N_bipush (nI 10) dX2_init_38 (by decide) ?_
  refine N_put (ty := tyX2 4) 0 iX2 tyX2 tyX2_ok nmX2 rfl rfl 4 (by decide) fl_X2_25 rfl rfl (tyX2_ok 4 (by decide)) rfl rfl (Nat.le_of_ble_eq_true rfl) dX2_init_40 ?_
  refine N_ws [(q, .inr (2, [.ref b7, .ref b15, .ref b24, .ref b32, .int (nI 10), .int 0])), (b7, .inl (G.2.2.1 1, 100, .inl (fun _ => 0))), (b15, .inl (G.2.2.1 0, 100, .inl (fun _ => 0))), (b24, .inl (G.2.2.1 0, 200, .inl (fun _ => 0))), (b32, .inl (G.2.2.1 1, 100, .inl (fun _ => 0)))] rfl ?_
  refine N_aload0 dX2_init_43 ?_
  refine N_iconst (nI 3) dX2_init_44 (by decide) ?_
  refine N_put (ty := tyX2 5) 0 iX2 tyX2 tyX2_ok nmX2 rfl rfl 5 (by decide) fl_X2_29 rfl rfl (tyX2_ok 5 (by decide)) rfl rfl (Nat.le_of_ble_eq_true rfl) dX2_init_45 ?_
  refine N_ws [(q, .inr (2, [.ref b7, .ref b15, .ref b24, .ref b32, .int (nI 10), .int (nI 3)])), (b7, .inl (G.2.2.1 1, 100, .inl (fun _ => 0))), (b15, .inl (G.2.2.1 0, 100, .inl (fun _ => 0))), (b24, .inl (G.2.2.1 0, 200, .inl (fun _ => 0))), (b32, .inl (G.2.2.1 1, 100, .inl (fun _ => 0)))] rfl ?_
  refine N_iconst (nI 0) dX2_init_48 (by decide) ?_
  refine N_istore1 dX2_init_49 (by decide) rfl ?_
  refine nl_X2 G q b7 b15 b24 b32 _ _ _ _ (fun f hf => ?_) 0 (by decide) _ (fun j hj => absurd hj (Nat.not_lt_zero _))
  exact N_ret (Nat.le_of_ble_eq_true rfl) (Nat.le_of_ble_eq_true rfl) (by decide) dX2_init_70 ⟨b7, b15, b24, b32, f, hf, rfl⟩
