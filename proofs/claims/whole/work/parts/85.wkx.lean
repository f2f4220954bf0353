/-! making: the constructors (by program) -/
set_option maxHeartbeats 4000000 in
set_option maxRecDepth 20000 in
theorem mg_X8 (K : hk_G) (h0 : Nat) : hk_Sp K 2 2 240 hm_X8_init [.ref h0] [(h0, .inr (8, [.null, .int 0, .null, .int 0, .int 0, .int 0, .int 0, .int 0, .int 0, .int 0, .int 0, .int 0]))] (hk_Q K dl_X8 h0 0 (fun _ _ => 0)) := by
  refine hk_entry (by decide) rfl (Nat.le_of_ble_eq_true rfl) rfl ?_
  refine hk_aload dX8_init_0 rfl ?_
  refine hk_obj dX8_init_1 (hh_in 435 (by decide +kernel) (by decide +kernel)) (hh_in 98 (by decide +kernel) (by decide +kernel)) (hh_in 99 (by decide +kernel) (by decide +kernel)) (by decide) ?_
  refine hk_aload dX8_init_4 rfl ?_
  refine hk_bipush dX8_init_5 (by decide) ?_
  refine hk_newaC (t := 1) (N := 120) (ty := .byte) (k' := 1) (n' := 120) dX8_init_7 (hh_in 478 (by decide +kernel) (by decide +kernel)) rfl rfl (fun _ _ _ h1 h2 => Option.some.inj (h1.symm.trans h2)) (fun _ => rfl) (by decide) (by decide) (Nat.le_of_ble_eq_true rfl) rfl rfl (Nat.le_of_ble_eq_true rfl) (Nat.le_of_ble_eq_true rfl) (fun a0 => ?_)
  refine hk_putE [.ref a0, .int 0, .null, .int 0, .int 0, .int 0, .int 0, .int 0, .int 0, .int 0, .int 0, .int 0] (L := 12) dX8_init_9 kq_X8_9 rfl rfl rfl (Nat.le_of_ble_eq_true rfl) rfl ?_
  refine hk_aload dX8_init_12 rfl ?_
  refine hk_bipush dX8_init_13 (by decide) ?_
  refine hk_newaC (t := 0) (N := 120) (ty := .int) (k' := 2) (n' := 240) dX8_init_15 (hh_in 134 (by decide +kernel) (by decide +kernel)) rfl rfl (fun _ _ _ h1 h2 => Option.some.inj (h1.symm.trans h2)) (fun _ => rfl) (by decide) (by decide) (Nat.le_of_ble_eq_true rfl) rfl rfl (Nat.le_of_ble_eq_true rfl) (Nat.le_of_ble_eq_true rfl) (fun a1 => ?_)
  refine hk_putE [.ref a0, .int 0, .ref a1, .int 0, .int 0, .int 0, .int 0, .int 0, .int 0, .int 0, .int 0, .int 0] (L := 12) dX8_init_17 kq_X8_15 rfl rfl rfl (Nat.le_of_ble_eq_true rfl) rfl ?_
  refine hk_ret dX8_init_20 (Nat.le_of_ble_eq_true rfl) (Nat.le_of_ble_eq_true rfl) ?_
  exact ⟨fun k => match k with
    | 0 => h0
    | 1 => a0
    | 2 => a1
    | _ => 0, rfl, rfl, rfl⟩
set_option maxHeartbeats 4000000 in
set_option maxRecDepth 20000 in
theorem mg_X10 (K : hk_G) (h0 h1 : Nat) : hk_Sp K 2 4 390 hm_X10_init [.ref h0, .ref h1] [(h0, .inr (10, [.null, .null, .null, .null, .null]))] (hk_Q K dl_X10 h0 h1 (fun _ _ => 0)) := by
  refine hk_entry (by decide) rfl (Nat.le_of_ble_eq_true rfl) rfl ?_
  refine hk_aload dX10_init_0 rfl ?_
  refine hk_obj dX10_init_1 (hh_in 484 (by decide +kernel) (by decide +kernel)) (hh_in 98 (by decide +kernel) (by decide +kernel)) (hh_in 99 (by decide +kernel) (by decide +kernel)) (by decide) ?_
  refine hk_aload dX10_init_4 rfl ?_
  refine hk_bipush dX10_init_5 (by decide) ?_
  refine hk_newaC (t := 0) (N := 120) (ty := .int) (k' := 1) (n' := 120) dX10_init_7 (hh_in 134 (by decide +kernel) (by decide +kernel)) rfl rfl (fun _ _ _ h1 h2 => Option.some.inj (h1.symm.trans h2)) (fun _ => rfl) (by decide) (by decide) (Nat.le_of_ble_eq_true rfl) rfl rfl (Nat.le_of_ble_eq_true rfl) (Nat.le_of_ble_eq_true rfl) (fun a0 => ?_)
  refine hk_putE [.null, .ref a0, .null, .null, .null] (L := 5) dX10_init_9 kq_X10_9 rfl rfl rfl (Nat.le_of_ble_eq_true rfl) rfl ?_
  refine hk_aload dX10_init_12 rfl ?_
  refine hk_bipush dX10_init_13 (by decide) ?_
  refine hk_newaC (t := 0) (N := 90) (ty := .int) (k' := 2) (n' := 210) dX10_init_15 (hh_in 134 (by decide +kernel) (by decide +kernel)) rfl rfl (fun _ _ _ h1 h2 => Option.some.inj (h1.symm.trans h2)) (fun _ => rfl) (by decide) (by decide) (Nat.le_of_ble_eq_true rfl) rfl rfl (Nat.le_of_ble_eq_true rfl) (Nat.le_of_ble_eq_true rfl) (fun a1 => ?_)
  refine hk_putE [.null, .ref a0, .ref a1, .null, .null] (L := 5) dX10_init_17 kq_X10_15 rfl rfl rfl (Nat.le_of_ble_eq_true rfl) rfl ?_
  refine hk_aload dX10_init_20 rfl ?_
  refine hk_bipush dX10_init_21 (by decide) ?_
  refine hk_newaC (t := 0) (N := 90) (ty := .int) (k' := 3) (n' := 300) dX10_init_23 (hh_in 134 (by decide +kernel) (by decide +kernel)) rfl rfl (fun _ _ _ h1 h2 => Option.some.inj (h1.symm.trans h2)) (fun _ => rfl) (by decide) (by decide) (Nat.le_of_ble_eq_true rfl) rfl rfl (Nat.le_of_ble_eq_true rfl) (Nat.le_of_ble_eq_true rfl) (fun a2 => ?_)
  refine hk_putE [.null, .ref a0, .ref a1, .ref a2, .null] (L := 5) dX10_init_25 kq_X10_18 rfl rfl rfl (Nat.le_of_ble_eq_true rfl) rfl ?_
  refine hk_aload dX10_init_28 rfl ?_
  refine hk_bipush dX10_init_29 (by decide) ?_
  refine hk_newaC (t := 0) (N := 90) (ty := .int) (k' := 4) (n' := 390) dX10_init_31 (hh_in 134 (by decide +kernel) (by decide +kernel)) rfl rfl (fun _ _ _ h1 h2 => Option.some.inj (h1.symm.trans h2)) (fun _ => rfl) (by decide) (by decide) (Nat.le_of_ble_eq_true rfl) rfl rfl (Nat.le_of_ble_eq_true rfl) (Nat.le_of_ble_eq_true rfl) (fun a3 => ?_)
  refine hk_putE [.null, .ref a0, .ref a1, .ref a2, .ref a3] (L := 5) dX10_init_33 kq_X10_21 rfl rfl rfl (Nat.le_of_ble_eq_true rfl) rfl ?_
  refine hk_aload dX10_init_36 rfl ?_
  refine hk_aload dX10_init_37 rfl ?_
  refine hk_putE [.ref h1, .ref a0, .ref a1, .ref a2, .ref a3] (L := 5) dX10_init_38 kq_X10_24 rfl rfl rfl (Nat.le_of_ble_eq_true rfl) rfl ?_
  refine hk_ret dX10_init_41 (Nat.le_of_ble_eq_true rfl) (Nat.le_of_ble_eq_true rfl) ?_
  exact ⟨fun k => match k with
    | 0 => h0
    | 1 => a0
    | 2 => a1
    | 3 => a2
    | 4 => a3
    | _ => h1, rfl, rfl, rfl⟩
set_option maxHeartbeats 4000000 in
set_option maxRecDepth 20000 in
theorem mg_X7 (K : hk_G) (h0 h1 : Nat) : hk_Sp K 2 4 68 hm_X7_init [.ref h0, .ref h1] [(h0, .inr (7, [.null, .null, .null, .null, .null, .int 0, .int 0]))] (hk_Q K dl_X7 h0 h1 (fun _ _ => 0)) := by
  refine hk_entry (by decide) rfl (Nat.le_of_ble_eq_true rfl) rfl ?_
  refine hk_aload dX7_init_0 rfl ?_
  refine hk_obj dX7_init_1 (hh_in 507 (by decide +kernel) (by decide +kernel)) (hh_in 98 (by decide +kernel) (by decide +kernel)) (hh_in 99 (by decide +kernel) (by decide +kernel)) (by decide) ?_
  refine hk_aload dX7_init_4 rfl ?_
  refine hk_bipush dX7_init_5 (by decide) ?_
  refine hk_newaC (t := 3) (N := 48) (ty := .boolean) (k' := 1) (n' := 48) dX7_init_7 (hh_in 531 (by decide +kernel) (by decide +kernel)) rfl rfl (fun _ _ _ h1 h2 => Option.some.inj (h1.symm.trans h2)) (fun _ => rfl) (by decide) (by decide) (Nat.le_of_ble_eq_true rfl) rfl rfl (Nat.le_of_ble_eq_true rfl) (Nat.le_of_ble_eq_true rfl) (fun a0 => ?_)
  refine hk_putE [.null, .ref a0, .null, .null, .null, .int 0, .int 0] (L := 7) dX7_init_9 kq_X7_9 rfl rfl rfl (Nat.le_of_ble_eq_true rfl) rfl ?_
  refine hk_aload dX7_init_12 rfl ?_
  refine hk_bipush dX7_init_13 (by decide) ?_
  refine hk_newaC (t := 0) (N := 8) (ty := .int) (k' := 2) (n' := 56) dX7_init_15 (hh_in 134 (by decide +kernel) (by decide +kernel)) rfl rfl (fun _ _ _ h1 h2 => Option.some.inj (h1.symm.trans h2)) (fun _ => rfl) (by decide) (by decide) (Nat.le_of_ble_eq_true rfl) rfl rfl (Nat.le_of_ble_eq_true rfl) (Nat.le_of_ble_eq_true rfl) (fun a1 => ?_)
  refine hk_putE [.null, .ref a0, .ref a1, .null, .null, .int 0, .int 0] (L := 7) dX7_init_17 kq_X7_15 rfl rfl rfl (Nat.le_of_ble_eq_true rfl) rfl ?_
  refine hk_aload dX7_init_20 rfl ?_
  refine hk_bipush dX7_init_21 (by decide) ?_
  refine hk_newaC (t := 0) (N := 6) (ty := .int) (k' := 3) (n' := 62) dX7_init_23 (hh_in 134 (by decide +kernel) (by decide +kernel)) rfl rfl (fun _ _ _ h1 h2 => Option.some.inj (h1.symm.trans h2)) (fun _ => rfl) (by decide) (by decide) (Nat.le_of_ble_eq_true rfl) rfl rfl (Nat.le_of_ble_eq_true rfl) (Nat.le_of_ble_eq_true rfl) (fun a2 => ?_)
  refine hk_putE [.null, .ref a0, .ref a1, .ref a2, .null, .int 0, .int 0] (L := 7) dX7_init_25 kq_X7_19 rfl rfl rfl (Nat.le_of_ble_eq_true rfl) rfl ?_
  refine hk_aload dX7_init_28 rfl ?_
  refine hk_bipush dX7_init_29 (by decide) ?_
  refine hk_newaC (t := 0) (N := 6) (ty := .int) (k' := 4) (n' := 68) dX7_init_31 (hh_in 134 (by decide +kernel) (by decide +kernel)) rfl rfl (fun _ _ _ h1 h2 => Option.some.inj (h1.symm.trans h2)) (fun _ => rfl) (by decide) (by decide) (Nat.le_of_ble_eq_true rfl) rfl rfl (Nat.le_of_ble_eq_true rfl) (Nat.le_of_ble_eq_true rfl) (fun a3 => ?_)
  refine hk_putE [.null, .ref a0, .ref a1, .ref a2, .ref a3, .int 0, .int 0] (L := 7) dX7_init_33 kq_X7_22 rfl rfl rfl (Nat.le_of_ble_eq_true rfl) rfl ?_
  refine hk_aload dX7_init_36 rfl ?_
  refine hk_aload dX7_init_37 rfl ?_
  refine hk_putE [.ref h1, .ref a0, .ref a1, .ref a2, .ref a3, .int 0, .int 0] (L := 7) dX7_init_38 kq_X7_25 rfl rfl rfl (Nat.le_of_ble_eq_true rfl) rfl ?_
  refine hk_ret dX7_init_41 (Nat.le_of_ble_eq_true rfl) (Nat.le_of_ble_eq_true rfl) ?_
  exact ⟨fun k => match k with
    | 0 => h0
    | 1 => a0
    | 2 => a1
    | 3 => a2
    | 4 => a3
    | _ => h1, rfl, rfl, rfl⟩
theorem kn_X11_7 : hk_N "HourHouse" 7 4 9 [.null, .null, .null, .null, .null, .null, .null, .null, .int 0] := ⟨RX4, TX4, tyX4, rfl, hu_4, tyX4_ok, hh_in 100 (by decide +kernel) (by decide +kernel), hh_in 101 (by decide +kernel) (by decide +kernel), hh_in 71 (by decide +kernel) (by decide +kernel), fun j hj => by rcases (show j = 0 ∨ j = 1 ∨ j = 2 ∨ j = 3 ∨ j = 4 ∨ j = 5 ∨ j = 6 ∨ j = 7 ∨ j = 8 by omega) with rfl | rfl | rfl | rfl | rfl | rfl | rfl | rfl | rfl <;> rfl⟩
theorem kq_X11_10 : hk_FP "HourHouse" 10 11 0 true (.object "HourHouse$House") := ⟨RX11, TX11, 13, tyX11, rfl, by decide, hu_11, hh_in 532 (by decide +kernel) (by decide +kernel), tyX11_ok, nmX11, rfl, rfl, (by decide +kernel)⟩
theorem kq_X11_16 : hk_FP "HourHouse" 16 11 1 true (.object "HourHouse$House") := ⟨RX11, TX11, 13, tyX11, rfl, by decide, hu_11, hh_in 533 (by decide +kernel) (by decide +kernel), tyX11_ok, nmX11, rfl, rfl, (by decide +kernel)⟩
theorem kq_X11_19 : hk_FP "HourHouse" 19 11 2 false (.boolean) := ⟨RX11, TX11, 13, tyX11, rfl, by decide, hu_11, hh_in 534 (by decide +kernel) (by decide +kernel), tyX11_ok, nmX11, rfl, rfl, (by decide +kernel)⟩
theorem kn_X11_23 : hk_N "HourHouse" 23 8 12 [.null, .int 0, .null, .int 0, .int 0, .int 0, .int 0, .int 0, .int 0, .int 0, .int 0, .int 0] := ⟨RX8, TX8, tyX8, rfl, hu_8, tyX8_ok, hh_in 430 (by decide +kernel) (by decide +kernel), hh_in 431 (by decide +kernel) (by decide +kernel), hh_in 79 (by decide +kernel) (by decide +kernel), fun j hj => by rcases (show j = 0 ∨ j = 1 ∨ j = 2 ∨ j = 3 ∨ j = 4 ∨ j = 5 ∨ j = 6 ∨ j = 7 ∨ j = 8 ∨ j = 9 ∨ j = 10 ∨ j = 11 by omega) with rfl | rfl | rfl | rfl | rfl | rfl | rfl | rfl | rfl | rfl | rfl | rfl <;> rfl⟩
theorem kq_X11_26 : hk_FP "HourHouse" 26 11 3 true (.object "HourHouse$Tape") := ⟨RX11, TX11, 13, tyX11, rfl, by decide, hu_11, hh_in 535 (by decide +kernel) (by decide +kernel), tyX11_ok, nmX11, rfl, rfl, (by decide +kernel)⟩
theorem kn_X11_30 : hk_N "HourHouse" 30 10 5 [.null, .null, .null, .null, .null] := ⟨RX10, TX10, tyX10, rfl, hu_10, tyX10_ok, hh_in 479 (by decide +kernel) (by decide +kernel), hh_in 480 (by decide +kernel) (by decide +kernel), hh_in 80 (by decide +kernel) (by decide +kernel), fun j hj => by rcases (show j = 0 ∨ j = 1 ∨ j = 2 ∨ j = 3 ∨ j = 4 by omega) with rfl | rfl | rfl | rfl | rfl <;> rfl⟩
theorem kq_X11_35 : hk_FP "HourHouse" 35 11 4 true (.object "HourHouse$Worths") := ⟨RX11, TX11, 13, tyX11, rfl, by decide, hu_11, hh_in 536 (by decide +kernel) (by decide +kernel), tyX11_ok, nmX11, rfl, rfl, (by decide +kernel)⟩
theorem kn_X11_39 : hk_N "HourHouse" 39 7 7 [.null, .null, .null, .null, .null, .int 0, .int 0] := ⟨RX7, TX7, tyX7, rfl, hu_7, tyX7_ok, hh_in 502 (by decide +kernel) (by decide +kernel), hh_in 503 (by decide +kernel) (by decide +kernel), hh_in 81 (by decide +kernel) (by decide +kernel), fun j hj => by rcases (show j = 0 ∨ j = 1 ∨ j = 2 ∨ j = 3 ∨ j = 4 ∨ j = 5 ∨ j = 6 by omega) with rfl | rfl | rfl | rfl | rfl | rfl | rfl <;> rfl⟩
theorem kq_X11_42 : hk_FP "HourHouse" 42 11 5 true (.object "HourHouse$Planner") := ⟨RX11, TX11, 13, tyX11, rfl, by decide, hu_11, hh_in 537 (by decide +kernel) (by decide +kernel), tyX11_ok, nmX11, rfl, rfl, (by decide +kernel)⟩
theorem kq_X11_46 : hk_FP "HourHouse" 46 11 6 true (.array .int) := ⟨RX11, TX11, 13, tyX11, rfl, by decide, hu_11, hh_in 538 (by decide +kernel) (by decide +kernel), tyX11_ok, nmX11, rfl, rfl, (by decide +kernel)⟩
theorem kq_X11_50 : hk_FP "HourHouse" 50 11 7 false (.int) := ⟨RX11, TX11, 13, tyX11, rfl, by decide, hu_11, hh_in 539 (by decide +kernel) (by decide +kernel), tyX11_ok, nmX11, rfl, rfl, (by decide +kernel)⟩
theorem kq_X11_54 : hk_FP "HourHouse" 54 11 8 true (.array .short) := ⟨RX11, TX11, 13, tyX11, rfl, by decide, hu_11, hh_in 540 (by decide +kernel) (by decide +kernel), tyX11_ok, nmX11, rfl, rfl, (by decide +kernel)⟩
theorem kq_X11_58 : hk_FP "HourHouse" 58 11 9 true (.array .int) := ⟨RX11, TX11, 13, tyX11, rfl, by decide, hu_11, hh_in 541 (by decide +kernel) (by decide +kernel), tyX11_ok, nmX11, rfl, rfl, (by decide +kernel)⟩
theorem kq_X11_61 : hk_FP "HourHouse" 61 11 10 true (.array .int) := ⟨RX11, TX11, 13, tyX11, rfl, by decide, hu_11, hh_in 542 (by decide +kernel) (by decide +kernel), tyX11_ok, nmX11, rfl, rfl, (by decide +kernel)⟩
theorem kq_X11_64 : hk_FP "HourHouse" 64 11 11 true (.array .int) := ⟨RX11, TX11, 13, tyX11, rfl, by decide, hu_11, hh_in 543 (by decide +kernel) (by decide +kernel), tyX11_ok, nmX11, rfl, rfl, (by decide +kernel)⟩
theorem kq_X11_67 : hk_FP "HourHouse" 67 11 12 true (.array .int) := ⟨RX11, TX11, 13, tyX11, rfl, by decide, hu_11, hh_in 544 (by decide +kernel) (by decide +kernel), tyX11_ok, nmX11, rfl, rfl, (by decide +kernel)⟩
set_option maxHeartbeats 4000000 in
set_option maxRecDepth 20000 in
theorem wk_X11 (K : hk_G) (h0 : Nat) {Post : va_W → Prop} (hq : ∀ (b0 : Nat) (w0 : va_W) (b1 : Nat) (w1 : va_W) (b2 : Nat) (w2 : va_W) (b3 : Nat) (w3 : va_W) (b4 : Nat) (w4 : va_W) (a5 : Nat) (a6 : Nat) (a7 : Nat) (a8 : Nat) (a9 : Nat) (a10 : Nat), hk_Q K dl_X4 b0 0 sg_X4 w0 → hk_Q K dl_X4 b1 0 sg_X4 w1 → hk_Q K dl_X8 b2 0 (fun _ _ => 0) w2 → hk_Q K dl_X10 b3 b0 (fun _ _ => 0) w3 → hk_Q K dl_X7 b4 b0 (fun _ _ => 0) w4 → Post ((h0, .inr (11, [.ref b0, .ref b1, .int (Int32.ofInt (0)), .ref b2, .ref b3, .ref b4, .ref a5, .int (Int32.ofInt (0)), .ref a6, .ref a7, .ref a8, .ref a9, .ref a10])) :: ((((((((((([] ++ w0) ++ w1) ++ w2) ++ w3) ++ w4) ++ [(a5, .inl (K.1 0, 20, .inl (fun _ => 0)))]) ++ [(a6, .inl (K.1 2, 40, .inl (fun _ => 0)))]) ++ [(a7, .inl (K.1 0, 2, .inl (upd (upd (fun _ => 0) (Int32.ofInt 0).toNatClampNeg (Int32.ofInt (-1))) (Int32.ofInt 1).toNatClampNeg (Int32.ofInt (-1)))))]) ++ [(a8, .inl (K.1 0, 240, .inl (fun _ => 0)))]) ++ [(a9, .inl (K.1 0, 240, .inl (fun _ => 0)))]) ++ [(a10, .inl (K.1 0, 3, .inl (fun _ => 0)))]))) : hk_Sp K 3 127 8577 hm_X11_init [.ref h0] [(h0, .inr (11, [.null, .null, .int 0, .null, .null, .null, .null, .int 0, .null, .null, .null, .null, .null]))] Post := by
  refine hk_entry (by decide) rfl (Nat.le_of_ble_eq_true rfl) rfl ?_
  refine hk_aload dX11_init_0 rfl ?_
  refine hk_obj dX11_init_1 (hh_in 97 (by decide +kernel) (by decide +kernel)) (hh_in 98 (by decide +kernel) (by decide +kernel)) (hh_in 99 (by decide +kernel) (by decide +kernel)) (by decide) ?_
  refine hk_aload dX11_init_4 rfl ?_
  refine hk_newC (ci := 4) (N := 9) (k' := 1) (n' := 9) dX11_init_5 kn_X11_7 rfl rfl (Nat.le_of_ble_eq_true rfl) (Nat.le_of_ble_eq_true rfl) (fun b0 => ?_)
  refine hk_dup dX11_init_8 rfl ?_
  refine hk_callC (mi' := hm_X4_init) (As := []) (k' := 54) (n' := 3655) dX11_init_9 (Or.inr ⟨"HourHouse", by decide +kernel⟩) ko_X4 (Nat.le_of_ble_eq_true rfl) (mk_X4 K b0) rfl rfl (Nat.le_of_ble_eq_true rfl) (Nat.le_of_ble_eq_true rfl) (fun w0 h0 => ?_)
  refine hk_putE [.ref b0, .null, .int 0, .null, .null, .null, .null, .int 0, .null, .null, .null, .null, .null] (L := 13) dX11_init_12 kq_X11_10 rfl rfl rfl (Nat.le_of_ble_eq_true rfl) rfl ?_
  refine hk_aload dX11_init_15 rfl ?_
  refine hk_newC (ci := 4) (N := 9) (k' := 55) (n' := 3664) dX11_init_16 kn_X11_7 rfl rfl (Nat.le_of_ble_eq_true rfl) (Nat.le_of_ble_eq_true rfl) (fun b1 => ?_)
  refine hk_dup dX11_init_19 rfl ?_
  refine hk_callC (mi' := hm_X4_init) (As := []) (k' := 108) (n' := 7310) dX11_init_20 (Or.inr ⟨"HourHouse", by decide +kernel⟩) ko_X4 (Nat.le_of_ble_eq_true rfl) (mk_X4 K b1) rfl rfl (Nat.le_of_ble_eq_true rfl) (Nat.le_of_ble_eq_true rfl) (fun w1 h1 => ?_)
  refine hk_putE [.ref b0, .ref b1, .int 0, .null, .null, .null, .null, .int 0, .null, .null, .null, .null, .null] (L := 13) dX11_init_23 kq_X11_16 rfl rfl rfl (Nat.le_of_ble_eq_true rfl) rfl ?_
  refine hk_aload dX11_init_26 rfl ?_
  refine hk_iconst dX11_init_27 ?_
  refine hk_putE [.ref b0, .ref b1, .int (Int32.ofInt (0)), .null, .null, .null, .null, .int 0, .null, .null, .null, .null, .null] (L := 13) dX11_init_28 kq_X11_19 rfl rfl rfl (Nat.le_of_ble_eq_true rfl) rfl ?_
  refine hk_aload dX11_init_31 rfl ?_
  refine hk_newC (ci := 8) (N := 12) (k' := 109) (n' := 7322) dX11_init_32 kn_X11_23 rfl rfl (Nat.le_of_ble_eq_true rfl) (Nat.le_of_ble_eq_true rfl) (fun b2 => ?_)
  refine hk_dup dX11_init_35 rfl ?_
  refine hk_callC (mi' := hm_X8_init) (As := []) (k' := 111) (n' := 7562) dX11_init_36 (Or.inr ⟨"HourHouse", by decide +kernel⟩) ko_X8 (Nat.le_of_ble_eq_true rfl) (mg_X8 K b2) rfl rfl (Nat.le_of_ble_eq_true rfl) (Nat.le_of_ble_eq_true rfl) (fun w2 h2 => ?_)
  refine hk_putE [.ref b0, .ref b1, .int (Int32.ofInt (0)), .ref b2, .null, .null, .null, .int 0, .null, .null, .null, .null, .null] (L := 13) dX11_init_39 kq_X11_26 rfl rfl rfl (Nat.le_of_ble_eq_true rfl) rfl ?_
  refine hk_aload dX11_init_42 rfl ?_
  refine hk_newC (ci := 10) (N := 5) (k' := 112) (n' := 7567) dX11_init_43 kn_X11_30 rfl rfl (Nat.le_of_ble_eq_true rfl) (Nat.le_of_ble_eq_true rfl) (fun b3 => ?_)
  refine hk_dup dX11_init_46 rfl ?_
  refine hk_aload dX11_init_47 rfl ?_
  refine hk_get dX11_init_48 kq_X11_10 rfl ?_
  refine hk_callC (mi' := hm_X10_init) (As := [.ref b0]) (k' := 116) (n' := 7957) dX11_init_51 (Or.inl (hh_in 481 (by decide +kernel) (by decide +kernel))) ko_X10 (Nat.le_of_ble_eq_true rfl) (mg_X10 K b3 b0) rfl rfl (Nat.le_of_ble_eq_true rfl) (Nat.le_of_ble_eq_true rfl) (fun w3 h3 => ?_)
  refine hk_putE [.ref b0, .ref b1, .int (Int32.ofInt (0)), .ref b2, .ref b3, .null, .null, .int 0, .null, .null, .null, .null, .null] (L := 13) dX11_init_54 kq_X11_35 rfl rfl rfl (Nat.le_of_ble_eq_true rfl) rfl ?_
  refine hk_aload dX11_init_57 rfl ?_
  refine hk_newC (ci := 7) (N := 7) (k' := 117) (n' := 7964) dX11_init_58 kn_X11_39 rfl rfl (Nat.le_of_ble_eq_true rfl) (Nat.le_of_ble_eq_true rfl) (fun b4 => ?_)
  refine hk_dup dX11_init_61 rfl ?_
  refine hk_aload dX11_init_62 rfl ?_
  refine hk_get dX11_init_63 kq_X11_10 rfl ?_
  refine hk_callC (mi' := hm_X7_init) (As := [.ref b0]) (k' := 121) (n' := 8032) dX11_init_66 (Or.inl (hh_in 504 (by decide +kernel) (by decide +kernel))) ko_X7 (Nat.le_of_ble_eq_true rfl) (mg_X7 K b4 b0) rfl rfl (Nat.le_of_ble_eq_true rfl) (Nat.le_of_ble_eq_true rfl) (fun w4 h4 => ?_)
  refine hk_putE [.ref b0, .ref b1, .int (Int32.ofInt (0)), .ref b2, .ref b3, .ref b4, .null, .int 0, .null, .null, .null, .null, .null] (L := 13) dX11_init_69 kq_X11_42 rfl rfl rfl (Nat.le_of_ble_eq_true rfl) rfl ?_
  refine hk_aload dX11_init_72 rfl ?_
  refine hk_bipush dX11_init_73 (by decide) ?_
  refine hk_newaC (t := 0) (N := 20) (ty := .int) (k' := 122) (n' := 8052) dX11_init_75 (hh_in 134 (by decide +kernel) (by decide +kernel)) rfl rfl (fun _ _ _ h1 h2 => Option.some.inj (h1.symm.trans h2)) (fun _ => rfl) (by decide) (by decide) (Nat.le_of_ble_eq_true rfl) rfl rfl (Nat.le_of_ble_eq_true rfl) (Nat.le_of_ble_eq_true rfl) (fun a5 => ?_)
  refine hk_putE [.ref b0, .ref b1, .int (Int32.ofInt (0)), .ref b2, .ref b3, .ref b4, .ref a5, .int 0, .null, .null, .null, .null, .null] (L := 13) dX11_init_77 kq_X11_46 rfl rfl rfl (Nat.le_of_ble_eq_true rfl) rfl ?_
  refine hk_aload dX11_init_80 rfl ?_
  refine hk_iconst dX11_init_81 ?_
  refine hk_putE [.ref b0, .ref b1, .int (Int32.ofInt (0)), .ref b2, .ref b3, .ref b4, .ref a5, .int (Int32.ofInt (0)), .null, .null, .null, .null, .null] (L := 13) dX11_init_82 kq_X11_50 rfl rfl rfl (Nat.le_of_ble_eq_true rfl) rfl ?_
  refine hk_aload dX11_init_85 rfl ?_
  refine hk_bipush dX11_init_86 (by decide) ?_
  refine hk_newaC (t := 2) (N := 40) (ty := .short) (k' := 123) (n' := 8092) dX11_init_88 (hh_in 572 (by decide +kernel) (by decide +kernel)) rfl rfl (fun _ _ _ h1 h2 => Option.some.inj (h1.symm.trans h2)) (fun _ => rfl) (by decide) (by decide) (Nat.le_of_ble_eq_true rfl) rfl rfl (Nat.le_of_ble_eq_true rfl) (Nat.le_of_ble_eq_true rfl) (fun a6 => ?_)
  refine hk_putE [.ref b0, .ref b1, .int (Int32.ofInt (0)), .ref b2, .ref b3, .ref b4, .ref a5, .int (Int32.ofInt (0)), .ref a6, .null, .null, .null, .null] (L := 13) dX11_init_90 kq_X11_54 rfl rfl rfl (Nat.le_of_ble_eq_true rfl) rfl ?_
  refine hk_aload dX11_init_93 rfl ?_
  refine hk_iconst dX11_init_94 ?_
  refine hk_newaC (t := 0) (N := 2) (ty := .int) (k' := 124) (n' := 8094) dX11_init_95 (hh_in 134 (by decide +kernel) (by decide +kernel)) rfl rfl (fun _ _ _ h1 h2 => Option.some.inj (h1.symm.trans h2)) (fun _ => rfl) (by decide) (by decide) (Nat.le_of_ble_eq_true rfl) rfl rfl (Nat.le_of_ble_eq_true rfl) (Nat.le_of_ble_eq_true rfl) (fun a7 => ?_)
  refine hk_dup dX11_init_97 rfl ?_
  refine hk_iconst dX11_init_98 ?_
  refine hk_iconst dX11_init_99 ?_
  refine hk_iastC dX11_init_100 (hh_vin (by decide) (by decide) ⟨by decide, by decide⟩) ?_
  refine hk_dup dX11_init_101 rfl ?_
  refine hk_iconst dX11_init_102 ?_
  refine hk_iconst dX11_init_103 ?_
  refine hk_iastC dX11_init_104 (hh_vin (by decide) (by decide) ⟨by decide, by decide⟩) ?_
  refine hk_putE [.ref b0, .ref b1, .int (Int32.ofInt (0)), .ref b2, .ref b3, .ref b4, .ref a5, .int (Int32.ofInt (0)), .ref a6, .ref a7, .null, .null, .null] (L := 13) dX11_init_105 kq_X11_58 rfl rfl rfl (Nat.le_of_ble_eq_true rfl) rfl ?_
  refine hk_aload dX11_init_108 rfl ?_
  refine hk_sipush dX11_init_109 (by decide) ?_
  refine hk_newaC (t := 0) (N := 240) (ty := .int) (k' := 125) (n' := 8334) dX11_init_112 (hh_in 134 (by decide +kernel) (by decide +kernel)) rfl rfl (fun _ _ _ h1 h2 => Option.some.inj (h1.symm.trans h2)) (fun _ => rfl) (by decide) (by decide) (Nat.le_of_ble_eq_true rfl) rfl rfl (Nat.le_of_ble_eq_true rfl) (Nat.le_of_ble_eq_true rfl) (fun a8 => ?_)
  refine hk_putE [.ref b0, .ref b1, .int (Int32.ofInt (0)), .ref b2, .ref b3, .ref b4, .ref a5, .int (Int32.ofInt (0)), .ref a6, .ref a7, .ref a8, .null, .null] (L := 13) dX11_init_114 kq_X11_61 rfl rfl rfl (Nat.le_of_ble_eq_true rfl) rfl ?_
  refine hk_aload dX11_init_117 rfl ?_
  refine hk_sipush dX11_init_118 (by decide) ?_
  refine hk_newaC (t := 0) (N := 240) (ty := .int) (k' := 126) (n' := 8574) dX11_init_121 (hh_in 134 (by decide +kernel) (by decide +kernel)) rfl rfl (fun _ _ _ h1 h2 => Option.some.inj (h1.symm.trans h2)) (fun _ => rfl) (by decide) (by decide) (Nat.le_of_ble_eq_true rfl) rfl rfl (Nat.le_of_ble_eq_true rfl) (Nat.le_of_ble_eq_true rfl) (fun a9 => ?_)
  refine hk_putE [.ref b0, .ref b1, .int (Int32.ofInt (0)), .ref b2, .ref b3, .ref b4, .ref a5, .int (Int32.ofInt (0)), .ref a6, .ref a7, .ref a8, .ref a9, .null] (L := 13) dX11_init_123 kq_X11_64 rfl rfl rfl (Nat.le_of_ble_eq_true rfl) rfl ?_
  refine hk_aload dX11_init_126 rfl ?_
  refine hk_iconst dX11_init_127 ?_
  refine hk_newaC (t := 0) (N := 3) (ty := .int) (k' := 127) (n' := 8577) dX11_init_128 (hh_in 134 (by decide +kernel) (by decide +kernel)) rfl rfl (fun _ _ _ h1 h2 => Option.some.inj (h1.symm.trans h2)) (fun _ => rfl) (by decide) (by decide) (Nat.le_of_ble_eq_true rfl) rfl rfl (Nat.le_of_ble_eq_true rfl) (Nat.le_of_ble_eq_true rfl) (fun a10 => ?_)
  refine hk_putE [.ref b0, .ref b1, .int (Int32.ofInt (0)), .ref b2, .ref b3, .ref b4, .ref a5, .int (Int32.ofInt (0)), .ref a6, .ref a7, .ref a8, .ref a9, .ref a10] (L := 13) dX11_init_130 kq_X11_67 rfl rfl rfl (Nat.le_of_ble_eq_true rfl) rfl ?_
  refine hk_ret dX11_init_133 (Nat.le_of_ble_eq_true rfl) (Nat.le_of_ble_eq_true rfl) ?_
  exact hq b0 w0 b1 w1 b2 w2 b3 w3 b4 w4 a5 a6 a7 a8 a9 a10 h0 h1 h2 h3 h4
