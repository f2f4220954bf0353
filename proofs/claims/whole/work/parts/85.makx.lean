/-! making: the constructors (by program) -/
theorem kn_X11_7 : hk_N "HourHouse" 7 4 9 [.null, .null, .null, .null, .null, .null, .null, .null, .int 0] := ⟨RX4, TX4, tyX4, rfl, hu_4, tyX4_ok, hh_in 100 (by decide +kernel) (by decide +kernel), hh_in 101 (by decide +kernel) (by decide +kernel), hh_in 71 (by decide +kernel) (by decide +kernel), fun j hj => by rcases (show j = 0 ∨ j = 1 ∨ j = 2 ∨ j = 3 ∨ j = 4 ∨ j = 5 ∨ j = 6 ∨ j = 7 ∨ j = 8 by omega) with rfl | rfl | rfl | rfl | rfl | rfl | rfl | rfl | rfl <;> rfl⟩
theorem kq_X11_10 : hk_FP "HourHouse" 10 11 0 true (.object "HourHouse$House") := ⟨RX11, TX11, 13, tyX11, rfl, by decide, hu_11, hh_in 532 (by decide +kernel) (by decide +kernel), tyX11_ok, nmX11, rfl, rfl, (by decide +kernel)⟩
theorem kq_X11_16 : hk_FP "HourHouse" 16 11 1 true (.object "HourHouse$House") := ⟨RX11, TX11, 13, tyX11, rfl, by decide, hu_11, hh_in 533 (by decide +kernel) (by decide +kernel), tyX11_ok, nmX11, rfl, rfl, (by decide +kernel)⟩
theorem kq_X11_19 : hk_FP "HourHouse" 19 11 2 false (.boolean) := ⟨RX11, TX11, 13, tyX11, rfl, by decide, hu_11, hh_in 534 (by decide +kernel) (by decide +kernel), tyX11_ok, nmX11, rfl, rfl, (by decide +kernel)⟩
theorem kn_X11_23 : hk_N "HourHouse" 23 8 12 [.null, .int 0, .null, .int 0, .int 0, .int 0, .int 0, .int 0, .int 0, .int 0, .int 0, .int 0] := ⟨RX8, TX8, tyX8, rfl, hu_8, tyX8_ok, hh_in 430 (by decide +kernel) (by decide +kernel), hh_in 431 (by decide +kernel) (by decide +kernel), hh_in 79 (by decide +kernel) (by decide +kernel), fun j hj => by rcases (show j = 0 ∨ j = 1 ∨ j = 2 ∨ j = 3 ∨ j = 4 ∨ j = 5 ∨ j = 6 ∨ j = 7 ∨ j = 8 ∨ j = 9 ∨ j = 10 ∨ j = 11 by omega) with rfl | rfl | rfl | rfl | rfl | rfl | rfl | rfl | rfl | rfl | rfl | rfl <;> rfl⟩
theorem kq_X11_26 : hk_FP "HourHouse" 26 11 3 true (.object "HourHouse$Tape") := ⟨RX11, TX11, 13, tyX11, rfl, by decide, hu_11, hh_in 535 (by decide +kernel) (by decide +kernel), tyX11_ok, nmX11, rfl, rfl, (by decide +kernel)⟩
theorem kn_X11_30 : hk_N "HourHouse" 30 10 5 [.null, .null, .null, .null, .null] := ⟨RX10, TX10, tyX10, rfl, hu_10, tyX10_ok, hh_in 479 (by decide +kernel) (by decide +kernel), hh_in 480 (by decide +kernel) (by decide +kernel), hh_in 80 (by decide +kernel) (by decide +kernel), fun j hj => by rcases (show j = 0 ∨ j = 1 ∨ j = 2 ∨ j = 3 ∨ j = 4 by omega) with rfl | rfl | rfl | rfl | rfl <;> rfl⟩
theorem kq_X11_35 : hk_FP "HourHouse" 35 11 4 true (.object "HourHouse$Worths") := ⟨RX11, TX11, 13, tyX11, rfl, by decide, hu_11, hh_in 536 (by decide +kernel) (by decide +kernel), tyX11_ok, nmX11, rfl, rfl, (by decide +kernel)⟩
theorem kn_X11_39 : hk_N "HourHouse" 39 7 7 [.null, .null, .null, .null, .null, .int 0, .int 0] := ⟨RX7, TX7, tyX7, rfl, hu_7, tyX7_ok, hh_in 502 (by decide +kernel) (by decide +kernel), hh_in 503 (by decide +kernel) (by decide +kernel), hh_in 81 (by decide +kernel) (by decide +kernel), fun j hj => by rcases (show j = 0 ∨ j = 1 ∨ j = 2 ∨ j = 3 ∨ j = 4 ∨ j = 5 ∨ j = 6 by omega) with rfl | rfl | rfl | rfl | rfl | rfl | rfl <;> rfl⟩
theorem kq_X11_42 : hk_FP "HourHouse" 42 11 5 true (.object "HourHouse$Planner") := ⟨RX11, TX11, 13, tyX11, rfl, by decide, hu_11, hh_in 537 (by decide +kernel) (by decide +kernel), tyX11_ok, nmX11, rfl, rfl, (by decide +kernel)⟩
theorem kq_X11_46 : hk_FP "HourHouse" 46 11 6 true (.array .int) := ⟨RX11, TX11, 13, tyX11, rfl, by decide, hu_11, hh_in 538 (by decide +kernel) (by decide +kernel), tyX11_ok, nmX11, rfl, rfl, (by decide +kernel)⟩
theorem kq_X11_50 : hk_FP "HourHouse" 50 11 7 false (.int) := ⟨RX11, TX11, 13, tyX11, rfl, by decide, hu_11, hh_in 539 (by decide +kernel) (by decide +kernel), tyX11_ok, nmX11, rfl, rfl, (by decide +kernel)⟩
theorem kq_X11_54 : hk_FP "HourHouse" 54 11 8 true (.array .short) := ⟨RX11, TX11, 13, tyX11, rfl, by decide, hu_11, hh_in 540 (by decide +kernel) (by decide +kernel), tyX11_ok, nmX11, rfl, rfl, (by decide +kernel)⟩
theorem kq_X11_58 : hk_FP "HourHouse" 58 11 9 true (.array .int) := ⟨RX11, TX11, 13, tyX11, rfl, by decide, hu_11, hh_in 541 (by decide +kernel) (by decide +kernel), tyX11_ok, nmX11, rfl, rfl, (by decide +kernel)⟩
theorem kq_X11_61 : hk_FP "HourHouse" 61 11 10 true (.array .int) := ⟨RX11, TX11, 13, tyX11, rfl, by decide, hu_11, hh_in 542 (by decide +kernel) (by decide +kernel), tyX11_ok, nmX11, rfl, rfl, (by decide +kernel)⟩
theorem kq_X11_64 : hk_FP "HourHouse" 64 11 11 true (.array .int) := ⟨RX11, TX11, 13, tyX11, rfl, by decide, hu_11, hh_in 543 (by decide +kernel) (by decide +kernel), tyX11_ok, nmX11, rfl, rfl, (by decide +kernel)⟩
theorem kq_X11_67 : hk_FP "HourHouse" 67 11 12 true (.array .int) := ⟨RX11, TX11, 13, tyX11, rfl, by decide, hu_11, hh_in 544 (by decide +kernel) (by decide +kernel), tyX11_ok, nmX11, rfl, rfl, (by decide +kernel)⟩
def dl_X11 : List hh_D := .inr (11, [some 1, some 55, none, some 109, some 112, some 117, some 122, none, some 123, some 124, some 125, some 126, some 127]) :: ((((((((((([] ++ dl_X4.map (hk_mp 1 0)) ++ dl_X4.map (hk_mp 55 0)) ++ dl_X8.map (hk_mp 109 0)) ++ dl_X10.map (hk_mp 112 1)) ++ dl_X7.map (hk_mp 117 1)) ++ [.inl (0, 20)]) ++ [.inl (2, 40)]) ++ [.inl (0, 2)]) ++ [.inl (0, 240)]) ++ [.inl (0, 240)]) ++ [.inl (0, 3)])
def sg_X11 : hh_S := fun r => if r = 54 then hk_ru else if r = 108 then hk_ru else if r = 124 then hk_m1 else fun _ => 0
set_option maxHeartbeats 8000000 in
set_option maxRecDepth 20000 in
theorem mk_X11 (K : hk_G) (h0 : Nat) : hk_Sp K 3 127 8577 hm_X11_init [.ref h0] [(h0, .inr (11, [.null, .null, .int 0, .null, .null, .null, .null, .int 0, .null, .null, .null, .null, .null]))] (hk_Q K dl_X11 h0 0 sg_X11) := by
  refine hk_entry (by decide) rfl (Nat.le_of_ble_eq_true rfl) rfl ?_
  refine hk_aload dX11_init_0 rfl ?_
  refine hk_obj dX11_init_1 (hh_in 97 (by decide +kernel) (by decide +kernel)) (hh_in 98 (by decide +kernel) (by decide +kernel)) (hh_in 99 (by decide +kernel) (by decide +kernel)) (by decide) ?_
  refine hk_aload dX11_init_4 rfl ?_
  refine hk_newC (ci := 4) (N := 9) (k' := 1) (n' := 9) dX11_init_5 kn_X11_7 rfl rfl (Nat.le_of_ble_eq_true rfl) (Nat.le_of_ble_eq_true rfl) (fun b0 => ?_)
  refine hk_dup dX11_init_8 rfl ?_
  refine hk_callC (mi' := hm_X4_init) (As := []) (k' := 54) (n' := 3655) dX11_init_9 (Or.inr ⟨"HourHouse", by decide +kernel⟩) ko_X4 (Nat.le_of_ble_eq_true rfl) (mk_X4 K b0) rfl rfl (Nat.le_of_ble_eq_true rfl) (Nat.le_of_ble_eq_true rfl) (fun w0 h0 => ?_)
  obtain ⟨q0, h0a, h0b, rfl⟩ := h0
  refine hk_putE [.ref b0, .null, .int 0, .null, .null, .null, .null, .int 0, .null, .null, .null, .null, .null] (L := 13) dX11_init_12 kq_X11_10 rfl rfl rfl (Nat.le_of_ble_eq_true rfl) rfl ?_
  refine hk_aload dX11_init_15 rfl ?_
  refine hk_newC (ci := 4) (N := 9) (k' := 55) (n' := 3664) dX11_init_16 kn_X11_7 rfl rfl (Nat.le_of_ble_eq_true rfl) (Nat.le_of_ble_eq_true rfl) (fun b1 => ?_)
  refine hk_dup dX11_init_19 rfl ?_
  refine hk_callC (mi' := hm_X4_init) (As := []) (k' := 108) (n' := 7310) dX11_init_20 (Or.inr ⟨"HourHouse", by decide +kernel⟩) ko_X4 (Nat.le_of_ble_eq_true rfl) (mk_X4 K b1) rfl rfl (Nat.le_of_ble_eq_true rfl) (Nat.le_of_ble_eq_true rfl) (fun w1 h1 => ?_)
  obtain ⟨q1, h1a, h1b, rfl⟩ := h1
  refine hk_putE [.ref b0, .ref b1, .int 0, .null, .null, .null, .null, .int 0, .null, .null, .null, .null, .null] (L := 13) dX11_init_23 kq_X11_16 rfl rfl rfl (Nat.le_of_ble_eq_true rfl) rfl ?_
  refine hk_aload dX11_init_26 rfl ?_
  refine hk_iconst dX11_init_27 ?_
  refine hk_putE [.ref b0, .ref b1, .int (Int32.ofInt (0)), .null, .null, .null, .null, .int 0, .null, .null, .null, .null, .null] (L := 13) dX11_init_28 kq_X11_19 rfl rfl rfl (Nat.le_of_ble_eq_true rfl) rfl ?_
  refine hk_aload dX11_init_31 rfl ?_
  refine hk_newC (ci := 8) (N := 12) (k' := 109) (n' := 7322) dX11_init_32 kn_X11_23 rfl rfl (Nat.le_of_ble_eq_true rfl) (Nat.le_of_ble_eq_true rfl) (fun b2 => ?_)
  refine hk_dup dX11_init_35 rfl ?_
  refine hk_callC (mi' := hm_X8_init) (As := []) (k' := 111) (n' := 7562) dX11_init_36 (Or.inr ⟨"HourHouse", by decide +kernel⟩) ko_X8 (Nat.le_of_ble_eq_true rfl) (mk_X8 K b2) rfl rfl (Nat.le_of_ble_eq_true rfl) (Nat.le_of_ble_eq_true rfl) (fun w2 h2 => ?_)
  obtain ⟨q2, h2a, h2b, rfl⟩ := h2
  refine hk_putE [.ref b0, .ref b1, .int (Int32.ofInt (0)), .ref b2, .null, .null, .null, .int 0, .null, .null, .null, .null, .null] (L := 13) dX11_init_39 kq_X11_26 rfl rfl rfl (Nat.le_of_ble_eq_true rfl) rfl ?_
  refine hk_aload dX11_init_42 rfl ?_
  refine hk_newC (ci := 10) (N := 5) (k' := 112) (n' := 7567) dX11_init_43 kn_X11_30 rfl rfl (Nat.le_of_ble_eq_true rfl) (Nat.le_of_ble_eq_true rfl) (fun b3 => ?_)
  refine hk_dup dX11_init_46 rfl ?_
  refine hk_aload dX11_init_47 rfl ?_
  refine hk_get dX11_init_48 kq_X11_10 rfl ?_
  refine hk_callC (mi' := hm_X10_init) (As := [.ref b0]) (k' := 116) (n' := 7957) dX11_init_51 (Or.inl (hh_in 481 (by decide +kernel) (by decide +kernel))) ko_X10 (Nat.le_of_ble_eq_true rfl) (mk_X10 K b3 b0) rfl rfl (Nat.le_of_ble_eq_true rfl) (Nat.le_of_ble_eq_true rfl) (fun w3 h3 => ?_)
  obtain ⟨q3, h3a, h3b, rfl⟩ := h3
  refine hk_putE [.ref b0, .ref b1, .int (Int32.ofInt (0)), .ref b2, .ref b3, .null, .null, .int 0, .null, .null, .null, .null, .null] (L := 13) dX11_init_54 kq_X11_35 rfl rfl rfl (Nat.le_of_ble_eq_true rfl) rfl ?_
  refine hk_aload dX11_init_57 rfl ?_
  refine hk_newC (ci := 7) (N := 7) (k' := 117) (n' := 7964) dX11_init_58 kn_X11_39 rfl rfl (Nat.le_of_ble_eq_true rfl) (Nat.le_of_ble_eq_true rfl) (fun b4 => ?_)
  refine hk_dup dX11_init_61 rfl ?_
  refine hk_aload dX11_init_62 rfl ?_
  refine hk_get dX11_init_63 kq_X11_10 rfl ?_
  refine hk_callC (mi' := hm_X7_init) (As := [.ref b0]) (k' := 121) (n' := 8032) dX11_init_66 (Or.inl (hh_in 504 (by decide +kernel) (by decide +kernel))) ko_X7 (Nat.le_of_ble_eq_true rfl) (mk_X7 K b4 b0) rfl rfl (Nat.le_of_ble_eq_true rfl) (Nat.le_of_ble_eq_true rfl) (fun w4 h4 => ?_)
  obtain ⟨q4, h4a, h4b, rfl⟩ := h4
  refine hk_putE [.ref b0, .ref b1, .int (Int32.ofInt (0)), .ref b2, .ref b3, .ref b4, .null, .int 0, .null, .null, .null, .null, .null] (L := 13) dX11_init_69 kq_X11_42 rfl rfl rfl (Nat.le_of_ble_eq_true rfl) rfl ?_
  refine hk_aload dX11_init_72 rfl ?_
  refine hk_bipush dX11_init_73 (by decide) ?_
  refine hk_newaC (t := 0) (N := 20) (ty := .int) (k' := 122) (n' := 8052) dX11_init_75 (hh_in 134 (by decide +kernel) (by decide +kernel)) rfl rfl (fun _ _ _ h1 h2 => Option.some.inj (h1.symm.trans h2)) (fun _ => rfl) (by decide) (by decide) (Nat.le_of_ble_eq_true rfl) rfl rfl (Nat.le_of_ble_eq_true rfl) (Nat.le_of_ble_eq_true rfl) (fun a5 => ?_)
  refine hk_putE [.ref b0, .ref b1, .int (Int32.ofInt (0)), .ref b2, .ref b3, .ref b4, .ref a5, .int 0, .null, .null, .null, .null, .null] (L := 13) dX11_init_77 kq_X11_46 rfl rfl rfl (Nat.le_of_ble_eq_true rfl) rfl ?_
  refine hk_aload dX11_init_80 rfl ?_
  refine hk_iconst dX11_init_81 ?_
  refine hk_putE [.ref b0, .ref b1, .int (Int32.ofInt (0)), .ref b2, .ref b3, .ref b4, .ref a5, .int (Int32.ofInt (0)), .null, .null, .null, .null, .null] (L := 13) dX11_init_82 kq_X11_50 rfl rfl rfl (Nat.le_of_ble_eq_true rfl) rfl ?_
  refine hk_aload dX11_init_85 rfl ?_
  refine hk_bipush dX11_init_86 (by decide) ?_
  refine hk_newaC (t := 2) (N := 40) (ty := .short) (k' := 123) (n' := 8092) dX11_init_88 (hh_in 572 (by decide +kernel) (by decide +kernel)) rfl rfl (fun _ _ _ h1 h2 => Option.some.inj (h1.symm.trans h2)) (fun _ => rfl) (by decide) (by decide) (Nat.le_of_ble_eq_true rfl) rfl rfl (Nat.le_of_ble_eq_true rfl) (Nat.le_of_ble_eq_true rfl) (fun a6 => ?_)
  refine hk_putE [.ref b0, .ref b1, .int (Int32.ofInt (0)), .ref b2, .ref b3, .ref b4, .ref a5, .int (Int32.ofInt (0)), .ref a6, .null, .null, .null, .null] (L := 13) dX11_init_90 kq_X11_54 rfl rfl rfl (Nat.le_of_ble_eq_true rfl) rfl ?_
  refine hk_aload dX11_init_93 rfl ?_
  refine hk_iconst dX11_init_94 ?_
  refine hk_newaC (t := 0) (N := 2) (ty := .int) (k' := 124) (n' := 8094) dX11_init_95 (hh_in 134 (by decide +kernel) (by decide +kernel)) rfl rfl (fun _ _ _ h1 h2 => Option.some.inj (h1.symm.trans h2)) (fun _ => rfl) (by decide) (by decide) (Nat.le_of_ble_eq_true rfl) rfl rfl (Nat.le_of_ble_eq_true rfl) (Nat.le_of_ble_eq_true rfl) (fun a7 => ?_)
  refine hk_dup dX11_init_97 rfl ?_
  refine hk_iconst dX11_init_98 ?_
  refine hk_iconst dX11_init_99 ?_
  refine hk_iastC dX11_init_100 (hh_vin (by decide) (by decide) ⟨by decide, by decide⟩) ?_
  refine hk_dup dX11_init_101 rfl ?_
  refine hk_iconst dX11_init_102 ?_
  refine hk_iconst dX11_init_103 ?_
  refine hk_iastC dX11_init_104 (hh_vin (by decide) (by decide) ⟨by decide, by decide⟩) ?_
  refine hk_putE [.ref b0, .ref b1, .int (Int32.ofInt (0)), .ref b2, .ref b3, .ref b4, .ref a5, .int (Int32.ofInt (0)), .ref a6, .ref a7, .null, .null, .null] (L := 13) dX11_init_105 kq_X11_58 rfl rfl rfl (Nat.le_of_ble_eq_true rfl) rfl ?_
  refine hk_aload dX11_init_108 rfl ?_
  refine hk_sipush dX11_init_109 (by decide) ?_
  refine hk_newaC (t := 0) (N := 240) (ty := .int) (k' := 125) (n' := 8334) dX11_init_112 (hh_in 134 (by decide +kernel) (by decide +kernel)) rfl rfl (fun _ _ _ h1 h2 => Option.some.inj (h1.symm.trans h2)) (fun _ => rfl) (by decide) (by decide) (Nat.le_of_ble_eq_true rfl) rfl rfl (Nat.le_of_ble_eq_true rfl) (Nat.le_of_ble_eq_true rfl) (fun a8 => ?_)
  refine hk_putE [.ref b0, .ref b1, .int (Int32.ofInt (0)), .ref b2, .ref b3, .ref b4, .ref a5, .int (Int32.ofInt (0)), .ref a6, .ref a7, .ref a8, .null, .null] (L := 13) dX11_init_114 kq_X11_61 rfl rfl rfl (Nat.le_of_ble_eq_true rfl) rfl ?_
  refine hk_aload dX11_init_117 rfl ?_
  refine hk_sipush dX11_init_118 (by decide) ?_
  refine hk_newaC (t := 0) (N := 240) (ty := .int) (k' := 126) (n' := 8574) dX11_init_121 (hh_in 134 (by decide +kernel) (by decide +kernel)) rfl rfl (fun _ _ _ h1 h2 => Option.some.inj (h1.symm.trans h2)) (fun _ => rfl) (by decide) (by decide) (Nat.le_of_ble_eq_true rfl) rfl rfl (Nat.le_of_ble_eq_true rfl) (Nat.le_of_ble_eq_true rfl) (fun a9 => ?_)
  refine hk_putE [.ref b0, .ref b1, .int (Int32.ofInt (0)), .ref b2, .ref b3, .ref b4, .ref a5, .int (Int32.ofInt (0)), .ref a6, .ref a7, .ref a8, .ref a9, .null] (L := 13) dX11_init_123 kq_X11_64 rfl rfl rfl (Nat.le_of_ble_eq_true rfl) rfl ?_
  refine hk_aload dX11_init_126 rfl ?_
  refine hk_iconst dX11_init_127 ?_
  refine hk_newaC (t := 0) (N := 3) (ty := .int) (k' := 127) (n' := 8577) dX11_init_128 (hh_in 134 (by decide +kernel) (by decide +kernel)) rfl rfl (fun _ _ _ h1 h2 => Option.some.inj (h1.symm.trans h2)) (fun _ => rfl) (by decide) (by decide) (Nat.le_of_ble_eq_true rfl) rfl rfl (Nat.le_of_ble_eq_true rfl) (Nat.le_of_ble_eq_true rfl) (fun a10 => ?_)
  refine hk_putE [.ref b0, .ref b1, .int (Int32.ofInt (0)), .ref b2, .ref b3, .ref b4, .ref a5, .int (Int32.ofInt (0)), .ref a6, .ref a7, .ref a8, .ref a9, .ref a10] (L := 13) dX11_init_130 kq_X11_67 rfl rfl rfl (Nat.le_of_ble_eq_true rfl) rfl ?_
  refine hk_ret dX11_init_133 (Nat.le_of_ble_eq_true rfl) (Nat.le_of_ble_eq_true rfl) ?_
  obtain ⟨q, hq⟩ : ∃ q : Nat → Nat, q = (fun k => if k = 0 then h0 else if k < 55 then q0 (k - 1) else if k < 109 then q1 (k - 55) else if k < 112 then q2 (k - 109) else if k < 117 then q3 (k - 112) else if k < 122 then q4 (k - 117) else if k = 122 then a5 else if k = 123 then a6 else if k = 124 then a7 else if k = 125 then a8 else if k = 126 then a9 else if k = 127 then a10 else 0) := ⟨_, rfl⟩
  refine ⟨q, by rw [hq]; rfl, by rw [hq]; rfl, ?_⟩
  have k0 : q 0 = h0 := by rw [hq]; rfl
  have k1 : q 1 = b0 := by rw [hq]; exact h0a
  have e0 : hk_sg K q sg_X11 1 (dl_X4.map (hk_mp 1 0)) = hk_sg K q0 sg_X4 0 dl_X4 := by
    refine hk_sg_sh (off := 1) (B := 54) (E := false) (fun k hk => ?_) (fun k hk => ?_) dl_X4 0 (by decide +kernel) (Nat.le_of_ble_eq_true rfl) (Nat.le_of_ble_eq_true rfl)
    · rcases hk with hk | hk
      · unfold hk_ph
        rw [if_neg (by omega), hq]
        show (if 1 + k = 0 then h0 else if 1 + k < 55 then q0 (1 + k - 1) else if 1 + k < 109 then q1 (1 + k - 55) else if 1 + k < 112 then q2 (1 + k - 109) else if 1 + k < 117 then q3 (1 + k - 112) else if 1 + k < 122 then q4 (1 + k - 117) else if 1 + k = 122 then a5 else if 1 + k = 123 then a6 else if 1 + k = 124 then a7 else if 1 + k = 125 then a8 else if 1 + k = 126 then a9 else if 1 + k = 127 then a10 else 0) = q0 k
        rw [if_neg (by omega), if_pos (by omega), show 1 + k - 1 = k by omega]
      · exact absurd hk.2 (by decide)
    · unfold sg_X11 sg_X4
      by_cases z : k = 53
      · subst z; rfl
      · rw [if_neg z, if_neg (by omega), if_neg (by omega), if_neg (by omega)]
  have k55 : q 55 = b1 := by rw [hq]; exact h1a
  have e1 : hk_sg K q sg_X11 55 (dl_X4.map (hk_mp 55 0)) = hk_sg K q1 sg_X4 0 dl_X4 := by
    refine hk_sg_sh (off := 55) (B := 54) (E := false) (fun k hk => ?_) (fun k hk => ?_) dl_X4 0 (by decide +kernel) (Nat.le_of_ble_eq_true rfl) (Nat.le_of_ble_eq_true rfl)
    · rcases hk with hk | hk
      · unfold hk_ph
        rw [if_neg (by omega), hq]
        show (if 55 + k = 0 then h0 else if 55 + k < 55 then q0 (55 + k - 1) else if 55 + k < 109 then q1 (55 + k - 55) else if 55 + k < 112 then q2 (55 + k - 109) else if 55 + k < 117 then q3 (55 + k - 112) else if 55 + k < 122 then q4 (55 + k - 117) else if 55 + k = 122 then a5 else if 55 + k = 123 then a6 else if 55 + k = 124 then a7 else if 55 + k = 125 then a8 else if 55 + k = 126 then a9 else if 55 + k = 127 then a10 else 0) = q1 k
        rw [if_neg (by omega), if_neg (by omega), if_pos (by omega), show 55 + k - 55 = k by omega]
      · exact absurd hk.2 (by decide)
    · unfold sg_X11 sg_X4
      by_cases z : k = 53
      · subst z; rfl
      · rw [if_neg z, if_neg (by omega), if_neg (by omega), if_neg (by omega)]
  have k109 : q 109 = b2 := by rw [hq]; exact h2a
  have e2 : hk_sg K q sg_X11 109 (dl_X8.map (hk_mp 109 0)) = hk_sg K q2 (fun _ _ => 0) 0 dl_X8 := by
    refine hk_sg_sh (off := 109) (B := 3) (E := false) (fun k hk => ?_) (fun k hk => ?_) dl_X8 0 (by decide +kernel) (Nat.le_of_ble_eq_true rfl) (Nat.le_of_ble_eq_true rfl)
    · rcases hk with hk | hk
      · unfold hk_ph
        rw [if_neg (by omega), hq]
        show (if 109 + k = 0 then h0 else if 109 + k < 55 then q0 (109 + k - 1) else if 109 + k < 109 then q1 (109 + k - 55) else if 109 + k < 112 then q2 (109 + k - 109) else if 109 + k < 117 then q3 (109 + k - 112) else if 109 + k < 122 then q4 (109 + k - 117) else if 109 + k = 122 then a5 else if 109 + k = 123 then a6 else if 109 + k = 124 then a7 else if 109 + k = 125 then a8 else if 109 + k = 126 then a9 else if 109 + k = 127 then a10 else 0) = q2 k
        rw [if_neg (by omega), if_neg (by omega), if_neg (by omega), if_pos (by omega), show 109 + k - 109 = k by omega]
      · exact absurd hk.2 (by decide)
    · unfold sg_X11
      rw [if_neg (by omega), if_neg (by omega), if_neg (by omega)]
  have k112 : q 112 = b3 := by rw [hq]; exact h3a
  have e3 : hk_sg K q sg_X11 112 (dl_X10.map (hk_mp 112 1)) = hk_sg K q3 (fun _ _ => 0) 0 dl_X10 := by
    refine hk_sg_sh (off := 112) (B := 5) (E := true) (fun k hk => ?_) (fun k hk => ?_) dl_X10 0 (by decide +kernel) (Nat.le_of_ble_eq_true rfl) (Nat.le_of_ble_eq_true rfl)
    · rcases hk with hk | hk
      · unfold hk_ph
        rw [if_neg (by omega), hq]
        show (if 112 + k = 0 then h0 else if 112 + k < 55 then q0 (112 + k - 1) else if 112 + k < 109 then q1 (112 + k - 55) else if 112 + k < 112 then q2 (112 + k - 109) else if 112 + k < 117 then q3 (112 + k - 112) else if 112 + k < 122 then q4 (112 + k - 117) else if 112 + k = 122 then a5 else if 112 + k = 123 then a6 else if 112 + k = 124 then a7 else if 112 + k = 125 then a8 else if 112 + k = 126 then a9 else if 112 + k = 127 then a10 else 0) = q3 k
        rw [if_neg (by omega), if_neg (by omega), if_neg (by omega), if_neg (by omega), if_pos (by omega), show 112 + k - 112 = k by omega]
      · rw [hk.1, h3b]; exact k1
    · unfold sg_X11
      rw [if_neg (by omega), if_neg (by omega), if_neg (by omega)]
  have k117 : q 117 = b4 := by rw [hq]; exact h4a
  have e4 : hk_sg K q sg_X11 117 (dl_X7.map (hk_mp 117 1)) = hk_sg K q4 (fun _ _ => 0) 0 dl_X7 := by
    refine hk_sg_sh (off := 117) (B := 5) (E := true) (fun k hk => ?_) (fun k hk => ?_) dl_X7 0 (by decide +kernel) (Nat.le_of_ble_eq_true rfl) (Nat.le_of_ble_eq_true rfl)
    · rcases hk with hk | hk
      · unfold hk_ph
        rw [if_neg (by omega), hq]
        show (if 117 + k = 0 then h0 else if 117 + k < 55 then q0 (117 + k - 1) else if 117 + k < 109 then q1 (117 + k - 55) else if 117 + k < 112 then q2 (117 + k - 109) else if 117 + k < 117 then q3 (117 + k - 112) else if 117 + k < 122 then q4 (117 + k - 117) else if 117 + k = 122 then a5 else if 117 + k = 123 then a6 else if 117 + k = 124 then a7 else if 117 + k = 125 then a8 else if 117 + k = 126 then a9 else if 117 + k = 127 then a10 else 0) = q4 k
        rw [if_neg (by omega), if_neg (by omega), if_neg (by omega), if_neg (by omega), if_neg (by omega), if_pos (by omega), show 117 + k - 117 = k by omega]
      · rw [hk.1, h4b]; exact k1
    · unfold sg_X11
      rw [if_neg (by omega), if_neg (by omega), if_neg (by omega)]
  have k122 : q 122 = a5 := by rw [hq]; rfl
  have e5 : hk_sg K q sg_X11 122 [.inl (0, 20)] = [(a5, .inl (K.1 0, 20, .inl (fun _ => 0)))] := hk_sg_one k122 rfl
  have k123 : q 123 = a6 := by rw [hq]; rfl
  have e6 : hk_sg K q sg_X11 123 [.inl (2, 40)] = [(a6, .inl (K.1 2, 40, .inl (fun _ => 0)))] := hk_sg_one k123 rfl
  have k124 : q 124 = a7 := by rw [hq]; rfl
  have e7 : hk_sg K q sg_X11 124 [.inl (0, 2)] = [(a7, .inl (K.1 0, 2, .inl (upd (upd (fun _ => 0) (Int32.ofInt 0).toNatClampNeg (Int32.ofInt (-1))) (Int32.ofInt 1).toNatClampNeg (Int32.ofInt (-1)))))] := by
    refine hk_sg_one k124 ?_
    show Sum.inl (K.1 0, 2, Sum.inl (fun j : Nat => Int32.ofInt (hk_m1 (j : Int)))) = _
    rw [hk_u_m1]
  have k125 : q 125 = a8 := by rw [hq]; rfl
  have e8 : hk_sg K q sg_X11 125 [.inl (0, 240)] = [(a8, .inl (K.1 0, 240, .inl (fun _ => 0)))] := hk_sg_one k125 rfl
  have k126 : q 126 = a9 := by rw [hq]; rfl
  have e9 : hk_sg K q sg_X11 126 [.inl (0, 240)] = [(a9, .inl (K.1 0, 240, .inl (fun _ => 0)))] := hk_sg_one k126 rfl
  have k127 : q 127 = a10 := by rw [hq]; rfl
  have e10 : hk_sg K q sg_X11 127 [.inl (0, 3)] = [(a10, .inl (K.1 0, 3, .inl (fun _ => 0)))] := hk_sg_one k127 rfl
  have eB := (hk_sg_cat (hk_sg_cat (hk_sg_cat (hk_sg_cat (hk_sg_cat (hk_sg_cat (hk_sg_cat (hk_sg_cat (hk_sg_cat (hk_sg_cat (hk_sg_cat (a := []) (wa := []) rfl rfl e0) rfl e1) rfl e2) rfl e3) rfl e4) rfl e5) rfl e6) rfl e7) rfl e8) rfl e9) rfl e10)
  have eo : hh_en (q, K) sg_X11 0 (.inr (11, [some 1, some 55, none, some 109, some 112, some 117, some 122, none, some 123, some 124, some 125, some 126, some 127])) = Sum.inr (11, [Value.ref (q 1), Value.ref (q 55), Value.int (Int32.ofInt (sg_X11 0 2)), Value.ref (q 109), Value.ref (q 112), Value.ref (q 117), Value.ref (q 122), Value.int (Int32.ofInt (sg_X11 0 7)), Value.ref (q 123), Value.ref (q 124), Value.ref (q 125), Value.ref (q 126), Value.ref (q 127)]) := rfl
  rw [k1, k55, k109, k112, k117, k122, k123, k124, k125, k126, k127] at eo
  show _ = (q 0, hh_en (q, K) sg_X11 0 (.inr (11, [some 1, some 55, none, some 109, some 112, some 117, some 122, none, some 123, some 124, some 125, some 126, some 127]))) :: hk_sg K q sg_X11 1 _
  rw [eo, k0, eB]
  rfl

