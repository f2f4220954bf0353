/-! making: the constructors (by program) -/
theorem kq_X12_7 : hk_FP "HourHouseModel" 7 12 0 true (.array .int) := ⟨RX12, TX12, 35, tyX12, rfl, by decide, hu_12, hh_in 1228 (by decide +kernel) (by decide +kernel), tyX12_ok, nmX12, rfl, rfl, (by decide +kernel)⟩
theorem kq_X12_13 : hk_FP "HourHouseModel" 13 12 1 true (.array .int) := ⟨RX12, TX12, 35, tyX12, rfl, by decide, hu_12, hh_in 1229 (by decide +kernel) (by decide +kernel), tyX12_ok, nmX12, rfl, rfl, (by decide +kernel)⟩
theorem kq_X12_16 : hk_FP "HourHouseModel" 16 12 3 true (.array .int) := ⟨RX12, TX12, 35, tyX12, rfl, by decide, hu_12, hh_in 1231 (by decide +kernel) (by decide +kernel), tyX12_ok, nmX12, rfl, rfl, (by decide +kernel)⟩
theorem kq_X12_19 : hk_FP "HourHouseModel" 19 12 4 true (.array .int) := ⟨RX12, TX12, 35, tyX12, rfl, by decide, hu_12, hh_in 1232 (by decide +kernel) (by decide +kernel), tyX12_ok, nmX12, rfl, rfl, (by decide +kernel)⟩
theorem kq_X12_22 : hk_FP "HourHouseModel" 22 12 5 true (.array .int) := ⟨RX12, TX12, 35, tyX12, rfl, by decide, hu_12, hh_in 1233 (by decide +kernel) (by decide +kernel), tyX12_ok, nmX12, rfl, rfl, (by decide +kernel)⟩
theorem kq_X12_25 : hk_FP "HourHouseModel" 25 12 16 true (.array .int) := ⟨RX12, TX12, 35, tyX12, rfl, by decide, hu_12, hh_in 1244 (by decide +kernel) (by decide +kernel), tyX12_ok, nmX12, rfl, rfl, (by decide +kernel)⟩
theorem kq_X12_28 : hk_FP "HourHouseModel" 28 12 17 true (.array .int) := ⟨RX12, TX12, 35, tyX12, rfl, by decide, hu_12, hh_in 1245 (by decide +kernel) (by decide +kernel), tyX12_ok, nmX12, rfl, rfl, (by decide +kernel)⟩
theorem kq_X12_31 : hk_FP "HourHouseModel" 31 12 21 true (.array .int) := ⟨RX12, TX12, 35, tyX12, rfl, by decide, hu_12, hh_in 1249 (by decide +kernel) (by decide +kernel), tyX12_ok, nmX12, rfl, rfl, (by decide +kernel)⟩
theorem kq_X12_34 : hk_FP "HourHouseModel" 34 12 22 true (.array .int) := ⟨RX12, TX12, 35, tyX12, rfl, by decide, hu_12, hh_in 1250 (by decide +kernel) (by decide +kernel), tyX12_ok, nmX12, rfl, rfl, (by decide +kernel)⟩
theorem kq_X12_37 : hk_FP "HourHouseModel" 37 12 23 true (.array .int) := ⟨RX12, TX12, 35, tyX12, rfl, by decide, hu_12, hh_in 1251 (by decide +kernel) (by decide +kernel), tyX12_ok, nmX12, rfl, rfl, (by decide +kernel)⟩
theorem kq_X12_40 : hk_FP "HourHouseModel" 40 12 24 true (.array .int) := ⟨RX12, TX12, 35, tyX12, rfl, by decide, hu_12, hh_in 1252 (by decide +kernel) (by decide +kernel), tyX12_ok, nmX12, rfl, rfl, (by decide +kernel)⟩
theorem kq_X12_43 : hk_FP "HourHouseModel" 43 12 25 true (.array .int) := ⟨RX12, TX12, 35, tyX12, rfl, by decide, hu_12, hh_in 1253 (by decide +kernel) (by decide +kernel), tyX12_ok, nmX12, rfl, rfl, (by decide +kernel)⟩
theorem kq_X12_46 : hk_FP "HourHouseModel" 46 12 26 true (.array .int) := ⟨RX12, TX12, 35, tyX12, rfl, by decide, hu_12, hh_in 1254 (by decide +kernel) (by decide +kernel), tyX12_ok, nmX12, rfl, rfl, (by decide +kernel)⟩
theorem kq_X12_49 : hk_FP "HourHouseModel" 49 12 27 true (.array .int) := ⟨RX12, TX12, 35, tyX12, rfl, by decide, hu_12, hh_in 1255 (by decide +kernel) (by decide +kernel), tyX12_ok, nmX12, rfl, rfl, (by decide +kernel)⟩
theorem kq_X12_52 : hk_FP "HourHouseModel" 52 12 28 true (.array .int) := ⟨RX12, TX12, 35, tyX12, rfl, by decide, hu_12, hh_in 1256 (by decide +kernel) (by decide +kernel), tyX12_ok, nmX12, rfl, rfl, (by decide +kernel)⟩
theorem kq_X12_55 : hk_FP "HourHouseModel" 55 12 30 true (.array .int) := ⟨RX12, TX12, 35, tyX12, rfl, by decide, hu_12, hh_in 1258 (by decide +kernel) (by decide +kernel), tyX12_ok, nmX12, rfl, rfl, (by decide +kernel)⟩
theorem kq_X12_58 : hk_FP "HourHouseModel" 58 12 32 true (.array .int) := ⟨RX12, TX12, 35, tyX12, rfl, by decide, hu_12, hh_in 1260 (by decide +kernel) (by decide +kernel), tyX12_ok, nmX12, rfl, rfl, (by decide +kernel)⟩
theorem kq_X12_61 : hk_FP "HourHouseModel" 61 12 33 true (.array .int) := ⟨RX12, TX12, 35, tyX12, rfl, by decide, hu_12, hh_in 1261 (by decide +kernel) (by decide +kernel), tyX12_ok, nmX12, rfl, rfl, (by decide +kernel)⟩
theorem kq_X12_64 : hk_FP "HourHouseModel" 64 12 34 true (.array .int) := ⟨RX12, TX12, 35, tyX12, rfl, by decide, hu_12, hh_in 1262 (by decide +kernel) (by decide +kernel), tyX12_ok, nmX12, rfl, rfl, (by decide +kernel)⟩
def dl_X12 : List hh_D := [.inr (12, [some 1, some 2, none, some 3, some 4, some 5, none, none, none, none, none, none, none, none, none, none, some 6, some 7, none, none, none, some 8, some 9, some 10, some 11, some 12, some 13, some 14, some 15, none, some 16, none, some 17, some 18, some 19]), .inl (0, 9100), .inl (0, 9100), .inl (0, 240), .inl (0, 240), .inl (0, 120), .inl (0, 482), .inl (0, 130), .inl (0, 130), .inl (0, 128), .inl (0, 3), .inl (0, 90), .inl (0, 7), .inl (0, 7), .inl (0, 7), .inl (0, 8), .inl (0, 20), .inl (0, 40), .inl (0, 2), .inl (0, 20)]
def sg_X12 : hh_S := fun r => if r = 1 then hk_rs else if r = 18 then hk_m1 else fun _ => 0
set_option maxHeartbeats 8000000 in
set_option maxRecDepth 20000 in
theorem mk_X12 (K : hk_G) (h0 : Nat) : hk_Sp K 1 19 19874 hm_X12_init [.ref h0] [(h0, .inr (12, [.null, .null, .int 0, .null, .null, .null, .int 0, .int 0, .int 0, .int 0, .int 0, .int 0, .int 0, .int 0, .int 0, .int 0, .null, .null, .int 0, .int 0, .int 0, .null, .null, .null, .null, .null, .null, .null, .null, .int 0, .null, .int 0, .null, .null, .null]))] (hk_Q K dl_X12 h0 0 sg_X12) := by
  refine hk_entry (by decide) rfl (Nat.le_of_ble_eq_true rfl) rfl ?_
  refine hk_aload dX12_init_0 rfl ?_
  refine hk_obj dX12_init_1 (hh_in 1227 (by decide +kernel) (by decide +kernel)) (hh_in 98 (by decide +kernel) (by decide +kernel)) (hh_in 99 (by decide +kernel) (by decide +kernel)) (by decide) ?_
  refine hk_aload dX12_init_4 rfl ?_
  refine hk_sipush dX12_init_5 (by decide) ?_
  refine hk_newaC (t := 0) (N := 9100) (ty := .int) (k' := 1) (n' := 9100) dX12_init_8 (hh_in 134 (by decide +kernel) (by decide +kernel)) rfl rfl (fun _ _ _ h1 h2 => Option.some.inj (h1.symm.trans h2)) (fun _ => rfl) (by decide) (by decide) (Nat.le_of_ble_eq_true rfl) rfl rfl (Nat.le_of_ble_eq_true rfl) (Nat.le_of_ble_eq_true rfl) (fun a0 => ?_)
  refine hk_putE [.ref a0, .null, .int 0, .null, .null, .null, .int 0, .int 0, .int 0, .int 0, .int 0, .int 0, .int 0, .int 0, .int 0, .int 0, .null, .null, .int 0, .int 0, .int 0, .null, .null, .null, .null, .null, .null, .null, .null, .int 0, .null, .int 0, .null, .null, .null] (L := 35) dX12_init_10 kq_X12_7 rfl rfl rfl (Nat.le_of_ble_eq_true rfl) rfl ?_
  refine hk_aload dX12_init_13 rfl ?_
  refine hk_sipush dX12_init_14 (by decide) ?_
  refine hk_newaC (t := 0) (N := 9100) (ty := .int) (k' := 2) (n' := 18200) dX12_init_17 (hh_in 134 (by decide +kernel) (by decide +kernel)) rfl rfl (fun _ _ _ h1 h2 => Option.some.inj (h1.symm.trans h2)) (fun _ => rfl) (by decide) (by decide) (Nat.le_of_ble_eq_true rfl) rfl rfl (Nat.le_of_ble_eq_true rfl) (Nat.le_of_ble_eq_true rfl) (fun a1 => ?_)
  refine hk_putE [.ref a0, .ref a1, .int 0, .null, .null, .null, .int 0, .int 0, .int 0, .int 0, .int 0, .int 0, .int 0, .int 0, .int 0, .int 0, .null, .null, .int 0, .int 0, .int 0, .null, .null, .null, .null, .null, .null, .null, .null, .int 0, .null, .int 0, .null, .null, .null] (L := 35) dX12_init_19 kq_X12_13 rfl rfl rfl (Nat.le_of_ble_eq_true rfl) rfl ?_
  refine hk_aload dX12_init_22 rfl ?_
  refine hk_sipush dX12_init_23 (by decide) ?_
  refine hk_newaC (t := 0) (N := 240) (ty := .int) (k' := 3) (n' := 18440) dX12_init_26 (hh_in 134 (by decide +kernel) (by decide +kernel)) rfl rfl (fun _ _ _ h1 h2 => Option.some.inj (h1.symm.trans h2)) (fun _ => rfl) (by decide) (by decide) (Nat.le_of_ble_eq_true rfl) rfl rfl (Nat.le_of_ble_eq_true rfl) (Nat.le_of_ble_eq_true rfl) (fun a2 => ?_)
  refine hk_putE [.ref a0, .ref a1, .int 0, .ref a2, .null, .null, .int 0, .int 0, .int 0, .int 0, .int 0, .int 0, .int 0, .int 0, .int 0, .int 0, .null, .null, .int 0, .int 0, .int 0, .null, .null, .null, .null, .null, .null, .null, .null, .int 0, .null, .int 0, .null, .null, .null] (L := 35) dX12_init_28 kq_X12_16 rfl rfl rfl (Nat.le_of_ble_eq_true rfl) rfl ?_
  refine hk_aload dX12_init_31 rfl ?_
  refine hk_sipush dX12_init_32 (by decide) ?_
  refine hk_newaC (t := 0) (N := 240) (ty := .int) (k' := 4) (n' := 18680) dX12_init_35 (hh_in 134 (by decide +kernel) (by decide +kernel)) rfl rfl (fun _ _ _ h1 h2 => Option.some.inj (h1.symm.trans h2)) (fun _ => rfl) (by decide) (by decide) (Nat.le_of_ble_eq_true rfl) rfl rfl (Nat.le_of_ble_eq_true rfl) (Nat.le_of_ble_eq_true rfl) (fun a3 => ?_)
  refine hk_putE [.ref a0, .ref a1, .int 0, .ref a2, .ref a3, .null, .int 0, .int 0, .int 0, .int 0, .int 0, .int 0, .int 0, .int 0, .int 0, .int 0, .null, .null, .int 0, .int 0, .int 0, .null, .null, .null, .null, .null, .null, .null, .null, .int 0, .null, .int 0, .null, .null, .null] (L := 35) dX12_init_37 kq_X12_19 rfl rfl rfl (Nat.le_of_ble_eq_true rfl) rfl ?_
  refine hk_aload dX12_init_40 rfl ?_
  refine hk_bipush dX12_init_41 (by decide) ?_
  refine hk_newaC (t := 0) (N := 120) (ty := .int) (k' := 5) (n' := 18800) dX12_init_43 (hh_in 134 (by decide +kernel) (by decide +kernel)) rfl rfl (fun _ _ _ h1 h2 => Option.some.inj (h1.symm.trans h2)) (fun _ => rfl) (by decide) (by decide) (Nat.le_of_ble_eq_true rfl) rfl rfl (Nat.le_of_ble_eq_true rfl) (Nat.le_of_ble_eq_true rfl) (fun a4 => ?_)
  refine hk_putE [.ref a0, .ref a1, .int 0, .ref a2, .ref a3, .ref a4, .int 0, .int 0, .int 0, .int 0, .int 0, .int 0, .int 0, .int 0, .int 0, .int 0, .null, .null, .int 0, .int 0, .int 0, .null, .null, .null, .null, .null, .null, .null, .null, .int 0, .null, .int 0, .null, .null, .null] (L := 35) dX12_init_45 kq_X12_22 rfl rfl rfl (Nat.le_of_ble_eq_true rfl) rfl ?_
  refine hk_aload dX12_init_48 rfl ?_
  refine hk_sipush dX12_init_49 (by decide) ?_
  refine hk_newaC (t := 0) (N := 482) (ty := .int) (k' := 6) (n' := 19282) dX12_init_52 (hh_in 134 (by decide +kernel) (by decide +kernel)) rfl rfl (fun _ _ _ h1 h2 => Option.some.inj (h1.symm.trans h2)) (fun _ => rfl) (by decide) (by decide) (Nat.le_of_ble_eq_true rfl) rfl rfl (Nat.le_of_ble_eq_true rfl) (Nat.le_of_ble_eq_true rfl) (fun a5 => ?_)
  refine hk_putE [.ref a0, .ref a1, .int 0, .ref a2, .ref a3, .ref a4, .int 0, .int 0, .int 0, .int 0, .int 0, .int 0, .int 0, .int 0, .int 0, .int 0, .ref a5, .null, .int 0, .int 0, .int 0, .null, .null, .null, .null, .null, .null, .null, .null, .int 0, .null, .int 0, .null, .null, .null] (L := 35) dX12_init_54 kq_X12_25 rfl rfl rfl (Nat.le_of_ble_eq_true rfl) rfl ?_
  refine hk_aload dX12_init_57 rfl ?_
  refine hk_sipush dX12_init_58 (by decide) ?_
  refine hk_newaC (t := 0) (N := 130) (ty := .int) (k' := 7) (n' := 19412) dX12_init_61 (hh_in 134 (by decide +kernel) (by decide +kernel)) rfl rfl (fun _ _ _ h1 h2 => Option.some.inj (h1.symm.trans h2)) (fun _ => rfl) (by decide) (by decide) (Nat.le_of_ble_eq_true rfl) rfl rfl (Nat.le_of_ble_eq_true rfl) (Nat.le_of_ble_eq_true rfl) (fun a6 => ?_)
  refine hk_putE [.ref a0, .ref a1, .int 0, .ref a2, .ref a3, .ref a4, .int 0, .int 0, .int 0, .int 0, .int 0, .int 0, .int 0, .int 0, .int 0, .int 0, .ref a5, .ref a6, .int 0, .int 0, .int 0, .null, .null, .null, .null, .null, .null, .null, .null, .int 0, .null, .int 0, .null, .null, .null] (L := 35) dX12_init_63 kq_X12_28 rfl rfl rfl (Nat.le_of_ble_eq_true rfl) rfl ?_
  refine hk_aload dX12_init_66 rfl ?_
  refine hk_sipush dX12_init_67 (by decide) ?_
  refine hk_newaC (t := 0) (N := 130) (ty := .int) (k' := 8) (n' := 19542) dX12_init_70 (hh_in 134 (by decide +kernel) (by decide +kernel)) rfl rfl (fun _ _ _ h1 h2 => Option.some.inj (h1.symm.trans h2)) (fun _ => rfl) (by decide) (by decide) (Nat.le_of_ble_eq_true rfl) rfl rfl (Nat.le_of_ble_eq_true rfl) (Nat.le_of_ble_eq_true rfl) (fun a7 => ?_)
  refine hk_putE [.ref a0, .ref a1, .int 0, .ref a2, .ref a3, .ref a4, .int 0, .int 0, .int 0, .int 0, .int 0, .int 0, .int 0, .int 0, .int 0, .int 0, .ref a5, .ref a6, .int 0, .int 0, .int 0, .ref a7, .null, .null, .null, .null, .null, .null, .null, .int 0, .null, .int 0, .null, .null, .null] (L := 35) dX12_init_72 kq_X12_31 rfl rfl rfl (Nat.le_of_ble_eq_true rfl) rfl ?_
  refine hk_aload dX12_init_75 rfl ?_
  refine hk_sipush dX12_init_76 (by decide) ?_
  refine hk_newaC (t := 0) (N := 128) (ty := .int) (k' := 9) (n' := 19670) dX12_init_79 (hh_in 134 (by decide +kernel) (by decide +kernel)) rfl rfl (fun _ _ _ h1 h2 => Option.some.inj (h1.symm.trans h2)) (fun _ => rfl) (by decide) (by decide) (Nat.le_of_ble_eq_true rfl) rfl rfl (Nat.le_of_ble_eq_true rfl) (Nat.le_of_ble_eq_true rfl) (fun a8 => ?_)
  refine hk_putE [.ref a0, .ref a1, .int 0, .ref a2, .ref a3, .ref a4, .int 0, .int 0, .int 0, .int 0, .int 0, .int 0, .int 0, .int 0, .int 0, .int 0, .ref a5, .ref a6, .int 0, .int 0, .int 0, .ref a7, .ref a8, .null, .null, .null, .null, .null, .null, .int 0, .null, .int 0, .null, .null, .null] (L := 35) dX12_init_81 kq_X12_34 rfl rfl rfl (Nat.le_of_ble_eq_true rfl) rfl ?_
  refine hk_aload dX12_init_84 rfl ?_
  refine hk_iconst dX12_init_85 ?_
  refine hk_newaC (t := 0) (N := 3) (ty := .int) (k' := 10) (n' := 19673) dX12_init_86 (hh_in 134 (by decide +kernel) (by decide +kernel)) rfl rfl (fun _ _ _ h1 h2 => Option.some.inj (h1.symm.trans h2)) (fun _ => rfl) (by decide) (by decide) (Nat.le_of_ble_eq_true rfl) rfl rfl (Nat.le_of_ble_eq_true rfl) (Nat.le_of_ble_eq_true rfl) (fun a9 => ?_)
  refine hk_putE [.ref a0, .ref a1, .int 0, .ref a2, .ref a3, .ref a4, .int 0, .int 0, .int 0, .int 0, .int 0, .int 0, .int 0, .int 0, .int 0, .int 0, .ref a5, .ref a6, .int 0, .int 0, .int 0, .ref a7, .ref a8, .ref a9, .null, .null, .null, .null, .null, .int 0, .null, .int 0, .null, .null, .null] (L := 35) dX12_init_88 kq_X12_37 rfl rfl rfl (Nat.le_of_ble_eq_true rfl) rfl ?_
  refine hk_aload dX12_init_91 rfl ?_
  refine hk_bipush dX12_init_92 (by decide) ?_
  refine hk_newaC (t := 0) (N := 90) (ty := .int) (k' := 11) (n' := 19763) dX12_init_94 (hh_in 134 (by decide +kernel) (by decide +kernel)) rfl rfl (fun _ _ _ h1 h2 => Option.some.inj (h1.symm.trans h2)) (fun _ => rfl) (by decide) (by decide) (Nat.le_of_ble_eq_true rfl) rfl rfl (Nat.le_of_ble_eq_true rfl) (Nat.le_of_ble_eq_true rfl) (fun a10 => ?_)
  refine hk_putE [.ref a0, .ref a1, .int 0, .ref a2, .ref a3, .ref a4, .int 0, .int 0, .int 0, .int 0, .int 0, .int 0, .int 0, .int 0, .int 0, .int 0, .ref a5, .ref a6, .int 0, .int 0, .int 0, .ref a7, .ref a8, .ref a9, .ref a10, .null, .null, .null, .null, .int 0, .null, .int 0, .null, .null, .null] (L := 35) dX12_init_96 kq_X12_40 rfl rfl rfl (Nat.le_of_ble_eq_true rfl) rfl ?_
  refine hk_aload dX12_init_99 rfl ?_
  refine hk_bipush dX12_init_100 (by decide) ?_
  refine hk_newaC (t := 0) (N := 7) (ty := .int) (k' := 12) (n' := 19770) dX12_init_102 (hh_in 134 (by decide +kernel) (by decide +kernel)) rfl rfl (fun _ _ _ h1 h2 => Option.some.inj (h1.symm.trans h2)) (fun _ => rfl) (by decide) (by decide) (Nat.le_of_ble_eq_true rfl) rfl rfl (Nat.le_of_ble_eq_true rfl) (Nat.le_of_ble_eq_true rfl) (fun a11 => ?_)
  refine hk_putE [.ref a0, .ref a1, .int 0, .ref a2, .ref a3, .ref a4, .int 0, .int 0, .int 0, .int 0, .int 0, .int 0, .int 0, .int 0, .int 0, .int 0, .ref a5, .ref a6, .int 0, .int 0, .int 0, .ref a7, .ref a8, .ref a9, .ref a10, .ref a11, .null, .null, .null, .int 0, .null, .int 0, .null, .null, .null] (L := 35) dX12_init_104 kq_X12_43 rfl rfl rfl (Nat.le_of_ble_eq_true rfl) rfl ?_
  refine hk_aload dX12_init_107 rfl ?_
  refine hk_bipush dX12_init_108 (by decide) ?_
  refine hk_newaC (t := 0) (N := 7) (ty := .int) (k' := 13) (n' := 19777) dX12_init_110 (hh_in 134 (by decide +kernel) (by decide +kernel)) rfl rfl (fun _ _ _ h1 h2 => Option.some.inj (h1.symm.trans h2)) (fun _ => rfl) (by decide) (by decide) (Nat.le_of_ble_eq_true rfl) rfl rfl (Nat.le_of_ble_eq_true rfl) (Nat.le_of_ble_eq_true rfl) (fun a12 => ?_)
  refine hk_putE [.ref a0, .ref a1, .int 0, .ref a2, .ref a3, .ref a4, .int 0, .int 0, .int 0, .int 0, .int 0, .int 0, .int 0, .int 0, .int 0, .int 0, .ref a5, .ref a6, .int 0, .int 0, .int 0, .ref a7, .ref a8, .ref a9, .ref a10, .ref a11, .ref a12, .null, .null, .int 0, .null, .int 0, .null, .null, .null] (L := 35) dX12_init_112 kq_X12_46 rfl rfl rfl (Nat.le_of_ble_eq_true rfl) rfl ?_
  refine hk_aload dX12_init_115 rfl ?_
  refine hk_bipush dX12_init_116 (by decide) ?_
  refine hk_newaC (t := 0) (N := 7) (ty := .int) (k' := 14) (n' := 19784) dX12_init_118 (hh_in 134 (by decide +kernel) (by decide +kernel)) rfl rfl (fun _ _ _ h1 h2 => Option.some.inj (h1.symm.trans h2)) (fun _ => rfl) (by decide) (by decide) (Nat.le_of_ble_eq_true rfl) rfl rfl (Nat.le_of_ble_eq_true rfl) (Nat.le_of_ble_eq_true rfl) (fun a13 => ?_)
  refine hk_putE [.ref a0, .ref a1, .int 0, .ref a2, .ref a3, .ref a4, .int 0, .int 0, .int 0, .int 0, .int 0, .int 0, .int 0, .int 0, .int 0, .int 0, .ref a5, .ref a6, .int 0, .int 0, .int 0, .ref a7, .ref a8, .ref a9, .ref a10, .ref a11, .ref a12, .ref a13, .null, .int 0, .null, .int 0, .null, .null, .null] (L := 35) dX12_init_120 kq_X12_49 rfl rfl rfl (Nat.le_of_ble_eq_true rfl) rfl ?_
  refine hk_aload dX12_init_123 rfl ?_
  refine hk_bipush dX12_init_124 (by decide) ?_
  refine hk_newaC (t := 0) (N := 8) (ty := .int) (k' := 15) (n' := 19792) dX12_init_126 (hh_in 134 (by decide +kernel) (by decide +kernel)) rfl rfl (fun _ _ _ h1 h2 => Option.some.inj (h1.symm.trans h2)) (fun _ => rfl) (by decide) (by decide) (Nat.le_of_ble_eq_true rfl) rfl rfl (Nat.le_of_ble_eq_true rfl) (Nat.le_of_ble_eq_true rfl) (fun a14 => ?_)
  refine hk_putE [.ref a0, .ref a1, .int 0, .ref a2, .ref a3, .ref a4, .int 0, .int 0, .int 0, .int 0, .int 0, .int 0, .int 0, .int 0, .int 0, .int 0, .ref a5, .ref a6, .int 0, .int 0, .int 0, .ref a7, .ref a8, .ref a9, .ref a10, .ref a11, .ref a12, .ref a13, .ref a14, .int 0, .null, .int 0, .null, .null, .null] (L := 35) dX12_init_128 kq_X12_52 rfl rfl rfl (Nat.le_of_ble_eq_true rfl) rfl ?_
  refine hk_aload dX12_init_131 rfl ?_
  refine hk_bipush dX12_init_132 (by decide) ?_
  refine hk_newaC (t := 0) (N := 20) (ty := .int) (k' := 16) (n' := 19812) dX12_init_134 (hh_in 134 (by decide +kernel) (by decide +kernel)) rfl rfl (fun _ _ _ h1 h2 => Option.some.inj (h1.symm.trans h2)) (fun _ => rfl) (by decide) (by decide) (Nat.le_of_ble_eq_true rfl) rfl rfl (Nat.le_of_ble_eq_true rfl) (Nat.le_of_ble_eq_true rfl) (fun a15 => ?_)
  refine hk_putE [.ref a0, .ref a1, .int 0, .ref a2, .ref a3, .ref a4, .int 0, .int 0, .int 0, .int 0, .int 0, .int 0, .int 0, .int 0, .int 0, .int 0, .ref a5, .ref a6, .int 0, .int 0, .int 0, .ref a7, .ref a8, .ref a9, .ref a10, .ref a11, .ref a12, .ref a13, .ref a14, .int 0, .ref a15, .int 0, .null, .null, .null] (L := 35) dX12_init_136 kq_X12_55 rfl rfl rfl (Nat.le_of_ble_eq_true rfl) rfl ?_
  refine hk_aload dX12_init_139 rfl ?_
  refine hk_bipush dX12_init_140 (by decide) ?_
  refine hk_newaC (t := 0) (N := 40) (ty := .int) (k' := 17) (n' := 19852) dX12_init_142 (hh_in 134 (by decide +kernel) (by decide +kernel)) rfl rfl (fun _ _ _ h1 h2 => Option.some.inj (h1.symm.trans h2)) (fun _ => rfl) (by decide) (by decide) (Nat.le_of_ble_eq_true rfl) rfl rfl (Nat.le_of_ble_eq_true rfl) (Nat.le_of_ble_eq_true rfl) (fun a16 => ?_)
  refine hk_putE [.ref a0, .ref a1, .int 0, .ref a2, .ref a3, .ref a4, .int 0, .int 0, .int 0, .int 0, .int 0, .int 0, .int 0, .int 0, .int 0, .int 0, .ref a5, .ref a6, .int 0, .int 0, .int 0, .ref a7, .ref a8, .ref a9, .ref a10, .ref a11, .ref a12, .ref a13, .ref a14, .int 0, .ref a15, .int 0, .ref a16, .null, .null] (L := 35) dX12_init_144 kq_X12_58 rfl rfl rfl (Nat.le_of_ble_eq_true rfl) rfl ?_
  refine hk_aload dX12_init_147 rfl ?_
  refine hk_iconst dX12_init_148 ?_
  refine hk_newaC (t := 0) (N := 2) (ty := .int) (k' := 18) (n' := 19854) dX12_init_149 (hh_in 134 (by decide +kernel) (by decide +kernel)) rfl rfl (fun _ _ _ h1 h2 => Option.some.inj (h1.symm.trans h2)) (fun _ => rfl) (by decide) (by decide) (Nat.le_of_ble_eq_true rfl) rfl rfl (Nat.le_of_ble_eq_true rfl) (Nat.le_of_ble_eq_true rfl) (fun a17 => ?_)
  refine hk_dup dX12_init_151 rfl ?_
  refine hk_iconst dX12_init_152 ?_
  refine hk_iconst dX12_init_153 ?_
  refine hk_iastC dX12_init_154 (hh_vin (by decide) (by decide) ⟨by decide, by decide⟩) ?_
  refine hk_dup dX12_init_155 rfl ?_
  refine hk_iconst dX12_init_156 ?_
  refine hk_iconst dX12_init_157 ?_
  refine hk_iastC dX12_init_158 (hh_vin (by decide) (by decide) ⟨by decide, by decide⟩) ?_
  refine hk_putE [.ref a0, .ref a1, .int 0, .ref a2, .ref a3, .ref a4, .int 0, .int 0, .int 0, .int 0, .int 0, .int 0, .int 0, .int 0, .int 0, .int 0, .ref a5, .ref a6, .int 0, .int 0, .int 0, .ref a7, .ref a8, .ref a9, .ref a10, .ref a11, .ref a12, .ref a13, .ref a14, .int 0, .ref a15, .int 0, .ref a16, .ref a17, .null] (L := 35) dX12_init_159 kq_X12_61 rfl rfl rfl (Nat.le_of_ble_eq_true rfl) rfl ?_
  refine hk_aload dX12_init_162 rfl ?_
  refine hk_bipush dX12_init_163 (by decide) ?_
  refine hk_newaC (t := 0) (N := 20) (ty := .int) (k' := 19) (n' := 19874) dX12_init_165 (hh_in 134 (by decide +kernel) (by decide +kernel)) rfl rfl (fun _ _ _ h1 h2 => Option.some.inj (h1.symm.trans h2)) (fun _ => rfl) (by decide) (by decide) (Nat.le_of_ble_eq_true rfl) rfl rfl (Nat.le_of_ble_eq_true rfl) (Nat.le_of_ble_eq_true rfl) (fun a18 => ?_)
  refine hk_putE [.ref a0, .ref a1, .int 0, .ref a2, .ref a3, .ref a4, .int 0, .int 0, .int 0, .int 0, .int 0, .int 0, .int 0, .int 0, .int 0, .int 0, .ref a5, .ref a6, .int 0, .int 0, .int 0, .ref a7, .ref a8, .ref a9, .ref a10, .ref a11, .ref a12, .ref a13, .ref a14, .int 0, .ref a15, .int 0, .ref a16, .ref a17, .ref a18] (L := 35) dX12_init_167 kq_X12_64 rfl rfl rfl (Nat.le_of_ble_eq_true rfl) rfl ?_
  refine hk_aload dX12_init_170 rfl ?_
  refine hk_get dX12_init_171 kq_X12_7 rfl ?_
  refine hk_iconst dX12_init_174 ?_
  refine hk_bipush dX12_init_175 (by decide) ?_
  refine hk_iastE (q0 := 1) (N := 9100) [(h0, .inr (12, [.ref a0, .ref a1, .int 0, .ref a2, .ref a3, .ref a4, .int 0, .int 0, .int 0, .int 0, .int 0, .int 0, .int 0, .int 0, .int 0, .int 0, .ref a5, .ref a6, .int 0, .int 0, .int 0, .ref a7, .ref a8, .ref a9, .ref a10, .ref a11, .ref a12, .ref a13, .ref a14, .int 0, .ref a15, .int 0, .ref a16, .ref a17, .ref a18])), (a0, .inl (K.1 0, 9100, .inl (upd (fun _ => 0) (Int32.ofInt 1).toNatClampNeg (Int32.ofInt (120))))), (a1, .inl (K.1 0, 9100, .inl (fun _ => 0))), (a2, .inl (K.1 0, 240, .inl (fun _ => 0))), (a3, .inl (K.1 0, 240, .inl (fun _ => 0))), (a4, .inl (K.1 0, 120, .inl (fun _ => 0))), (a5, .inl (K.1 0, 482, .inl (fun _ => 0))), (a6, .inl (K.1 0, 130, .inl (fun _ => 0))), (a7, .inl (K.1 0, 130, .inl (fun _ => 0))), (a8, .inl (K.1 0, 128, .inl (fun _ => 0))), (a9, .inl (K.1 0, 3, .inl (fun _ => 0))), (a10, .inl (K.1 0, 90, .inl (fun _ => 0))), (a11, .inl (K.1 0, 7, .inl (fun _ => 0))), (a12, .inl (K.1 0, 7, .inl (fun _ => 0))), (a13, .inl (K.1 0, 7, .inl (fun _ => 0))), (a14, .inl (K.1 0, 8, .inl (fun _ => 0))), (a15, .inl (K.1 0, 20, .inl (fun _ => 0))), (a16, .inl (K.1 0, 40, .inl (fun _ => 0))), (a17, .inl (K.1 0, 2, .inl (upd (upd (fun _ => 0) (Int32.ofInt 0).toNatClampNeg (Int32.ofInt (-1))) (Int32.ofInt 1).toNatClampNeg (Int32.ofInt (-1))))), (a18, .inl (K.1 0, 20, .inl (fun _ => 0)))] dX12_init_177 rfl (hh_vin (by decide) (by decide) ⟨by decide, by decide⟩) rfl ?_
  refine hk_aload dX12_init_178 rfl ?_
  refine hk_get dX12_init_179 kq_X12_7 rfl ?_
  refine hk_iconst dX12_init_182 ?_
  refine hk_bipush dX12_init_183 (by decide) ?_
  refine hk_iastE (q0 := 1) (N := 9100) [(h0, .inr (12, [.ref a0, .ref a1, .int 0, .ref a2, .ref a3, .ref a4, .int 0, .int 0, .int 0, .int 0, .int 0, .int 0, .int 0, .int 0, .int 0, .int 0, .ref a5, .ref a6, .int 0, .int 0, .int 0, .ref a7, .ref a8, .ref a9, .ref a10, .ref a11, .ref a12, .ref a13, .ref a14, .int 0, .ref a15, .int 0, .ref a16, .ref a17, .ref a18])), (a0, .inl (K.1 0, 9100, .inl (upd (upd (fun _ => 0) (Int32.ofInt 1).toNatClampNeg (Int32.ofInt (120))) (Int32.ofInt 2).toNatClampNeg (Int32.ofInt (8))))), (a1, .inl (K.1 0, 9100, .inl (fun _ => 0))), (a2, .inl (K.1 0, 240, .inl (fun _ => 0))), (a3, .inl (K.1 0, 240, .inl (fun _ => 0))), (a4, .inl (K.1 0, 120, .inl (fun _ => 0))), (a5, .inl (K.1 0, 482, .inl (fun _ => 0))), (a6, .inl (K.1 0, 130, .inl (fun _ => 0))), (a7, .inl (K.1 0, 130, .inl (fun _ => 0))), (a8, .inl (K.1 0, 128, .inl (fun _ => 0))), (a9, .inl (K.1 0, 3, .inl (fun _ => 0))), (a10, .inl (K.1 0, 90, .inl (fun _ => 0))), (a11, .inl (K.1 0, 7, .inl (fun _ => 0))), (a12, .inl (K.1 0, 7, .inl (fun _ => 0))), (a13, .inl (K.1 0, 7, .inl (fun _ => 0))), (a14, .inl (K.1 0, 8, .inl (fun _ => 0))), (a15, .inl (K.1 0, 20, .inl (fun _ => 0))), (a16, .inl (K.1 0, 40, .inl (fun _ => 0))), (a17, .inl (K.1 0, 2, .inl (upd (upd (fun _ => 0) (Int32.ofInt 0).toNatClampNeg (Int32.ofInt (-1))) (Int32.ofInt 1).toNatClampNeg (Int32.ofInt (-1))))), (a18, .inl (K.1 0, 20, .inl (fun _ => 0)))] dX12_init_185 rfl (hh_vin (by decide) (by decide) ⟨by decide, by decide⟩) rfl ?_
  refine hk_aload dX12_init_186 rfl ?_
  refine hk_get dX12_init_187 kq_X12_7 rfl ?_
  refine hk_iconst dX12_init_190 ?_
  refine hk_bipush dX12_init_191 (by decide) ?_
  refine hk_iastE (q0 := 1) (N := 9100) [(h0, .inr (12, [.ref a0, .ref a1, .int 0, .ref a2, .ref a3, .ref a4, .int 0, .int 0, .int 0, .int 0, .int 0, .int 0, .int 0, .int 0, .int 0, .int 0, .ref a5, .ref a6, .int 0, .int 0, .int 0, .ref a7, .ref a8, .ref a9, .ref a10, .ref a11, .ref a12, .ref a13, .ref a14, .int 0, .ref a15, .int 0, .ref a16, .ref a17, .ref a18])), (a0, .inl (K.1 0, 9100, .inl (upd (upd (upd (fun _ => 0) (Int32.ofInt 1).toNatClampNeg (Int32.ofInt (120))) (Int32.ofInt 2).toNatClampNeg (Int32.ofInt (8))) (Int32.ofInt 3).toNatClampNeg (Int32.ofInt (30))))), (a1, .inl (K.1 0, 9100, .inl (fun _ => 0))), (a2, .inl (K.1 0, 240, .inl (fun _ => 0))), (a3, .inl (K.1 0, 240, .inl (fun _ => 0))), (a4, .inl (K.1 0, 120, .inl (fun _ => 0))), (a5, .inl (K.1 0, 482, .inl (fun _ => 0))), (a6, .inl (K.1 0, 130, .inl (fun _ => 0))), (a7, .inl (K.1 0, 130, .inl (fun _ => 0))), (a8, .inl (K.1 0, 128, .inl (fun _ => 0))), (a9, .inl (K.1 0, 3, .inl (fun _ => 0))), (a10, .inl (K.1 0, 90, .inl (fun _ => 0))), (a11, .inl (K.1 0, 7, .inl (fun _ => 0))), (a12, .inl (K.1 0, 7, .inl (fun _ => 0))), (a13, .inl (K.1 0, 7, .inl (fun _ => 0))), (a14, .inl (K.1 0, 8, .inl (fun _ => 0))), (a15, .inl (K.1 0, 20, .inl (fun _ => 0))), (a16, .inl (K.1 0, 40, .inl (fun _ => 0))), (a17, .inl (K.1 0, 2, .inl (upd (upd (fun _ => 0) (Int32.ofInt 0).toNatClampNeg (Int32.ofInt (-1))) (Int32.ofInt 1).toNatClampNeg (Int32.ofInt (-1))))), (a18, .inl (K.1 0, 20, .inl (fun _ => 0)))] dX12_init_193 rfl (hh_vin (by decide) (by decide) ⟨by decide, by decide⟩) rfl ?_
  refine hk_ret dX12_init_194 (Nat.le_of_ble_eq_true rfl) (Nat.le_of_ble_eq_true rfl) ?_
  refine ⟨fun k => match k with
    | 0 => h0
    | 1 => a0
    | 2 => a1
    | 3 => a2
    | 4 => a3
    | 5 => a4
    | 6 => a5
    | 7 => a6
    | 8 => a7
    | 9 => a8
    | 10 => a9
    | 11 => a10
    | 12 => a11
    | 13 => a12
    | 14 => a13
    | 15 => a14
    | 16 => a15
    | 17 => a16
    | 18 => a17
    | 19 => a18
    | _ => 0, rfl, rfl, ?_⟩
  rw [hk_u_rs, hk_u_m1]
  rfl

