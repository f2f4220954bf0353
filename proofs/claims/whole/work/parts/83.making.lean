/-! making: the constructors (by program) -/
abbrev hm_X6_init : hh_M := (yX6_init, cX6_init, 1, none)
theorem ko_X6 : hk_mok hm_X6_init 0 := ⟨rfl, rfl, hh_in 110 (by decide +kernel) (by decide +kernel), hh_in 72 (by decide +kernel) (by decide +kernel), hh_in 109 (by decide +kernel) (by decide +kernel), ⟨by decide, by decide, (by decide +kernel)⟩, by decide⟩
abbrev hm_X1_init : hh_M := (yX1_init, cX1_init, 1, none)
theorem ko_X1 : hk_mok hm_X1_init 0 := ⟨rfl, rfl, hh_in 139 (by decide +kernel) (by decide +kernel), hh_in 73 (by decide +kernel) (by decide +kernel), hh_in 138 (by decide +kernel) (by decide +kernel), ⟨by decide, by decide, (by decide +kernel)⟩, by decide⟩
abbrev hm_X5_init : hh_M := (yX5_init, cX5_init, 1, none)
theorem ko_X5 : hk_mok hm_X5_init 0 := ⟨rfl, rfl, hh_in 177 (by decide +kernel) (by decide +kernel), hh_in 74 (by decide +kernel) (by decide +kernel), hh_in 176 (by decide +kernel) (by decide +kernel), ⟨by decide, by decide, (by decide +kernel)⟩, by decide⟩
abbrev hm_X3_init : hh_M := (yX3_init, cX3_init, 1, none)
theorem ko_X3 : hk_mok hm_X3_init 0 := ⟨rfl, rfl, hh_in 229 (by decide +kernel) (by decide +kernel), hh_in 75 (by decide +kernel) (by decide +kernel), hh_in 228 (by decide +kernel) (by decide +kernel), ⟨by decide, by decide, (by decide +kernel)⟩, by decide⟩
abbrev hm_X2_init : hh_M := (yX2_init, cX2_init, 1, none)
theorem ko_X2 : hk_mok hm_X2_init 0 := ⟨rfl, rfl, hh_in 292 (by decide +kernel) (by decide +kernel), hh_in 76 (by decide +kernel) (by decide +kernel), hh_in 291 (by decide +kernel) (by decide +kernel), ⟨by decide, by decide, (by decide +kernel)⟩, by decide⟩
abbrev hm_X0_init : hh_M := (yX0_init, cX0_init, 1, none)
theorem ko_X0 : hk_mok hm_X0_init 0 := ⟨rfl, rfl, hh_in 323 (by decide +kernel) (by decide +kernel), hh_in 77 (by decide +kernel) (by decide +kernel), hh_in 322 (by decide +kernel) (by decide +kernel), ⟨by decide, by decide, (by decide +kernel)⟩, by decide⟩
abbrev hm_X9_init : hh_M := (yX9_init, cX9_init, 1, none)
theorem ko_X9 : hk_mok hm_X9_init 0 := ⟨rfl, rfl, hh_in 362 (by decide +kernel) (by decide +kernel), hh_in 78 (by decide +kernel) (by decide +kernel), hh_in 361 (by decide +kernel) (by decide +kernel), ⟨by decide, by decide, (by decide +kernel)⟩, by decide⟩
abbrev hm_X8_init : hh_M := (yX8_init, cX8_init, 1, none)
theorem ko_X8 : hk_mok hm_X8_init 0 := ⟨rfl, rfl, hh_in 434 (by decide +kernel) (by decide +kernel), hh_in 79 (by decide +kernel) (by decide +kernel), hh_in 433 (by decide +kernel) (by decide +kernel), ⟨by decide, by decide, (by decide +kernel)⟩, by decide⟩
abbrev hm_X10_init : hh_M := (yX10_init, cX10_init, 2, none)
theorem ko_X10 : hk_mok hm_X10_init 1 := ⟨rfl, rfl, hh_in 483 (by decide +kernel) (by decide +kernel), hh_in 80 (by decide +kernel) (by decide +kernel), hh_in 482 (by decide +kernel) (by decide +kernel), ⟨by decide, by decide, (by decide +kernel)⟩, by decide⟩
abbrev hm_X7_init : hh_M := (yX7_init, cX7_init, 2, none)
theorem ko_X7 : hk_mok hm_X7_init 1 := ⟨rfl, rfl, hh_in 506 (by decide +kernel) (by decide +kernel), hh_in 81 (by decide +kernel) (by decide +kernel), hh_in 505 (by decide +kernel) (by decide +kernel), ⟨by decide, by decide, (by decide +kernel)⟩, by decide⟩
abbrev hm_X4_init : hh_M := (yX4_init, cX4_init, 1, none)
theorem ko_X4 : hk_mok hm_X4_init 0 := ⟨rfl, rfl, hh_in 104 (by decide +kernel) (by decide +kernel), hh_in 71 (by decide +kernel) (by decide +kernel), hh_in 103 (by decide +kernel) (by decide +kernel), ⟨by decide, by decide, (by decide +kernel)⟩, by decide⟩
abbrev hm_X11_init : hh_M := (yX11_init, cX11_init, 1, none)
theorem ko_X11 : hk_mok hm_X11_init 0 := ⟨rfl, rfl, hh_in 96 (by decide +kernel) (by decide +kernel), hh_in 70 (by decide +kernel) (by decide +kernel), hh_in 95 (by decide +kernel) (by decide +kernel), ⟨by decide, by decide, (by decide +kernel)⟩, by decide⟩
abbrev hm_X12_init : hh_M := (yX12_init, cX12_init, 1, none)
theorem ko_X12 : hk_mok hm_X12_init 0 := ⟨rfl, rfl, hh_in 1226 (by decide +kernel) (by decide +kernel), hh_in 82 (by decide +kernel) (by decide +kernel), hh_in 1225 (by decide +kernel) (by decide +kernel), ⟨by decide, by decide, (by decide +kernel)⟩, by decide⟩
theorem kq_X6_9 : hk_FP "HourHouse$People" 9 6 1 true (.array .int) := ⟨RX6, TX6, 4, tyX6, rfl, by decide, hu_6, hh_in 115 (by decide +kernel) (by decide +kernel), tyX6_ok, nmX6, rfl, rfl, (by decide +kernel)⟩
theorem kq_X6_15 : hk_FP "HourHouse$People" 15 6 2 true (.array .int) := ⟨RX6, TX6, 4, tyX6, rfl, by decide, hu_6, hh_in 118 (by decide +kernel) (by decide +kernel), tyX6_ok, nmX6, rfl, rfl, (by decide +kernel)⟩
theorem kq_X6_18 : hk_FP "HourHouse$People" 18 6 3 true (.array .int) := ⟨RX6, TX6, 4, tyX6, rfl, by decide, hu_6, hh_in 122 (by decide +kernel) (by decide +kernel), tyX6_ok, nmX6, rfl, rfl, (by decide +kernel)⟩
def dl_X6 : List hh_D := [.inr (6, [none, some 1, some 2, some 3]), .inl (0, 8), .inl (0, 8), .inl (0, 8)]
set_option maxHeartbeats 8000000 in
set_option maxRecDepth 20000 in
theorem mk_X6 (K : hk_G) (h0 : Nat) : hk_Sp K 1 3 24 hm_X6_init [.ref h0] [(h0, .inr (6, [.int 0, .null, .null, .null]))] (hk_Q K dl_X6 h0 0 (fun _ _ => 0)) := by
  refine hk_entry (by decide) rfl (Nat.le_of_ble_eq_true rfl) rfl ?_
  refine hk_aload dX6_init_0 rfl ?_
  refine hk_obj dX6_init_1 (hh_in 111 (by decide +kernel) (by decide +kernel)) (hh_in 98 (by decide +kernel) (by decide +kernel)) (hh_in 99 (by decide +kernel) (by decide +kernel)) (by decide) ?_
  refine hk_aload dX6_init_4 rfl ?_
  refine hk_bipush dX6_init_5 (by decide) ?_
  refine hk_newaC (t := 0) (N := 8) (ty := .int) (k' := 1) (n' := 8) dX6_init_7 (hh_in 134 (by decide +kernel) (by decide +kernel)) rfl rfl (fun _ _ _ h1 h2 => Option.some.inj (h1.symm.trans h2)) (fun _ => rfl) (by decide) (by decide) (Nat.le_of_ble_eq_true rfl) rfl rfl (Nat.le_of_ble_eq_true rfl) (Nat.le_of_ble_eq_true rfl) (fun a0 => ?_)
  refine hk_putE [.int 0, .ref a0, .null, .null] (L := 4) dX6_init_9 kq_X6_9 rfl rfl rfl (Nat.le_of_ble_eq_true rfl) rfl ?_
  refine hk_aload dX6_init_12 rfl ?_
  refine hk_bipush dX6_init_13 (by decide) ?_
  refine hk_newaC (t := 0) (N := 8) (ty := .int) (k' := 2) (n' := 16) dX6_init_15 (hh_in 134 (by decide +kernel) (by decide +kernel)) rfl rfl (fun _ _ _ h1 h2 => Option.some.inj (h1.symm.trans h2)) (fun _ => rfl) (by decide) (by decide) (Nat.le_of_ble_eq_true rfl) rfl rfl (Nat.le_of_ble_eq_true rfl) (Nat.le_of_ble_eq_true rfl) (fun a1 => ?_)
  refine hk_putE [.int 0, .ref a0, .ref a1, .null] (L := 4) dX6_init_17 kq_X6_15 rfl rfl rfl (Nat.le_of_ble_eq_true rfl) rfl ?_
  refine hk_aload dX6_init_20 rfl ?_
  refine hk_bipush dX6_init_21 (by decide) ?_
  refine hk_newaC (t := 0) (N := 8) (ty := .int) (k' := 3) (n' := 24) dX6_init_23 (hh_in 134 (by decide +kernel) (by decide +kernel)) rfl rfl (fun _ _ _ h1 h2 => Option.some.inj (h1.symm.trans h2)) (fun _ => rfl) (by decide) (by decide) (Nat.le_of_ble_eq_true rfl) rfl rfl (Nat.le_of_ble_eq_true rfl) (Nat.le_of_ble_eq_true rfl) (fun a2 => ?_)
  refine hk_putE [.int 0, .ref a0, .ref a1, .ref a2] (L := 4) dX6_init_25 kq_X6_18 rfl rfl rfl (Nat.le_of_ble_eq_true rfl) rfl ?_
  refine hk_ret dX6_init_28 (Nat.le_of_ble_eq_true rfl) (Nat.le_of_ble_eq_true rfl) ?_
  exact ⟨fun k => match k with
    | 0 => h0
    | 1 => a0
    | 2 => a1
    | 3 => a2
    | _ => 0, rfl, rfl, rfl⟩

theorem kq_X1_9 : hk_FP "HourHouse$Clients" 9 1 1 true (.array .int) := ⟨RX1, TX1, 7, tyX1, rfl, by decide, hu_1, hh_in 143 (by decide +kernel) (by decide +kernel), tyX1_ok, nmX1, rfl, rfl, (by decide +kernel)⟩
theorem kq_X1_15 : hk_FP "HourHouse$Clients" 15 1 2 true (.array .int) := ⟨RX1, TX1, 7, tyX1, rfl, by decide, hu_1, hh_in 145 (by decide +kernel) (by decide +kernel), tyX1_ok, nmX1, rfl, rfl, (by decide +kernel)⟩
theorem kq_X1_18 : hk_FP "HourHouse$Clients" 18 1 3 true (.array .int) := ⟨RX1, TX1, 7, tyX1, rfl, by decide, hu_1, hh_in 147 (by decide +kernel) (by decide +kernel), tyX1_ok, nmX1, rfl, rfl, (by decide +kernel)⟩
theorem kq_X1_21 : hk_FP "HourHouse$Clients" 21 1 4 true (.array .int) := ⟨RX1, TX1, 7, tyX1, rfl, by decide, hu_1, hh_in 149 (by decide +kernel) (by decide +kernel), tyX1_ok, nmX1, rfl, rfl, (by decide +kernel)⟩
theorem kq_X1_24 : hk_FP "HourHouse$Clients" 24 1 5 true (.array .int) := ⟨RX1, TX1, 7, tyX1, rfl, by decide, hu_1, hh_in 152 (by decide +kernel) (by decide +kernel), tyX1_ok, nmX1, rfl, rfl, (by decide +kernel)⟩
theorem kq_X1_27 : hk_FP "HourHouse$Clients" 27 1 6 true (.array .int) := ⟨RX1, TX1, 7, tyX1, rfl, by decide, hu_1, hh_in 155 (by decide +kernel) (by decide +kernel), tyX1_ok, nmX1, rfl, rfl, (by decide +kernel)⟩
def dl_X1 : List hh_D := [.inr (1, [none, some 1, some 2, some 3, some 4, some 5, some 6]), .inl (0, 5), .inl (0, 5), .inl (0, 15), .inl (0, 15), .inl (0, 15), .inl (0, 1800)]
set_option maxHeartbeats 8000000 in
set_option maxRecDepth 20000 in
theorem mk_X1 (K : hk_G) (h0 : Nat) : hk_Sp K 1 6 1855 hm_X1_init [.ref h0] [(h0, .inr (1, [.int 0, .null, .null, .null, .null, .null, .null]))] (hk_Q K dl_X1 h0 0 (fun _ _ => 0)) := by
  refine hk_entry (by decide) rfl (Nat.le_of_ble_eq_true rfl) rfl ?_
  refine hk_aload dX1_init_0 rfl ?_
  refine hk_obj dX1_init_1 (hh_in 140 (by decide +kernel) (by decide +kernel)) (hh_in 98 (by decide +kernel) (by decide +kernel)) (hh_in 99 (by decide +kernel) (by decide +kernel)) (by decide) ?_
  refine hk_aload dX1_init_4 rfl ?_
  refine hk_iconst dX1_init_5 ?_
  refine hk_newaC (t := 0) (N := 5) (ty := .int) (k' := 1) (n' := 5) dX1_init_6 (hh_in 134 (by decide +kernel) (by decide +kernel)) rfl rfl (fun _ _ _ h1 h2 => Option.some.inj (h1.symm.trans h2)) (fun _ => rfl) (by decide) (by decide) (Nat.le_of_ble_eq_true rfl) rfl rfl (Nat.le_of_ble_eq_true rfl) (Nat.le_of_ble_eq_true rfl) (fun a0 => ?_)
  refine hk_putE [.int 0, .ref a0, .null, .null, .null, .null, .null] (L := 7) dX1_init_8 kq_X1_9 rfl rfl rfl (Nat.le_of_ble_eq_true rfl) rfl ?_
  refine hk_aload dX1_init_11 rfl ?_
  refine hk_iconst dX1_init_12 ?_
  refine hk_newaC (t := 0) (N := 5) (ty := .int) (k' := 2) (n' := 10) dX1_init_13 (hh_in 134 (by decide +kernel) (by decide +kernel)) rfl rfl (fun _ _ _ h1 h2 => Option.some.inj (h1.symm.trans h2)) (fun _ => rfl) (by decide) (by decide) (Nat.le_of_ble_eq_true rfl) rfl rfl (Nat.le_of_ble_eq_true rfl) (Nat.le_of_ble_eq_true rfl) (fun a1 => ?_)
  refine hk_putE [.int 0, .ref a0, .ref a1, .null, .null, .null, .null] (L := 7) dX1_init_15 kq_X1_15 rfl rfl rfl (Nat.le_of_ble_eq_true rfl) rfl ?_
  refine hk_aload dX1_init_18 rfl ?_
  refine hk_bipush dX1_init_19 (by decide) ?_
  refine hk_newaC (t := 0) (N := 15) (ty := .int) (k' := 3) (n' := 25) dX1_init_21 (hh_in 134 (by decide +kernel) (by decide +kernel)) rfl rfl (fun _ _ _ h1 h2 => Option.some.inj (h1.symm.trans h2)) (fun _ => rfl) (by decide) (by decide) (Nat.le_of_ble_eq_true rfl) rfl rfl (Nat.le_of_ble_eq_true rfl) (Nat.le_of_ble_eq_true rfl) (fun a2 => ?_)
  refine hk_putE [.int 0, .ref a0, .ref a1, .ref a2, .null, .null, .null] (L := 7) dX1_init_23 kq_X1_18 rfl rfl rfl (Nat.le_of_ble_eq_true rfl) rfl ?_
  refine hk_aload dX1_init_26 rfl ?_
  refine hk_bipush dX1_init_27 (by decide) ?_
  refine hk_newaC (t := 0) (N := 15) (ty := .int) (k' := 4) (n' := 40) dX1_init_29 (hh_in 134 (by decide +kernel) (by decide +kernel)) rfl rfl (fun _ _ _ h1 h2 => Option.some.inj (h1.symm.trans h2)) (fun _ => rfl) (by decide) (by decide) (Nat.le_of_ble_eq_true rfl) rfl rfl (Nat.le_of_ble_eq_true rfl) (Nat.le_of_ble_eq_true rfl) (fun a3 => ?_)
  refine hk_putE [.int 0, .ref a0, .ref a1, .ref a2, .ref a3, .null, .null] (L := 7) dX1_init_31 kq_X1_21 rfl rfl rfl (Nat.le_of_ble_eq_true rfl) rfl ?_
  refine hk_aload dX1_init_34 rfl ?_
  refine hk_bipush dX1_init_35 (by decide) ?_
  refine hk_newaC (t := 0) (N := 15) (ty := .int) (k' := 5) (n' := 55) dX1_init_37 (hh_in 134 (by decide +kernel) (by decide +kernel)) rfl rfl (fun _ _ _ h1 h2 => Option.some.inj (h1.symm.trans h2)) (fun _ => rfl) (by decide) (by decide) (Nat.le_of_ble_eq_true rfl) rfl rfl (Nat.le_of_ble_eq_true rfl) (Nat.le_of_ble_eq_true rfl) (fun a4 => ?_)
  refine hk_putE [.int 0, .ref a0, .ref a1, .ref a2, .ref a3, .ref a4, .null] (L := 7) dX1_init_39 kq_X1_24 rfl rfl rfl (Nat.le_of_ble_eq_true rfl) rfl ?_
  refine hk_aload dX1_init_42 rfl ?_
  refine hk_sipush dX1_init_43 (by decide) ?_
  refine hk_newaC (t := 0) (N := 1800) (ty := .int) (k' := 6) (n' := 1855) dX1_init_46 (hh_in 134 (by decide +kernel) (by decide +kernel)) rfl rfl (fun _ _ _ h1 h2 => Option.some.inj (h1.symm.trans h2)) (fun _ => rfl) (by decide) (by decide) (Nat.le_of_ble_eq_true rfl) rfl rfl (Nat.le_of_ble_eq_true rfl) (Nat.le_of_ble_eq_true rfl) (fun a5 => ?_)
  refine hk_putE [.int 0, .ref a0, .ref a1, .ref a2, .ref a3, .ref a4, .ref a5] (L := 7) dX1_init_48 kq_X1_27 rfl rfl rfl (Nat.le_of_ble_eq_true rfl) rfl ?_
  refine hk_ret dX1_init_51 (Nat.le_of_ble_eq_true rfl) (Nat.le_of_ble_eq_true rfl) ?_
  exact ⟨fun k => match k with
    | 0 => h0
    | 1 => a0
    | 2 => a1
    | 3 => a2
    | 4 => a3
    | 5 => a4
    | 6 => a5
    | _ => 0, rfl, rfl, rfl⟩

theorem kq_X5_9 : hk_FP "HourHouse$Matters" 9 5 1 true (.array .int) := ⟨RX5, TX5, 11, tyX5, rfl, by decide, hu_5, hh_in 181 (by decide +kernel) (by decide +kernel), tyX5_ok, nmX5, rfl, rfl, (by decide +kernel)⟩
theorem kq_X5_15 : hk_FP "HourHouse$Matters" 15 5 2 true (.array .int) := ⟨RX5, TX5, 11, tyX5, rfl, by decide, hu_5, hh_in 184 (by decide +kernel) (by decide +kernel), tyX5_ok, nmX5, rfl, rfl, (by decide +kernel)⟩
theorem kq_X5_18 : hk_FP "HourHouse$Matters" 18 5 3 true (.array .int) := ⟨RX5, TX5, 11, tyX5, rfl, by decide, hu_5, hh_in 186 (by decide +kernel) (by decide +kernel), tyX5_ok, nmX5, rfl, rfl, (by decide +kernel)⟩
theorem kq_X5_21 : hk_FP "HourHouse$Matters" 21 5 4 true (.array .int) := ⟨RX5, TX5, 11, tyX5, rfl, by decide, hu_5, hh_in 189 (by decide +kernel) (by decide +kernel), tyX5_ok, nmX5, rfl, rfl, (by decide +kernel)⟩
theorem kq_X5_24 : hk_FP "HourHouse$Matters" 24 5 5 true (.array .int) := ⟨RX5, TX5, 11, tyX5, rfl, by decide, hu_5, hh_in 191 (by decide +kernel) (by decide +kernel), tyX5_ok, nmX5, rfl, rfl, (by decide +kernel)⟩
theorem kq_X5_27 : hk_FP "HourHouse$Matters" 27 5 6 true (.array .int) := ⟨RX5, TX5, 11, tyX5, rfl, by decide, hu_5, hh_in 193 (by decide +kernel) (by decide +kernel), tyX5_ok, nmX5, rfl, rfl, (by decide +kernel)⟩
theorem kq_X5_30 : hk_FP "HourHouse$Matters" 30 5 7 true (.array .int) := ⟨RX5, TX5, 11, tyX5, rfl, by decide, hu_5, hh_in 194 (by decide +kernel) (by decide +kernel), tyX5_ok, nmX5, rfl, rfl, (by decide +kernel)⟩
theorem kq_X5_33 : hk_FP "HourHouse$Matters" 33 5 8 true (.array .int) := ⟨RX5, TX5, 11, tyX5, rfl, by decide, hu_5, hh_in 196 (by decide +kernel) (by decide +kernel), tyX5_ok, nmX5, rfl, rfl, (by decide +kernel)⟩
theorem kq_X5_36 : hk_FP "HourHouse$Matters" 36 5 9 true (.array .int) := ⟨RX5, TX5, 11, tyX5, rfl, by decide, hu_5, hh_in 198 (by decide +kernel) (by decide +kernel), tyX5_ok, nmX5, rfl, rfl, (by decide +kernel)⟩
theorem kq_X5_39 : hk_FP "HourHouse$Matters" 39 5 10 true (.array .int) := ⟨RX5, TX5, 11, tyX5, rfl, by decide, hu_5, hh_in 200 (by decide +kernel) (by decide +kernel), tyX5_ok, nmX5, rfl, rfl, (by decide +kernel)⟩
def dl_X5 : List hh_D := [.inr (5, [none, some 1, some 2, some 3, some 4, some 5, some 6, some 7, some 8, some 9, some 10]), .inl (0, 10), .inl (0, 10), .inl (0, 10), .inl (0, 10), .inl (0, 30), .inl (0, 30), .inl (0, 80), .inl (0, 10), .inl (0, 10), .inl (0, 60)]
set_option maxHeartbeats 8000000 in
set_option maxRecDepth 20000 in
theorem mk_X5 (K : hk_G) (h0 : Nat) : hk_Sp K 1 10 260 hm_X5_init [.ref h0] [(h0, .inr (5, [.int 0, .null, .null, .null, .null, .null, .null, .null, .null, .null, .null]))] (hk_Q K dl_X5 h0 0 (fun _ _ => 0)) := by
  refine hk_entry (by decide) rfl (Nat.le_of_ble_eq_true rfl) rfl ?_
  refine hk_aload dX5_init_0 rfl ?_
  refine hk_obj dX5_init_1 (hh_in 178 (by decide +kernel) (by decide +kernel)) (hh_in 98 (by decide +kernel) (by decide +kernel)) (hh_in 99 (by decide +kernel) (by decide +kernel)) (by decide) ?_
  refine hk_aload dX5_init_4 rfl ?_
  refine hk_bipush dX5_init_5 (by decide) ?_
  refine hk_newaC (t := 0) (N := 10) (ty := .int) (k' := 1) (n' := 10) dX5_init_7 (hh_in 134 (by decide +kernel) (by decide +kernel)) rfl rfl (fun _ _ _ h1 h2 => Option.some.inj (h1.symm.trans h2)) (fun _ => rfl) (by decide) (by decide) (Nat.le_of_ble_eq_true rfl) rfl rfl (Nat.le_of_ble_eq_true rfl) (Nat.le_of_ble_eq_true rfl) (fun a0 => ?_)
  refine hk_putE [.int 0, .ref a0, .null, .null, .null, .null, .null, .null, .null, .null, .null] (L := 11) dX5_init_9 kq_X5_9 rfl rfl rfl (Nat.le_of_ble_eq_true rfl) rfl ?_
  refine hk_aload dX5_init_12 rfl ?_
  refine hk_bipush dX5_init_13 (by decide) ?_
  refine hk_newaC (t := 0) (N := 10) (ty := .int) (k' := 2) (n' := 20) dX5_init_15 (hh_in 134 (by decide +kernel) (by decide +kernel)) rfl rfl (fun _ _ _ h1 h2 => Option.some.inj (h1.symm.trans h2)) (fun _ => rfl) (by decide) (by decide) (Nat.le_of_ble_eq_true rfl) rfl rfl (Nat.le_of_ble_eq_true rfl) (Nat.le_of_ble_eq_true rfl) (fun a1 => ?_)
  refine hk_putE [.int 0, .ref a0, .ref a1, .null, .null, .null, .null, .null, .null, .null, .null] (L := 11) dX5_init_17 kq_X5_15 rfl rfl rfl (Nat.le_of_ble_eq_true rfl) rfl ?_
  refine hk_aload dX5_init_20 rfl ?_
  refine hk_bipush dX5_init_21 (by decide) ?_
  refine hk_newaC (t := 0) (N := 10) (ty := .int) (k' := 3) (n' := 30) dX5_init_23 (hh_in 134 (by decide +kernel) (by decide +kernel)) rfl rfl (fun _ _ _ h1 h2 => Option.some.inj (h1.symm.trans h2)) (fun _ => rfl) (by decide) (by decide) (Nat.le_of_ble_eq_true rfl) rfl rfl (Nat.le_of_ble_eq_true rfl) (Nat.le_of_ble_eq_true rfl) (fun a2 => ?_)
  refine hk_putE [.int 0, .ref a0, .ref a1, .ref a2, .null, .null, .null, .null, .null, .null, .null] (L := 11) dX5_init_25 kq_X5_18 rfl rfl rfl (Nat.le_of_ble_eq_true rfl) rfl ?_
  refine hk_aload dX5_init_28 rfl ?_
  refine hk_bipush dX5_init_29 (by decide) ?_
  refine hk_newaC (t := 0) (N := 10) (ty := .int) (k' := 4) (n' := 40) dX5_init_31 (hh_in 134 (by decide +kernel) (by decide +kernel)) rfl rfl (fun _ _ _ h1 h2 => Option.some.inj (h1.symm.trans h2)) (fun _ => rfl) (by decide) (by decide) (Nat.le_of_ble_eq_true rfl) rfl rfl (Nat.le_of_ble_eq_true rfl) (Nat.le_of_ble_eq_true rfl) (fun a3 => ?_)
  refine hk_putE [.int 0, .ref a0, .ref a1, .ref a2, .ref a3, .null, .null, .null, .null, .null, .null] (L := 11) dX5_init_33 kq_X5_21 rfl rfl rfl (Nat.le_of_ble_eq_true rfl) rfl ?_
  refine hk_aload dX5_init_36 rfl ?_
  refine hk_bipush dX5_init_37 (by decide) ?_
  refine hk_newaC (t := 0) (N := 30) (ty := .int) (k' := 5) (n' := 70) dX5_init_39 (hh_in 134 (by decide +kernel) (by decide +kernel)) rfl rfl (fun _ _ _ h1 h2 => Option.some.inj (h1.symm.trans h2)) (fun _ => rfl) (by decide) (by decide) (Nat.le_of_ble_eq_true rfl) rfl rfl (Nat.le_of_ble_eq_true rfl) (Nat.le_of_ble_eq_true rfl) (fun a4 => ?_)
  refine hk_putE [.int 0, .ref a0, .ref a1, .ref a2, .ref a3, .ref a4, .null, .null, .null, .null, .null] (L := 11) dX5_init_41 kq_X5_24 rfl rfl rfl (Nat.le_of_ble_eq_true rfl) rfl ?_
  refine hk_aload dX5_init_44 rfl ?_
  refine hk_bipush dX5_init_45 (by decide) ?_
  refine hk_newaC (t := 0) (N := 30) (ty := .int) (k' := 6) (n' := 100) dX5_init_47 (hh_in 134 (by decide +kernel) (by decide +kernel)) rfl rfl (fun _ _ _ h1 h2 => Option.some.inj (h1.symm.trans h2)) (fun _ => rfl) (by decide) (by decide) (Nat.le_of_ble_eq_true rfl) rfl rfl (Nat.le_of_ble_eq_true rfl) (Nat.le_of_ble_eq_true rfl) (fun a5 => ?_)
  refine hk_putE [.int 0, .ref a0, .ref a1, .ref a2, .ref a3, .ref a4, .ref a5, .null, .null, .null, .null] (L := 11) dX5_init_49 kq_X5_27 rfl rfl rfl (Nat.le_of_ble_eq_true rfl) rfl ?_
  refine hk_aload dX5_init_52 rfl ?_
  refine hk_bipush dX5_init_53 (by decide) ?_
  refine hk_newaC (t := 0) (N := 80) (ty := .int) (k' := 7) (n' := 180) dX5_init_55 (hh_in 134 (by decide +kernel) (by decide +kernel)) rfl rfl (fun _ _ _ h1 h2 => Option.some.inj (h1.symm.trans h2)) (fun _ => rfl) (by decide) (by decide) (Nat.le_of_ble_eq_true rfl) rfl rfl (Nat.le_of_ble_eq_true rfl) (Nat.le_of_ble_eq_true rfl) (fun a6 => ?_)
  refine hk_putE [.int 0, .ref a0, .ref a1, .ref a2, .ref a3, .ref a4, .ref a5, .ref a6, .null, .null, .null] (L := 11) dX5_init_57 kq_X5_30 rfl rfl rfl (Nat.le_of_ble_eq_true rfl) rfl ?_
  refine hk_aload dX5_init_60 rfl ?_
  refine hk_bipush dX5_init_61 (by decide) ?_
  refine hk_newaC (t := 0) (N := 10) (ty := .int) (k' := 8) (n' := 190) dX5_init_63 (hh_in 134 (by decide +kernel) (by decide +kernel)) rfl rfl (fun _ _ _ h1 h2 => Option.some.inj (h1.symm.trans h2)) (fun _ => rfl) (by decide) (by decide) (Nat.le_of_ble_eq_true rfl) rfl rfl (Nat.le_of_ble_eq_true rfl) (Nat.le_of_ble_eq_true rfl) (fun a7 => ?_)
  refine hk_putE [.int 0, .ref a0, .ref a1, .ref a2, .ref a3, .ref a4, .ref a5, .ref a6, .ref a7, .null, .null] (L := 11) dX5_init_65 kq_X5_33 rfl rfl rfl (Nat.le_of_ble_eq_true rfl) rfl ?_
  refine hk_aload dX5_init_68 rfl ?_
  refine hk_bipush dX5_init_69 (by decide) ?_
  refine hk_newaC (t := 0) (N := 10) (ty := .int) (k' := 9) (n' := 200) dX5_init_71 (hh_in 134 (by decide +kernel) (by decide +kernel)) rfl rfl (fun _ _ _ h1 h2 => Option.some.inj (h1.symm.trans h2)) (fun _ => rfl) (by decide) (by decide) (Nat.le_of_ble_eq_true rfl) rfl rfl (Nat.le_of_ble_eq_true rfl) (Nat.le_of_ble_eq_true rfl) (fun a8 => ?_)
  refine hk_putE [.int 0, .ref a0, .ref a1, .ref a2, .ref a3, .ref a4, .ref a5, .ref a6, .ref a7, .ref a8, .null] (L := 11) dX5_init_73 kq_X5_36 rfl rfl rfl (Nat.le_of_ble_eq_true rfl) rfl ?_
  refine hk_aload dX5_init_76 rfl ?_
  refine hk_bipush dX5_init_77 (by decide) ?_
  refine hk_newaC (t := 0) (N := 60) (ty := .int) (k' := 10) (n' := 260) dX5_init_79 (hh_in 134 (by decide +kernel) (by decide +kernel)) rfl rfl (fun _ _ _ h1 h2 => Option.some.inj (h1.symm.trans h2)) (fun _ => rfl) (by decide) (by decide) (Nat.le_of_ble_eq_true rfl) rfl rfl (Nat.le_of_ble_eq_true rfl) (Nat.le_of_ble_eq_true rfl) (fun a9 => ?_)
  refine hk_putE [.int 0, .ref a0, .ref a1, .ref a2, .ref a3, .ref a4, .ref a5, .ref a6, .ref a7, .ref a8, .ref a9] (L := 11) dX5_init_81 kq_X5_39 rfl rfl rfl (Nat.le_of_ble_eq_true rfl) rfl ?_
  refine hk_ret dX5_init_84 (Nat.le_of_ble_eq_true rfl) (Nat.le_of_ble_eq_true rfl) ?_
  exact ⟨fun k => match k with
    | 0 => h0
    | 1 => a0
    | 2 => a1
    | 3 => a2
    | 4 => a3
    | 5 => a4
    | 6 => a5
    | 7 => a6
    | 8 => a7
    | 9 => a8
    | 10 => a9
    | _ => 0, rfl, rfl, rfl⟩

theorem kq_X3_9 : hk_FP "HourHouse$Entries" 9 3 1 true (.array .int) := ⟨RX3, TX3, 12, tyX3, rfl, by decide, hu_3, hh_in 234 (by decide +kernel) (by decide +kernel), tyX3_ok, nmX3, rfl, rfl, (by decide +kernel)⟩
theorem kq_X3_15 : hk_FP "HourHouse$Entries" 15 3 2 true (.array .int) := ⟨RX3, TX3, 12, tyX3, rfl, by decide, hu_3, hh_in 237 (by decide +kernel) (by decide +kernel), tyX3_ok, nmX3, rfl, rfl, (by decide +kernel)⟩
theorem kq_X3_18 : hk_FP "HourHouse$Entries" 18 3 3 true (.array .int) := ⟨RX3, TX3, 12, tyX3, rfl, by decide, hu_3, hh_in 240 (by decide +kernel) (by decide +kernel), tyX3_ok, nmX3, rfl, rfl, (by decide +kernel)⟩
theorem kq_X3_21 : hk_FP "HourHouse$Entries" 21 3 4 true (.array .int) := ⟨RX3, TX3, 12, tyX3, rfl, by decide, hu_3, hh_in 243 (by decide +kernel) (by decide +kernel), tyX3_ok, nmX3, rfl, rfl, (by decide +kernel)⟩
theorem kq_X3_24 : hk_FP "HourHouse$Entries" 24 3 5 true (.array .int) := ⟨RX3, TX3, 12, tyX3, rfl, by decide, hu_3, hh_in 245 (by decide +kernel) (by decide +kernel), tyX3_ok, nmX3, rfl, rfl, (by decide +kernel)⟩
theorem kq_X3_27 : hk_FP "HourHouse$Entries" 27 3 6 true (.array .int) := ⟨RX3, TX3, 12, tyX3, rfl, by decide, hu_3, hh_in 248 (by decide +kernel) (by decide +kernel), tyX3_ok, nmX3, rfl, rfl, (by decide +kernel)⟩
theorem kq_X3_30 : hk_FP "HourHouse$Entries" 30 3 7 true (.array .int) := ⟨RX3, TX3, 12, tyX3, rfl, by decide, hu_3, hh_in 251 (by decide +kernel) (by decide +kernel), tyX3_ok, nmX3, rfl, rfl, (by decide +kernel)⟩
theorem kq_X3_33 : hk_FP "HourHouse$Entries" 33 3 8 true (.array .int) := ⟨RX3, TX3, 12, tyX3, rfl, by decide, hu_3, hh_in 253 (by decide +kernel) (by decide +kernel), tyX3_ok, nmX3, rfl, rfl, (by decide +kernel)⟩
theorem kq_X3_36 : hk_FP "HourHouse$Entries" 36 3 9 true (.array .int) := ⟨RX3, TX3, 12, tyX3, rfl, by decide, hu_3, hh_in 255 (by decide +kernel) (by decide +kernel), tyX3_ok, nmX3, rfl, rfl, (by decide +kernel)⟩
theorem kq_X3_39 : hk_FP "HourHouse$Entries" 39 3 10 true (.array .int) := ⟨RX3, TX3, 12, tyX3, rfl, by decide, hu_3, hh_in 258 (by decide +kernel) (by decide +kernel), tyX3_ok, nmX3, rfl, rfl, (by decide +kernel)⟩
theorem kq_X3_42 : hk_FP "HourHouse$Entries" 42 3 11 true (.array .int) := ⟨RX3, TX3, 12, tyX3, rfl, by decide, hu_3, hh_in 260 (by decide +kernel) (by decide +kernel), tyX3_ok, nmX3, rfl, rfl, (by decide +kernel)⟩
def dl_X3 : List hh_D := [.inr (3, [none, some 1, some 2, some 3, some 4, some 5, some 6, some 7, some 8, some 9, some 10, some 11]), .inl (0, 90), .inl (0, 90), .inl (0, 90), .inl (0, 90), .inl (0, 90), .inl (0, 90), .inl (0, 90), .inl (0, 90), .inl (0, 90), .inl (0, 90), .inl (0, 90)]
set_option maxHeartbeats 8000000 in
set_option maxRecDepth 20000 in
theorem mk_X3 (K : hk_G) (h0 : Nat) : hk_Sp K 1 11 990 hm_X3_init [.ref h0] [(h0, .inr (3, [.int 0, .null, .null, .null, .null, .null, .null, .null, .null, .null, .null, .null]))] (hk_Q K dl_X3 h0 0 (fun _ _ => 0)) := by
  refine hk_entry (by decide) rfl (Nat.le_of_ble_eq_true rfl) rfl ?_
  refine hk_aload dX3_init_0 rfl ?_
  refine hk_obj dX3_init_1 (hh_in 230 (by decide +kernel) (by decide +kernel)) (hh_in 98 (by decide +kernel) (by decide +kernel)) (hh_in 99 (by decide +kernel) (by decide +kernel)) (by decide) ?_
  refine hk_aload dX3_init_4 rfl ?_
  refine hk_bipush dX3_init_5 (by decide) ?_
  refine hk_newaC (t := 0) (N := 90) (ty := .int) (k' := 1) (n' := 90) dX3_init_7 (hh_in 134 (by decide +kernel) (by decide +kernel)) rfl rfl (fun _ _ _ h1 h2 => Option.some.inj (h1.symm.trans h2)) (fun _ => rfl) (by decide) (by decide) (Nat.le_of_ble_eq_true rfl) rfl rfl (Nat.le_of_ble_eq_true rfl) (Nat.le_of_ble_eq_true rfl) (fun a0 => ?_)
  refine hk_putE [.int 0, .ref a0, .null, .null, .null, .null, .null, .null, .null, .null, .null, .null] (L := 12) dX3_init_9 kq_X3_9 rfl rfl rfl (Nat.le_of_ble_eq_true rfl) rfl ?_
  refine hk_aload dX3_init_12 rfl ?_
  refine hk_bipush dX3_init_13 (by decide) ?_
  refine hk_newaC (t := 0) (N := 90) (ty := .int) (k' := 2) (n' := 180) dX3_init_15 (hh_in 134 (by decide +kernel) (by decide +kernel)) rfl rfl (fun _ _ _ h1 h2 => Option.some.inj (h1.symm.trans h2)) (fun _ => rfl) (by decide) (by decide) (Nat.le_of_ble_eq_true rfl) rfl rfl (Nat.le_of_ble_eq_true rfl) (Nat.le_of_ble_eq_true rfl) (fun a1 => ?_)
  refine hk_putE [.int 0, .ref a0, .ref a1, .null, .null, .null, .null, .null, .null, .null, .null, .null] (L := 12) dX3_init_17 kq_X3_15 rfl rfl rfl (Nat.le_of_ble_eq_true rfl) rfl ?_
  refine hk_aload dX3_init_20 rfl ?_
  refine hk_bipush dX3_init_21 (by decide) ?_
  refine hk_newaC (t := 0) (N := 90) (ty := .int) (k' := 3) (n' := 270) dX3_init_23 (hh_in 134 (by decide +kernel) (by decide +kernel)) rfl rfl (fun _ _ _ h1 h2 => Option.some.inj (h1.symm.trans h2)) (fun _ => rfl) (by decide) (by decide) (Nat.le_of_ble_eq_true rfl) rfl rfl (Nat.le_of_ble_eq_true rfl) (Nat.le_of_ble_eq_true rfl) (fun a2 => ?_)
  refine hk_putE [.int 0, .ref a0, .ref a1, .ref a2, .null, .null, .null, .null, .null, .null, .null, .null] (L := 12) dX3_init_25 kq_X3_18 rfl rfl rfl (Nat.le_of_ble_eq_true rfl) rfl ?_
  refine hk_aload dX3_init_28 rfl ?_
  refine hk_bipush dX3_init_29 (by decide) ?_
  refine hk_newaC (t := 0) (N := 90) (ty := .int) (k' := 4) (n' := 360) dX3_init_31 (hh_in 134 (by decide +kernel) (by decide +kernel)) rfl rfl (fun _ _ _ h1 h2 => Option.some.inj (h1.symm.trans h2)) (fun _ => rfl) (by decide) (by decide) (Nat.le_of_ble_eq_true rfl) rfl rfl (Nat.le_of_ble_eq_true rfl) (Nat.le_of_ble_eq_true rfl) (fun a3 => ?_)
  refine hk_putE [.int 0, .ref a0, .ref a1, .ref a2, .ref a3, .null, .null, .null, .null, .null, .null, .null] (L := 12) dX3_init_33 kq_X3_21 rfl rfl rfl (Nat.le_of_ble_eq_true rfl) rfl ?_
  refine hk_aload dX3_init_36 rfl ?_
  refine hk_bipush dX3_init_37 (by decide) ?_
  refine hk_newaC (t := 0) (N := 90) (ty := .int) (k' := 5) (n' := 450) dX3_init_39 (hh_in 134 (by decide +kernel) (by decide +kernel)) rfl rfl (fun _ _ _ h1 h2 => Option.some.inj (h1.symm.trans h2)) (fun _ => rfl) (by decide) (by decide) (Nat.le_of_ble_eq_true rfl) rfl rfl (Nat.le_of_ble_eq_true rfl) (Nat.le_of_ble_eq_true rfl) (fun a4 => ?_)
  refine hk_putE [.int 0, .ref a0, .ref a1, .ref a2, .ref a3, .ref a4, .null, .null, .null, .null, .null, .null] (L := 12) dX3_init_41 kq_X3_24 rfl rfl rfl (Nat.le_of_ble_eq_true rfl) rfl ?_
  refine hk_aload dX3_init_44 rfl ?_
  refine hk_bipush dX3_init_45 (by decide) ?_
  refine hk_newaC (t := 0) (N := 90) (ty := .int) (k' := 6) (n' := 540) dX3_init_47 (hh_in 134 (by decide +kernel) (by decide +kernel)) rfl rfl (fun _ _ _ h1 h2 => Option.some.inj (h1.symm.trans h2)) (fun _ => rfl) (by decide) (by decide) (Nat.le_of_ble_eq_true rfl) rfl rfl (Nat.le_of_ble_eq_true rfl) (Nat.le_of_ble_eq_true rfl) (fun a5 => ?_)
  refine hk_putE [.int 0, .ref a0, .ref a1, .ref a2, .ref a3, .ref a4, .ref a5, .null, .null, .null, .null, .null] (L := 12) dX3_init_49 kq_X3_27 rfl rfl rfl (Nat.le_of_ble_eq_true rfl) rfl ?_
  refine hk_aload dX3_init_52 rfl ?_
  refine hk_bipush dX3_init_53 (by decide) ?_
  refine hk_newaC (t := 0) (N := 90) (ty := .int) (k' := 7) (n' := 630) dX3_init_55 (hh_in 134 (by decide +kernel) (by decide +kernel)) rfl rfl (fun _ _ _ h1 h2 => Option.some.inj (h1.symm.trans h2)) (fun _ => rfl) (by decide) (by decide) (Nat.le_of_ble_eq_true rfl) rfl rfl (Nat.le_of_ble_eq_true rfl) (Nat.le_of_ble_eq_true rfl) (fun a6 => ?_)
  refine hk_putE [.int 0, .ref a0, .ref a1, .ref a2, .ref a3, .ref a4, .ref a5, .ref a6, .null, .null, .null, .null] (L := 12) dX3_init_57 kq_X3_30 rfl rfl rfl (Nat.le_of_ble_eq_true rfl) rfl ?_
  refine hk_aload dX3_init_60 rfl ?_
  refine hk_bipush dX3_init_61 (by decide) ?_
  refine hk_newaC (t := 0) (N := 90) (ty := .int) (k' := 8) (n' := 720) dX3_init_63 (hh_in 134 (by decide +kernel) (by decide +kernel)) rfl rfl (fun _ _ _ h1 h2 => Option.some.inj (h1.symm.trans h2)) (fun _ => rfl) (by decide) (by decide) (Nat.le_of_ble_eq_true rfl) rfl rfl (Nat.le_of_ble_eq_true rfl) (Nat.le_of_ble_eq_true rfl) (fun a7 => ?_)
  refine hk_putE [.int 0, .ref a0, .ref a1, .ref a2, .ref a3, .ref a4, .ref a5, .ref a6, .ref a7, .null, .null, .null] (L := 12) dX3_init_65 kq_X3_33 rfl rfl rfl (Nat.le_of_ble_eq_true rfl) rfl ?_
  refine hk_aload dX3_init_68 rfl ?_
  refine hk_bipush dX3_init_69 (by decide) ?_
  refine hk_newaC (t := 0) (N := 90) (ty := .int) (k' := 9) (n' := 810) dX3_init_71 (hh_in 134 (by decide +kernel) (by decide +kernel)) rfl rfl (fun _ _ _ h1 h2 => Option.some.inj (h1.symm.trans h2)) (fun _ => rfl) (by decide) (by decide) (Nat.le_of_ble_eq_true rfl) rfl rfl (Nat.le_of_ble_eq_true rfl) (Nat.le_of_ble_eq_true rfl) (fun a8 => ?_)
  refine hk_putE [.int 0, .ref a0, .ref a1, .ref a2, .ref a3, .ref a4, .ref a5, .ref a6, .ref a7, .ref a8, .null, .null] (L := 12) dX3_init_73 kq_X3_36 rfl rfl rfl (Nat.le_of_ble_eq_true rfl) rfl ?_
  refine hk_aload dX3_init_76 rfl ?_
  refine hk_bipush dX3_init_77 (by decide) ?_
  refine hk_newaC (t := 0) (N := 90) (ty := .int) (k' := 10) (n' := 900) dX3_init_79 (hh_in 134 (by decide +kernel) (by decide +kernel)) rfl rfl (fun _ _ _ h1 h2 => Option.some.inj (h1.symm.trans h2)) (fun _ => rfl) (by decide) (by decide) (Nat.le_of_ble_eq_true rfl) rfl rfl (Nat.le_of_ble_eq_true rfl) (Nat.le_of_ble_eq_true rfl) (fun a9 => ?_)
  refine hk_putE [.int 0, .ref a0, .ref a1, .ref a2, .ref a3, .ref a4, .ref a5, .ref a6, .ref a7, .ref a8, .ref a9, .null] (L := 12) dX3_init_81 kq_X3_39 rfl rfl rfl (Nat.le_of_ble_eq_true rfl) rfl ?_
  refine hk_aload dX3_init_84 rfl ?_
  refine hk_bipush dX3_init_85 (by decide) ?_
  refine hk_newaC (t := 0) (N := 90) (ty := .int) (k' := 11) (n' := 990) dX3_init_87 (hh_in 134 (by decide +kernel) (by decide +kernel)) rfl rfl (fun _ _ _ h1 h2 => Option.some.inj (h1.symm.trans h2)) (fun _ => rfl) (by decide) (by decide) (Nat.le_of_ble_eq_true rfl) rfl rfl (Nat.le_of_ble_eq_true rfl) (Nat.le_of_ble_eq_true rfl) (fun a10 => ?_)
  refine hk_putE [.int 0, .ref a0, .ref a1, .ref a2, .ref a3, .ref a4, .ref a5, .ref a6, .ref a7, .ref a8, .ref a9, .ref a10] (L := 12) dX3_init_89 kq_X3_42 rfl rfl rfl (Nat.le_of_ble_eq_true rfl) rfl ?_
  refine hk_ret dX3_init_92 (Nat.le_of_ble_eq_true rfl) (Nat.le_of_ble_eq_true rfl) ?_
  exact ⟨fun k => match k with
    | 0 => h0
    | 1 => a0
    | 2 => a1
    | 3 => a2
    | 4 => a3
    | 5 => a4
    | 6 => a5
    | 7 => a6
    | 8 => a7
    | 9 => a8
    | 10 => a9
    | 11 => a10
    | _ => 0, rfl, rfl, rfl⟩

theorem kq_X2_9 : hk_FP "HourHouse$Doors" 9 2 1 true (.array .int) := ⟨RX2, TX2, 6, tyX2, rfl, by decide, hu_2, hh_in 296 (by decide +kernel) (by decide +kernel), tyX2_ok, nmX2, rfl, rfl, (by decide +kernel)⟩
theorem kq_X2_15 : hk_FP "HourHouse$Doors" 15 2 2 true (.array .int) := ⟨RX2, TX2, 6, tyX2, rfl, by decide, hu_2, hh_in 298 (by decide +kernel) (by decide +kernel), tyX2_ok, nmX2, rfl, rfl, (by decide +kernel)⟩
theorem kq_X2_18 : hk_FP "HourHouse$Doors" 18 2 3 true (.array .int) := ⟨RX2, TX2, 6, tyX2, rfl, by decide, hu_2, hh_in 300 (by decide +kernel) (by decide +kernel), tyX2_ok, nmX2, rfl, rfl, (by decide +kernel)⟩
theorem kq_X2_21 : hk_FP "HourHouse$Doors" 21 2 4 true (.array .int) := ⟨RX2, TX2, 6, tyX2, rfl, by decide, hu_2, hh_in 302 (by decide +kernel) (by decide +kernel), tyX2_ok, nmX2, rfl, rfl, (by decide +kernel)⟩
theorem kq_X2_24 : hk_FP "HourHouse$Doors" 24 2 5 true (.array .int) := ⟨RX2, TX2, 6, tyX2, rfl, by decide, hu_2, hh_in 304 (by decide +kernel) (by decide +kernel), tyX2_ok, nmX2, rfl, rfl, (by decide +kernel)⟩
def dl_X2 : List hh_D := [.inr (2, [none, some 1, some 2, some 3, some 4, some 5]), .inl (0, 60), .inl (0, 60), .inl (0, 60), .inl (0, 60), .inl (0, 60)]
set_option maxHeartbeats 8000000 in
set_option maxRecDepth 20000 in
theorem mk_X2 (K : hk_G) (h0 : Nat) : hk_Sp K 1 5 300 hm_X2_init [.ref h0] [(h0, .inr (2, [.int 0, .null, .null, .null, .null, .null]))] (hk_Q K dl_X2 h0 0 (fun _ _ => 0)) := by
  refine hk_entry (by decide) rfl (Nat.le_of_ble_eq_true rfl) rfl ?_
  refine hk_aload dX2_init_0 rfl ?_
  refine hk_obj dX2_init_1 (hh_in 293 (by decide +kernel) (by decide +kernel)) (hh_in 98 (by decide +kernel) (by decide +kernel)) (hh_in 99 (by decide +kernel) (by decide +kernel)) (by decide) ?_
  refine hk_aload dX2_init_4 rfl ?_
  refine hk_bipush dX2_init_5 (by decide) ?_
  refine hk_newaC (t := 0) (N := 60) (ty := .int) (k' := 1) (n' := 60) dX2_init_7 (hh_in 134 (by decide +kernel) (by decide +kernel)) rfl rfl (fun _ _ _ h1 h2 => Option.some.inj (h1.symm.trans h2)) (fun _ => rfl) (by decide) (by decide) (Nat.le_of_ble_eq_true rfl) rfl rfl (Nat.le_of_ble_eq_true rfl) (Nat.le_of_ble_eq_true rfl) (fun a0 => ?_)
  refine hk_putE [.int 0, .ref a0, .null, .null, .null, .null] (L := 6) dX2_init_9 kq_X2_9 rfl rfl rfl (Nat.le_of_ble_eq_true rfl) rfl ?_
  refine hk_aload dX2_init_12 rfl ?_
  refine hk_bipush dX2_init_13 (by decide) ?_
  refine hk_newaC (t := 0) (N := 60) (ty := .int) (k' := 2) (n' := 120) dX2_init_15 (hh_in 134 (by decide +kernel) (by decide +kernel)) rfl rfl (fun _ _ _ h1 h2 => Option.some.inj (h1.symm.trans h2)) (fun _ => rfl) (by decide) (by decide) (Nat.le_of_ble_eq_true rfl) rfl rfl (Nat.le_of_ble_eq_true rfl) (Nat.le_of_ble_eq_true rfl) (fun a1 => ?_)
  refine hk_putE [.int 0, .ref a0, .ref a1, .null, .null, .null] (L := 6) dX2_init_17 kq_X2_15 rfl rfl rfl (Nat.le_of_ble_eq_true rfl) rfl ?_
  refine hk_aload dX2_init_20 rfl ?_
  refine hk_bipush dX2_init_21 (by decide) ?_
  refine hk_newaC (t := 0) (N := 60) (ty := .int) (k' := 3) (n' := 180) dX2_init_23 (hh_in 134 (by decide +kernel) (by decide +kernel)) rfl rfl (fun _ _ _ h1 h2 => Option.some.inj (h1.symm.trans h2)) (fun _ => rfl) (by decide) (by decide) (Nat.le_of_ble_eq_true rfl) rfl rfl (Nat.le_of_ble_eq_true rfl) (Nat.le_of_ble_eq_true rfl) (fun a2 => ?_)
  refine hk_putE [.int 0, .ref a0, .ref a1, .ref a2, .null, .null] (L := 6) dX2_init_25 kq_X2_18 rfl rfl rfl (Nat.le_of_ble_eq_true rfl) rfl ?_
  refine hk_aload dX2_init_28 rfl ?_
  refine hk_bipush dX2_init_29 (by decide) ?_
  refine hk_newaC (t := 0) (N := 60) (ty := .int) (k' := 4) (n' := 240) dX2_init_31 (hh_in 134 (by decide +kernel) (by decide +kernel)) rfl rfl (fun _ _ _ h1 h2 => Option.some.inj (h1.symm.trans h2)) (fun _ => rfl) (by decide) (by decide) (Nat.le_of_ble_eq_true rfl) rfl rfl (Nat.le_of_ble_eq_true rfl) (Nat.le_of_ble_eq_true rfl) (fun a3 => ?_)
  refine hk_putE [.int 0, .ref a0, .ref a1, .ref a2, .ref a3, .null] (L := 6) dX2_init_33 kq_X2_21 rfl rfl rfl (Nat.le_of_ble_eq_true rfl) rfl ?_
  refine hk_aload dX2_init_36 rfl ?_
  refine hk_bipush dX2_init_37 (by decide) ?_
  refine hk_newaC (t := 0) (N := 60) (ty := .int) (k' := 5) (n' := 300) dX2_init_39 (hh_in 134 (by decide +kernel) (by decide +kernel)) rfl rfl (fun _ _ _ h1 h2 => Option.some.inj (h1.symm.trans h2)) (fun _ => rfl) (by decide) (by decide) (Nat.le_of_ble_eq_true rfl) rfl rfl (Nat.le_of_ble_eq_true rfl) (Nat.le_of_ble_eq_true rfl) (fun a4 => ?_)
  refine hk_putE [.int 0, .ref a0, .ref a1, .ref a2, .ref a3, .ref a4] (L := 6) dX2_init_41 kq_X2_24 rfl rfl rfl (Nat.le_of_ble_eq_true rfl) rfl ?_
  refine hk_ret dX2_init_44 (Nat.le_of_ble_eq_true rfl) (Nat.le_of_ble_eq_true rfl) ?_
  exact ⟨fun k => match k with
    | 0 => h0
    | 1 => a0
    | 2 => a1
    | 3 => a2
    | 4 => a3
    | 5 => a4
    | _ => 0, rfl, rfl, rfl⟩

theorem kq_X0_9 : hk_FP "HourHouse$Bills" 9 0 1 true (.array .int) := ⟨RX0, TX0, 8, tyX0, rfl, by decide, hu_0, hh_in 327 (by decide +kernel) (by decide +kernel), tyX0_ok, nmX0, rfl, rfl, (by decide +kernel)⟩
theorem kq_X0_15 : hk_FP "HourHouse$Bills" 15 0 2 true (.array .int) := ⟨RX0, TX0, 8, tyX0, rfl, by decide, hu_0, hh_in 329 (by decide +kernel) (by decide +kernel), tyX0_ok, nmX0, rfl, rfl, (by decide +kernel)⟩
theorem kq_X0_18 : hk_FP "HourHouse$Bills" 18 0 3 true (.array .int) := ⟨RX0, TX0, 8, tyX0, rfl, by decide, hu_0, hh_in 331 (by decide +kernel) (by decide +kernel), tyX0_ok, nmX0, rfl, rfl, (by decide +kernel)⟩
theorem kq_X0_21 : hk_FP "HourHouse$Bills" 21 0 4 true (.array .int) := ⟨RX0, TX0, 8, tyX0, rfl, by decide, hu_0, hh_in 333 (by decide +kernel) (by decide +kernel), tyX0_ok, nmX0, rfl, rfl, (by decide +kernel)⟩
theorem kq_X0_24 : hk_FP "HourHouse$Bills" 24 0 5 true (.array .int) := ⟨RX0, TX0, 8, tyX0, rfl, by decide, hu_0, hh_in 335 (by decide +kernel) (by decide +kernel), tyX0_ok, nmX0, rfl, rfl, (by decide +kernel)⟩
theorem kq_X0_27 : hk_FP "HourHouse$Bills" 27 0 6 true (.array .int) := ⟨RX0, TX0, 8, tyX0, rfl, by decide, hu_0, hh_in 337 (by decide +kernel) (by decide +kernel), tyX0_ok, nmX0, rfl, rfl, (by decide +kernel)⟩
theorem kq_X0_30 : hk_FP "HourHouse$Bills" 30 0 7 true (.array .int) := ⟨RX0, TX0, 8, tyX0, rfl, by decide, hu_0, hh_in 339 (by decide +kernel) (by decide +kernel), tyX0_ok, nmX0, rfl, rfl, (by decide +kernel)⟩
def dl_X0 : List hh_D := [.inr (0, [none, some 1, some 2, some 3, some 4, some 5, some 6, some 7]), .inl (0, 16), .inl (0, 16), .inl (0, 16), .inl (0, 16), .inl (0, 16), .inl (0, 16), .inl (0, 48)]
set_option maxHeartbeats 8000000 in
set_option maxRecDepth 20000 in
theorem mk_X0 (K : hk_G) (h0 : Nat) : hk_Sp K 1 7 144 hm_X0_init [.ref h0] [(h0, .inr (0, [.int 0, .null, .null, .null, .null, .null, .null, .null]))] (hk_Q K dl_X0 h0 0 (fun _ _ => 0)) := by
  refine hk_entry (by decide) rfl (Nat.le_of_ble_eq_true rfl) rfl ?_
  refine hk_aload dX0_init_0 rfl ?_
  refine hk_obj dX0_init_1 (hh_in 324 (by decide +kernel) (by decide +kernel)) (hh_in 98 (by decide +kernel) (by decide +kernel)) (hh_in 99 (by decide +kernel) (by decide +kernel)) (by decide) ?_
  refine hk_aload dX0_init_4 rfl ?_
  refine hk_bipush dX0_init_5 (by decide) ?_
  refine hk_newaC (t := 0) (N := 16) (ty := .int) (k' := 1) (n' := 16) dX0_init_7 (hh_in 134 (by decide +kernel) (by decide +kernel)) rfl rfl (fun _ _ _ h1 h2 => Option.some.inj (h1.symm.trans h2)) (fun _ => rfl) (by decide) (by decide) (Nat.le_of_ble_eq_true rfl) rfl rfl (Nat.le_of_ble_eq_true rfl) (Nat.le_of_ble_eq_true rfl) (fun a0 => ?_)
  refine hk_putE [.int 0, .ref a0, .null, .null, .null, .null, .null, .null] (L := 8) dX0_init_9 kq_X0_9 rfl rfl rfl (Nat.le_of_ble_eq_true rfl) rfl ?_
  refine hk_aload dX0_init_12 rfl ?_
  refine hk_bipush dX0_init_13 (by decide) ?_
  refine hk_newaC (t := 0) (N := 16) (ty := .int) (k' := 2) (n' := 32) dX0_init_15 (hh_in 134 (by decide +kernel) (by decide +kernel)) rfl rfl (fun _ _ _ h1 h2 => Option.some.inj (h1.symm.trans h2)) (fun _ => rfl) (by decide) (by decide) (Nat.le_of_ble_eq_true rfl) rfl rfl (Nat.le_of_ble_eq_true rfl) (Nat.le_of_ble_eq_true rfl) (fun a1 => ?_)
  refine hk_putE [.int 0, .ref a0, .ref a1, .null, .null, .null, .null, .null] (L := 8) dX0_init_17 kq_X0_15 rfl rfl rfl (Nat.le_of_ble_eq_true rfl) rfl ?_
  refine hk_aload dX0_init_20 rfl ?_
  refine hk_bipush dX0_init_21 (by decide) ?_
  refine hk_newaC (t := 0) (N := 16) (ty := .int) (k' := 3) (n' := 48) dX0_init_23 (hh_in 134 (by decide +kernel) (by decide +kernel)) rfl rfl (fun _ _ _ h1 h2 => Option.some.inj (h1.symm.trans h2)) (fun _ => rfl) (by decide) (by decide) (Nat.le_of_ble_eq_true rfl) rfl rfl (Nat.le_of_ble_eq_true rfl) (Nat.le_of_ble_eq_true rfl) (fun a2 => ?_)
  refine hk_putE [.int 0, .ref a0, .ref a1, .ref a2, .null, .null, .null, .null] (L := 8) dX0_init_25 kq_X0_18 rfl rfl rfl (Nat.le_of_ble_eq_true rfl) rfl ?_
  refine hk_aload dX0_init_28 rfl ?_
  refine hk_bipush dX0_init_29 (by decide) ?_
  refine hk_newaC (t := 0) (N := 16) (ty := .int) (k' := 4) (n' := 64) dX0_init_31 (hh_in 134 (by decide +kernel) (by decide +kernel)) rfl rfl (fun _ _ _ h1 h2 => Option.some.inj (h1.symm.trans h2)) (fun _ => rfl) (by decide) (by decide) (Nat.le_of_ble_eq_true rfl) rfl rfl (Nat.le_of_ble_eq_true rfl) (Nat.le_of_ble_eq_true rfl) (fun a3 => ?_)
  refine hk_putE [.int 0, .ref a0, .ref a1, .ref a2, .ref a3, .null, .null, .null] (L := 8) dX0_init_33 kq_X0_21 rfl rfl rfl (Nat.le_of_ble_eq_true rfl) rfl ?_
  refine hk_aload dX0_init_36 rfl ?_
  refine hk_bipush dX0_init_37 (by decide) ?_
  refine hk_newaC (t := 0) (N := 16) (ty := .int) (k' := 5) (n' := 80) dX0_init_39 (hh_in 134 (by decide +kernel) (by decide +kernel)) rfl rfl (fun _ _ _ h1 h2 => Option.some.inj (h1.symm.trans h2)) (fun _ => rfl) (by decide) (by decide) (Nat.le_of_ble_eq_true rfl) rfl rfl (Nat.le_of_ble_eq_true rfl) (Nat.le_of_ble_eq_true rfl) (fun a4 => ?_)
  refine hk_putE [.int 0, .ref a0, .ref a1, .ref a2, .ref a3, .ref a4, .null, .null] (L := 8) dX0_init_41 kq_X0_24 rfl rfl rfl (Nat.le_of_ble_eq_true rfl) rfl ?_
  refine hk_aload dX0_init_44 rfl ?_
  refine hk_bipush dX0_init_45 (by decide) ?_
  refine hk_newaC (t := 0) (N := 16) (ty := .int) (k' := 6) (n' := 96) dX0_init_47 (hh_in 134 (by decide +kernel) (by decide +kernel)) rfl rfl (fun _ _ _ h1 h2 => Option.some.inj (h1.symm.trans h2)) (fun _ => rfl) (by decide) (by decide) (Nat.le_of_ble_eq_true rfl) rfl rfl (Nat.le_of_ble_eq_true rfl) (Nat.le_of_ble_eq_true rfl) (fun a5 => ?_)
  refine hk_putE [.int 0, .ref a0, .ref a1, .ref a2, .ref a3, .ref a4, .ref a5, .null] (L := 8) dX0_init_49 kq_X0_27 rfl rfl rfl (Nat.le_of_ble_eq_true rfl) rfl ?_
  refine hk_aload dX0_init_52 rfl ?_
  refine hk_bipush dX0_init_53 (by decide) ?_
  refine hk_newaC (t := 0) (N := 48) (ty := .int) (k' := 7) (n' := 144) dX0_init_55 (hh_in 134 (by decide +kernel) (by decide +kernel)) rfl rfl (fun _ _ _ h1 h2 => Option.some.inj (h1.symm.trans h2)) (fun _ => rfl) (by decide) (by decide) (Nat.le_of_ble_eq_true rfl) rfl rfl (Nat.le_of_ble_eq_true rfl) (Nat.le_of_ble_eq_true rfl) (fun a6 => ?_)
  refine hk_putE [.int 0, .ref a0, .ref a1, .ref a2, .ref a3, .ref a4, .ref a5, .ref a6] (L := 8) dX0_init_57 kq_X0_30 rfl rfl rfl (Nat.le_of_ble_eq_true rfl) rfl ?_
  refine hk_ret dX0_init_60 (Nat.le_of_ble_eq_true rfl) (Nat.le_of_ble_eq_true rfl) ?_
  exact ⟨fun k => match k with
    | 0 => h0
    | 1 => a0
    | 2 => a1
    | 3 => a2
    | 4 => a3
    | 5 => a4
    | 6 => a5
    | 7 => a6
    | _ => 0, rfl, rfl, rfl⟩

theorem kq_X9_9 : hk_FP "HourHouse$Tasks" 9 9 1 true (.array .int) := ⟨RX9, TX9, 4, tyX9, rfl, by decide, hu_9, hh_in 367 (by decide +kernel) (by decide +kernel), tyX9_ok, nmX9, rfl, rfl, (by decide +kernel)⟩
theorem kq_X9_15 : hk_FP "HourHouse$Tasks" 15 9 2 true (.array .int) := ⟨RX9, TX9, 4, tyX9, rfl, by decide, hu_9, hh_in 370 (by decide +kernel) (by decide +kernel), tyX9_ok, nmX9, rfl, rfl, (by decide +kernel)⟩
theorem kq_X9_18 : hk_FP "HourHouse$Tasks" 18 9 3 true (.array .int) := ⟨RX9, TX9, 4, tyX9, rfl, by decide, hu_9, hh_in 373 (by decide +kernel) (by decide +kernel), tyX9_ok, nmX9, rfl, rfl, (by decide +kernel)⟩
def dl_X9 : List hh_D := [.inr (9, [none, some 1, some 2, some 3]), .inl (0, 6), .inl (0, 6), .inl (0, 6)]
set_option maxHeartbeats 8000000 in
set_option maxRecDepth 20000 in
theorem mk_X9 (K : hk_G) (h0 : Nat) : hk_Sp K 1 3 18 hm_X9_init [.ref h0] [(h0, .inr (9, [.int 0, .null, .null, .null]))] (hk_Q K dl_X9 h0 0 (fun _ _ => 0)) := by
  refine hk_entry (by decide) rfl (Nat.le_of_ble_eq_true rfl) rfl ?_
  refine hk_aload dX9_init_0 rfl ?_
  refine hk_obj dX9_init_1 (hh_in 363 (by decide +kernel) (by decide +kernel)) (hh_in 98 (by decide +kernel) (by decide +kernel)) (hh_in 99 (by decide +kernel) (by decide +kernel)) (by decide) ?_
  refine hk_aload dX9_init_4 rfl ?_
  refine hk_bipush dX9_init_5 (by decide) ?_
  refine hk_newaC (t := 0) (N := 6) (ty := .int) (k' := 1) (n' := 6) dX9_init_7 (hh_in 134 (by decide +kernel) (by decide +kernel)) rfl rfl (fun _ _ _ h1 h2 => Option.some.inj (h1.symm.trans h2)) (fun _ => rfl) (by decide) (by decide) (Nat.le_of_ble_eq_true rfl) rfl rfl (Nat.le_of_ble_eq_true rfl) (Nat.le_of_ble_eq_true rfl) (fun a0 => ?_)
  refine hk_putE [.int 0, .ref a0, .null, .null] (L := 4) dX9_init_9 kq_X9_9 rfl rfl rfl (Nat.le_of_ble_eq_true rfl) rfl ?_
  refine hk_aload dX9_init_12 rfl ?_
  refine hk_bipush dX9_init_13 (by decide) ?_
  refine hk_newaC (t := 0) (N := 6) (ty := .int) (k' := 2) (n' := 12) dX9_init_15 (hh_in 134 (by decide +kernel) (by decide +kernel)) rfl rfl (fun _ _ _ h1 h2 => Option.some.inj (h1.symm.trans h2)) (fun _ => rfl) (by decide) (by decide) (Nat.le_of_ble_eq_true rfl) rfl rfl (Nat.le_of_ble_eq_true rfl) (Nat.le_of_ble_eq_true rfl) (fun a1 => ?_)
  refine hk_putE [.int 0, .ref a0, .ref a1, .null] (L := 4) dX9_init_17 kq_X9_15 rfl rfl rfl (Nat.le_of_ble_eq_true rfl) rfl ?_
  refine hk_aload dX9_init_20 rfl ?_
  refine hk_bipush dX9_init_21 (by decide) ?_
  refine hk_newaC (t := 0) (N := 6) (ty := .int) (k' := 3) (n' := 18) dX9_init_23 (hh_in 134 (by decide +kernel) (by decide +kernel)) rfl rfl (fun _ _ _ h1 h2 => Option.some.inj (h1.symm.trans h2)) (fun _ => rfl) (by decide) (by decide) (Nat.le_of_ble_eq_true rfl) rfl rfl (Nat.le_of_ble_eq_true rfl) (Nat.le_of_ble_eq_true rfl) (fun a2 => ?_)
  refine hk_putE [.int 0, .ref a0, .ref a1, .ref a2] (L := 4) dX9_init_25 kq_X9_18 rfl rfl rfl (Nat.le_of_ble_eq_true rfl) rfl ?_
  refine hk_ret dX9_init_28 (Nat.le_of_ble_eq_true rfl) (Nat.le_of_ble_eq_true rfl) ?_
  exact ⟨fun k => match k with
    | 0 => h0
    | 1 => a0
    | 2 => a1
    | 3 => a2
    | _ => 0, rfl, rfl, rfl⟩

theorem kq_X8_9 : hk_FP "HourHouse$Tape" 9 8 0 true (.array .byte) := ⟨RX8, TX8, 12, tyX8, rfl, by decide, hu_8, hh_in 436 (by decide +kernel) (by decide +kernel), tyX8_ok, nmX8, rfl, rfl, (by decide +kernel)⟩
theorem kq_X8_15 : hk_FP "HourHouse$Tape" 15 8 2 true (.array .int) := ⟨RX8, TX8, 12, tyX8, rfl, by decide, hu_8, hh_in 439 (by decide +kernel) (by decide +kernel), tyX8_ok, nmX8, rfl, rfl, (by decide +kernel)⟩
def dl_X8 : List hh_D := [.inr (8, [some 1, none, some 2, none, none, none, none, none, none, none, none, none]), .inl (1, 120), .inl (0, 120)]
set_option maxHeartbeats 8000000 in
set_option maxRecDepth 20000 in
theorem mk_X8 (K : hk_G) (h0 : Nat) : hk_Sp K 1 2 240 hm_X8_init [.ref h0] [(h0, .inr (8, [.null, .int 0, .null, .int 0, .int 0, .int 0, .int 0, .int 0, .int 0, .int 0, .int 0, .int 0]))] (hk_Q K dl_X8 h0 0 (fun _ _ => 0)) := by
  refine hk_entry (by decide) rfl (Nat.le_of_ble_eq_true rfl) rfl ?_
  refine hk_aload dX8_init_0 rfl ?_
  refine hk_obj dX8_init_1 (hh_in 435 (by decide +kernel) (by decide +kernel)) (hh_in 98 (by decide +kernel) (by decide +kernel)) (hh_in 99 (by decide +kernel) (by decide +kernel)) (by decide) ?_
  refine hk_aload dX8_init_4 rfl ?_
  refine hk_bipush dX8_init_5 (by decide) ?_
  refine hk_newaC (t := 1) (N := 120) (ty := .byte) (k' := 1) (n' := 120) dX8_init_7 (hh_in 478 (by decide +kernel) (by decide +kernel)) rfl rfl (fun _ _ _ h1 h2 => Option.some.inj (h1.symm.trans h2)) (fun _ => rfl) (by decide) (by decide) (Nat.le_of_ble_eq_true rfl) rfl rfl (Nat.le_of_ble_eq_true rfl) (Nat.le_of_ble_eq_true rfl) (fun a0 => ?_)
  refine hk_putE [.ref a0, .int 0, .null, .int 0, .int 0, .int 0, .int 0, .int 0, .int 0, .int 0, .int 0, .int 0] (L := 12) dX8_init_9 kq_X8_9 rfl rfl rfl (Nat.le_of_ble_eq_true rfl) rfl ?_
  refine hk_aload dX8_init_12 rfl ?_
  refine hk_bipush dX8_init_13 (by decide) ?_
  refine hk_newaC (t := 0) (N := 120) (ty := .int) (k' := 2) (n' := 240) dX8_init_15 (hh_in 134 (by decide +kernel) (by decide +kernel)) rfl rfl (fun _ _ _ h1 h2 => Option.some.inj (h1.symm.trans h2)) (fun _ => rfl) (by decide) (by decide) (Nat.le_of_ble_eq_true rfl) rfl rfl (Nat.le_of_ble_eq_true rfl) (Nat.le_of_ble_eq_true rfl) (fun a1 => ?_)
  refine hk_putE [.ref a0, .int 0, .ref a1, .int 0, .int 0, .int 0, .int 0, .int 0, .int 0, .int 0, .int 0, .int 0] (L := 12) dX8_init_17 kq_X8_15 rfl rfl rfl (Nat.le_of_ble_eq_true rfl) rfl ?_
  refine hk_ret dX8_init_20 (Nat.le_of_ble_eq_true rfl) (Nat.le_of_ble_eq_true rfl) ?_
  exact ⟨fun k => match k with
    | 0 => h0
    | 1 => a0
    | 2 => a1
    | _ => 0, rfl, rfl, rfl⟩

theorem kq_X10_9 : hk_FP "HourHouse$Worths" 9 10 1 true (.array .int) := ⟨RX10, TX10, 5, tyX10, rfl, by decide, hu_10, hh_in 486 (by decide +kernel) (by decide +kernel), tyX10_ok, nmX10, rfl, rfl, (by decide +kernel)⟩
theorem kq_X10_15 : hk_FP "HourHouse$Worths" 15 10 2 true (.array .int) := ⟨RX10, TX10, 5, tyX10, rfl, by decide, hu_10, hh_in 487 (by decide +kernel) (by decide +kernel), tyX10_ok, nmX10, rfl, rfl, (by decide +kernel)⟩
theorem kq_X10_18 : hk_FP "HourHouse$Worths" 18 10 3 true (.array .int) := ⟨RX10, TX10, 5, tyX10, rfl, by decide, hu_10, hh_in 488 (by decide +kernel) (by decide +kernel), tyX10_ok, nmX10, rfl, rfl, (by decide +kernel)⟩
theorem kq_X10_21 : hk_FP "HourHouse$Worths" 21 10 4 true (.array .int) := ⟨RX10, TX10, 5, tyX10, rfl, by decide, hu_10, hh_in 489 (by decide +kernel) (by decide +kernel), tyX10_ok, nmX10, rfl, rfl, (by decide +kernel)⟩
theorem kq_X10_24 : hk_FP "HourHouse$Worths" 24 10 0 true (.object "HourHouse$House") := ⟨RX10, TX10, 5, tyX10, rfl, by decide, hu_10, hh_in 485 (by decide +kernel) (by decide +kernel), tyX10_ok, nmX10, rfl, rfl, (by decide +kernel)⟩
def dl_X10 : List hh_D := [.inr (10, [some 1000, some 1, some 2, some 3, some 4]), .inl (0, 120), .inl (0, 90), .inl (0, 90), .inl (0, 90)]
set_option maxHeartbeats 8000000 in
set_option maxRecDepth 20000 in
theorem mk_X10 (K : hk_G) (h0 h1 : Nat) : hk_Sp K 1 4 390 hm_X10_init [.ref h0, .ref h1] [(h0, .inr (10, [.null, .null, .null, .null, .null]))] (hk_Q K dl_X10 h0 h1 (fun _ _ => 0)) := by
  refine hk_entry (by decide) rfl (Nat.le_of_ble_eq_true rfl) rfl ?_
  refine hk_aload dX10_init_0 rfl ?_
  refine hk_obj dX10_init_1 (hh_in 484 (by decide +kernel) (by decide +kernel)) (hh_in 98 (by decide +kernel) (by decide +kernel)) (hh_in 99 (by decide +kernel) (by decide +kernel)) (by decide) ?_
  refine hk_aload dX10_init_4 rfl ?_
  refine hk_bipush dX10_init_5 (by decide) ?_
  refine hk_newaC (t := 0) (N := 120) (ty := .int) (k' := 1) (n' := 120) dX10_init_7 (hh_in 134 (by decide +kernel) (by decide +kernel)) rfl rfl (fun _ _ _ h1 h2 => Option.some.inj (h1.symm.trans h2)) (fun _ => rfl) (by decide) (by decide) (Nat.le_of_ble_eq_true rfl) rfl rfl (Nat.le_of_ble_eq_true rfl) (Nat.le_of_ble_eq_true rfl) (fun a0 => ?_)
  refine hk_putE [.null, .ref a0, .null, .null, .null] (L := 5) dX10_init_9 kq_X10_9 rfl rfl rfl (Nat.le_of_ble_eq_true rfl) rfl ?_
  refine hk_aload dX10_init_12 rfl ?_
  refine hk_bipush dX10_init_13 (by decide) ?_
  refine hk_newaC (t := 0) (N := 90) (ty := .int) (k' := 2) (n' := 210) dX10_init_15 (hh_in 134 (by decide +kernel) (by decide +kernel)) rfl rfl (fun _ _ _ h1 h2 => Option.some.inj (h1.symm.trans h2)) (fun _ => rfl) (by decide) (by decide) (Nat.le_of_ble_eq_true rfl) rfl rfl (Nat.le_of_ble_eq_true rfl) (Nat.le_of_ble_eq_true rfl) (fun a1 => ?_)
  refine hk_putE [.null, .ref a0, .ref a1, .null, .null] (L := 5) dX10_init_17 kq_X10_15 rfl rfl rfl (Nat.le_of_ble_eq_true rfl) rfl ?_
  refine hk_aload dX10_init_20 rfl ?_
  refine hk_bipush dX10_init_21 (by decide) ?_
  refine hk_newaC (t := 0) (N := 90) (ty := .int) (k' := 3) (n' := 300) dX10_init_23 (hh_in 134 (by decide +kernel) (by decide +kernel)) rfl rfl (fun _ _ _ h1 h2 => Option.some.inj (h1.symm.trans h2)) (fun _ => rfl) (by decide) (by decide) (Nat.le_of_ble_eq_true rfl) rfl rfl (Nat.le_of_ble_eq_true rfl) (Nat.le_of_ble_eq_true rfl) (fun a2 => ?_)
  refine hk_putE [.null, .ref a0, .ref a1, .ref a2, .null] (L := 5) dX10_init_25 kq_X10_18 rfl rfl rfl (Nat.le_of_ble_eq_true rfl) rfl ?_
  refine hk_aload dX10_init_28 rfl ?_
  refine hk_bipush dX10_init_29 (by decide) ?_
  refine hk_newaC (t := 0) (N := 90) (ty := .int) (k' := 4) (n' := 390) dX10_init_31 (hh_in 134 (by decide +kernel) (by decide +kernel)) rfl rfl (fun _ _ _ h1 h2 => Option.some.inj (h1.symm.trans h2)) (fun _ => rfl) (by decide) (by decide) (Nat.le_of_ble_eq_true rfl) rfl rfl (Nat.le_of_ble_eq_true rfl) (Nat.le_of_ble_eq_true rfl) (fun a3 => ?_)
  refine hk_putE [.null, .ref a0, .ref a1, .ref a2, .ref a3] (L := 5) dX10_init_33 kq_X10_21 rfl rfl rfl (Nat.le_of_ble_eq_true rfl) rfl ?_
  refine hk_aload dX10_init_36 rfl ?_
  refine hk_aload dX10_init_37 rfl ?_
  refine hk_putE [.ref h1, .ref a0, .ref a1, .ref a2, .ref a3] (L := 5) dX10_init_38 kq_X10_24 rfl rfl rfl (Nat.le_of_ble_eq_true rfl) rfl ?_
  refine hk_ret dX10_init_41 (Nat.le_of_ble_eq_true rfl) (Nat.le_of_ble_eq_true rfl) ?_
  exact ⟨fun k => match k with
    | 0 => h0
    | 1 => a0
    | 2 => a1
    | 3 => a2
    | 4 => a3
    | _ => h1, rfl, rfl, rfl⟩

theorem kq_X7_9 : hk_FP "HourHouse$Planner" 9 7 1 true (.array .boolean) := ⟨RX7, TX7, 7, tyX7, rfl, by decide, hu_7, hh_in 509 (by decide +kernel) (by decide +kernel), tyX7_ok, nmX7, rfl, rfl, (by decide +kernel)⟩
theorem kq_X7_15 : hk_FP "HourHouse$Planner" 15 7 2 true (.array .int) := ⟨RX7, TX7, 7, tyX7, rfl, by decide, hu_7, hh_in 510 (by decide +kernel) (by decide +kernel), tyX7_ok, nmX7, rfl, rfl, (by decide +kernel)⟩
theorem kq_X7_19 : hk_FP "HourHouse$Planner" 19 7 3 true (.array .int) := ⟨RX7, TX7, 7, tyX7, rfl, by decide, hu_7, hh_in 511 (by decide +kernel) (by decide +kernel), tyX7_ok, nmX7, rfl, rfl, (by decide +kernel)⟩
theorem kq_X7_22 : hk_FP "HourHouse$Planner" 22 7 4 true (.array .int) := ⟨RX7, TX7, 7, tyX7, rfl, by decide, hu_7, hh_in 512 (by decide +kernel) (by decide +kernel), tyX7_ok, nmX7, rfl, rfl, (by decide +kernel)⟩
theorem kq_X7_25 : hk_FP "HourHouse$Planner" 25 7 0 true (.object "HourHouse$House") := ⟨RX7, TX7, 7, tyX7, rfl, by decide, hu_7, hh_in 508 (by decide +kernel) (by decide +kernel), tyX7_ok, nmX7, rfl, rfl, (by decide +kernel)⟩
def dl_X7 : List hh_D := [.inr (7, [some 1000, some 1, some 2, some 3, some 4, none, none]), .inl (3, 48), .inl (0, 8), .inl (0, 6), .inl (0, 6)]
set_option maxHeartbeats 8000000 in
set_option maxRecDepth 20000 in
theorem mk_X7 (K : hk_G) (h0 h1 : Nat) : hk_Sp K 1 4 68 hm_X7_init [.ref h0, .ref h1] [(h0, .inr (7, [.null, .null, .null, .null, .null, .int 0, .int 0]))] (hk_Q K dl_X7 h0 h1 (fun _ _ => 0)) := by
  refine hk_entry (by decide) rfl (Nat.le_of_ble_eq_true rfl) rfl ?_
  refine hk_aload dX7_init_0 rfl ?_
  refine hk_obj dX7_init_1 (hh_in 507 (by decide +kernel) (by decide +kernel)) (hh_in 98 (by decide +kernel) (by decide +kernel)) (hh_in 99 (by decide +kernel) (by decide +kernel)) (by decide) ?_
  refine hk_aload dX7_init_4 rfl ?_
  refine hk_bipush dX7_init_5 (by decide) ?_
  refine hk_newaC (t := 3) (N := 48) (ty := .boolean) (k' := 1) (n' := 48) dX7_init_7 (hh_in 531 (by decide +kernel) (by decide +kernel)) rfl rfl (fun _ _ _ h1 h2 => Option.some.inj (h1.symm.trans h2)) (fun _ => rfl) (by decide) (by decide) (Nat.le_of_ble_eq_true rfl) rfl rfl (Nat.le_of_ble_eq_true rfl) (Nat.le_of_ble_eq_true rfl) (fun a0 => ?_)
  refine hk_putE [.null, .ref a0, .null, .null, .null, .int 0, .int 0] (L := 7) dX7_init_9 kq_X7_9 rfl rfl rfl (Nat.le_of_ble_eq_true rfl) rfl ?_
  refine hk_aload dX7_init_12 rfl ?_
  refine hk_bipush dX7_init_13 (by decide) ?_
  refine hk_newaC (t := 0) (N := 8) (ty := .int) (k' := 2) (n' := 56) dX7_init_15 (hh_in 134 (by decide +kernel) (by decide +kernel)) rfl rfl (fun _ _ _ h1 h2 => Option.some.inj (h1.symm.trans h2)) (fun _ => rfl) (by decide) (by decide) (Nat.le_of_ble_eq_true rfl) rfl rfl (Nat.le_of_ble_eq_true rfl) (Nat.le_of_ble_eq_true rfl) (fun a1 => ?_)
  refine hk_putE [.null, .ref a0, .ref a1, .null, .null, .int 0, .int 0] (L := 7) dX7_init_17 kq_X7_15 rfl rfl rfl (Nat.le_of_ble_eq_true rfl) rfl ?_
  refine hk_aload dX7_init_20 rfl ?_
  refine hk_bipush dX7_init_21 (by decide) ?_
  refine hk_newaC (t := 0) (N := 6) (ty := .int) (k' := 3) (n' := 62) dX7_init_23 (hh_in 134 (by decide +kernel) (by decide +kernel)) rfl rfl (fun _ _ _ h1 h2 => Option.some.inj (h1.symm.trans h2)) (fun _ => rfl) (by decide) (by decide) (Nat.le_of_ble_eq_true rfl) rfl rfl (Nat.le_of_ble_eq_true rfl) (Nat.le_of_ble_eq_true rfl) (fun a2 => ?_)
  refine hk_putE [.null, .ref a0, .ref a1, .ref a2, .null, .int 0, .int 0] (L := 7) dX7_init_25 kq_X7_19 rfl rfl rfl (Nat.le_of_ble_eq_true rfl) rfl ?_
  refine hk_aload dX7_init_28 rfl ?_
  refine hk_bipush dX7_init_29 (by decide) ?_
  refine hk_newaC (t := 0) (N := 6) (ty := .int) (k' := 4) (n' := 68) dX7_init_31 (hh_in 134 (by decide +kernel) (by decide +kernel)) rfl rfl (fun _ _ _ h1 h2 => Option.some.inj (h1.symm.trans h2)) (fun _ => rfl) (by decide) (by decide) (Nat.le_of_ble_eq_true rfl) rfl rfl (Nat.le_of_ble_eq_true rfl) (Nat.le_of_ble_eq_true rfl) (fun a3 => ?_)
  refine hk_putE [.null, .ref a0, .ref a1, .ref a2, .ref a3, .int 0, .int 0] (L := 7) dX7_init_33 kq_X7_22 rfl rfl rfl (Nat.le_of_ble_eq_true rfl) rfl ?_
  refine hk_aload dX7_init_36 rfl ?_
  refine hk_aload dX7_init_37 rfl ?_
  refine hk_putE [.ref h1, .ref a0, .ref a1, .ref a2, .ref a3, .int 0, .int 0] (L := 7) dX7_init_38 kq_X7_25 rfl rfl rfl (Nat.le_of_ble_eq_true rfl) rfl ?_
  refine hk_ret dX7_init_41 (Nat.le_of_ble_eq_true rfl) (Nat.le_of_ble_eq_true rfl) ?_
  exact ⟨fun k => match k with
    | 0 => h0
    | 1 => a0
    | 2 => a1
    | 3 => a2
    | 4 => a3
    | _ => h1, rfl, rfl, rfl⟩

