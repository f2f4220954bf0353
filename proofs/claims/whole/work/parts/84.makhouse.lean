/-! making: the constructors (by program) -/
theorem kn_X4_7 : hk_N "HourHouse$House" 7 6 4 [.int 0, .null, .null, .null] := ⟨RX6, TX6, tyX6, rfl, hu_6, tyX6_ok, hh_in 106 (by decide +kernel) (by decide +kernel), hh_in 107 (by decide +kernel) (by decide +kernel), hh_in 72 (by decide +kernel) (by decide +kernel), fun j hj => by rcases (show j = 0 ∨ j = 1 ∨ j = 2 ∨ j = 3 by omega) with rfl | rfl | rfl | rfl <;> rfl⟩
theorem kq_X4_10 : hk_FP "HourHouse$House" 10 4 0 true (.object "HourHouse$People") := ⟨RX4, TX4, 9, tyX4, rfl, by decide, hu_4, hh_in 385 (by decide +kernel) (by decide +kernel), tyX4_ok, nmX4, rfl, rfl, (by decide +kernel)⟩
theorem kn_X4_16 : hk_N "HourHouse$House" 16 1 7 [.int 0, .null, .null, .null, .null, .null, .null] := ⟨RX1, TX1, tyX1, rfl, hu_1, tyX1_ok, hh_in 135 (by decide +kernel) (by decide +kernel), hh_in 136 (by decide +kernel) (by decide +kernel), hh_in 73 (by decide +kernel) (by decide +kernel), fun j hj => by rcases (show j = 0 ∨ j = 1 ∨ j = 2 ∨ j = 3 ∨ j = 4 ∨ j = 5 ∨ j = 6 by omega) with rfl | rfl | rfl | rfl | rfl | rfl | rfl <;> rfl⟩
theorem kq_X4_19 : hk_FP "HourHouse$House" 19 4 1 true (.object "HourHouse$Clients") := ⟨RX4, TX4, 9, tyX4, rfl, by decide, hu_4, hh_in 389 (by decide +kernel) (by decide +kernel), tyX4_ok, nmX4, rfl, rfl, (by decide +kernel)⟩
theorem kn_X4_23 : hk_N "HourHouse$House" 23 5 11 [.int 0, .null, .null, .null, .null, .null, .null, .null, .null, .null, .null] := ⟨RX5, TX5, tyX5, rfl, hu_5, tyX5_ok, hh_in 173 (by decide +kernel) (by decide +kernel), hh_in 174 (by decide +kernel) (by decide +kernel), hh_in 74 (by decide +kernel) (by decide +kernel), fun j hj => by rcases (show j = 0 ∨ j = 1 ∨ j = 2 ∨ j = 3 ∨ j = 4 ∨ j = 5 ∨ j = 6 ∨ j = 7 ∨ j = 8 ∨ j = 9 ∨ j = 10 by omega) with rfl | rfl | rfl | rfl | rfl | rfl | rfl | rfl | rfl | rfl | rfl <;> rfl⟩
theorem kq_X4_26 : hk_FP "HourHouse$House" 26 4 2 true (.object "HourHouse$Matters") := ⟨RX4, TX4, 9, tyX4, rfl, by decide, hu_4, hh_in 392 (by decide +kernel) (by decide +kernel), tyX4_ok, nmX4, rfl, rfl, (by decide +kernel)⟩
theorem kn_X4_30 : hk_N "HourHouse$House" 30 3 12 [.int 0, .null, .null, .null, .null, .null, .null, .null, .null, .null, .null, .null] := ⟨RX3, TX3, tyX3, rfl, hu_3, tyX3_ok, hh_in 225 (by decide +kernel) (by decide +kernel), hh_in 226 (by decide +kernel) (by decide +kernel), hh_in 75 (by decide +kernel) (by decide +kernel), fun j hj => by rcases (show j = 0 ∨ j = 1 ∨ j = 2 ∨ j = 3 ∨ j = 4 ∨ j = 5 ∨ j = 6 ∨ j = 7 ∨ j = 8 ∨ j = 9 ∨ j = 10 ∨ j = 11 by omega) with rfl | rfl | rfl | rfl | rfl | rfl | rfl | rfl | rfl | rfl | rfl | rfl <;> rfl⟩
theorem kq_X4_33 : hk_FP "HourHouse$House" 33 4 3 true (.object "HourHouse$Entries") := ⟨RX4, TX4, 9, tyX4, rfl, by decide, hu_4, hh_in 396 (by decide +kernel) (by decide +kernel), tyX4_ok, nmX4, rfl, rfl, (by decide +kernel)⟩
theorem kn_X4_37 : hk_N "HourHouse$House" 37 2 6 [.int 0, .null, .null, .null, .null, .null] := ⟨RX2, TX2, tyX2, rfl, hu_2, tyX2_ok, hh_in 288 (by decide +kernel) (by decide +kernel), hh_in 289 (by decide +kernel) (by decide +kernel), hh_in 76 (by decide +kernel) (by decide +kernel), fun j hj => by rcases (show j = 0 ∨ j = 1 ∨ j = 2 ∨ j = 3 ∨ j = 4 ∨ j = 5 by omega) with rfl | rfl | rfl | rfl | rfl | rfl <;> rfl⟩
theorem kq_X4_40 : hk_FP "HourHouse$House" 40 4 4 true (.object "HourHouse$Doors") := ⟨RX4, TX4, 9, tyX4, rfl, by decide, hu_4, hh_in 399 (by decide +kernel) (by decide +kernel), tyX4_ok, nmX4, rfl, rfl, (by decide +kernel)⟩
theorem kn_X4_44 : hk_N "HourHouse$House" 44 0 8 [.int 0, .null, .null, .null, .null, .null, .null, .null] := ⟨RX0, TX0, tyX0, rfl, hu_0, tyX0_ok, hh_in 319 (by decide +kernel) (by decide +kernel), hh_in 320 (by decide +kernel) (by decide +kernel), hh_in 77 (by decide +kernel) (by decide +kernel), fun j hj => by rcases (show j = 0 ∨ j = 1 ∨ j = 2 ∨ j = 3 ∨ j = 4 ∨ j = 5 ∨ j = 6 ∨ j = 7 by omega) with rfl | rfl | rfl | rfl | rfl | rfl | rfl | rfl <;> rfl⟩
theorem kq_X4_47 : hk_FP "HourHouse$House" 47 4 5 true (.object "HourHouse$Bills") := ⟨RX4, TX4, 9, tyX4, rfl, by decide, hu_4, hh_in 401 (by decide +kernel) (by decide +kernel), tyX4_ok, nmX4, rfl, rfl, (by decide +kernel)⟩
theorem kn_X4_51 : hk_N "HourHouse$House" 51 9 4 [.int 0, .null, .null, .null] := ⟨RX9, TX9, tyX9, rfl, hu_9, tyX9_ok, hh_in 358 (by decide +kernel) (by decide +kernel), hh_in 359 (by decide +kernel) (by decide +kernel), hh_in 78 (by decide +kernel) (by decide +kernel), fun j hj => by rcases (show j = 0 ∨ j = 1 ∨ j = 2 ∨ j = 3 by omega) with rfl | rfl | rfl | rfl <;> rfl⟩
theorem kq_X4_54 : hk_FP "HourHouse$House" 54 4 6 true (.object "HourHouse$Tasks") := ⟨RX4, TX4, 9, tyX4, rfl, by decide, hu_4, hh_in 403 (by decide +kernel) (by decide +kernel), tyX4_ok, nmX4, rfl, rfl, (by decide +kernel)⟩
theorem kq_X4_58 : hk_FP "HourHouse$House" 58 4 7 true (.array .int) := ⟨RX4, TX4, 9, tyX4, rfl, by decide, hu_4, hh_in 406 (by decide +kernel) (by decide +kernel), tyX4_ok, nmX4, rfl, rfl, (by decide +kernel)⟩
def dl_X4 : List hh_D := .inr (4, [some 1, some 5, some 12, some 23, some 35, some 41, some 49, some 53, none]) :: (((((((([] ++ dl_X6.map (hk_mp 1 0)) ++ dl_X1.map (hk_mp 5 0)) ++ dl_X5.map (hk_mp 12 0)) ++ dl_X3.map (hk_mp 23 0)) ++ dl_X2.map (hk_mp 35 0)) ++ dl_X0.map (hk_mp 41 0)) ++ dl_X9.map (hk_mp 49 0)) ++ [.inl (0, 3)])
def sg_X4 : hh_S := fun r => if r = 53 then hk_ru else fun _ => 0
set_option maxHeartbeats 8000000 in
set_option maxRecDepth 20000 in
theorem mk_X4 (K : hk_G) (h0 : Nat) : hk_Sp K 2 53 3646 hm_X4_init [.ref h0] [(h0, .inr (4, [.null, .null, .null, .null, .null, .null, .null, .null, .int 0]))] (hk_Q K dl_X4 h0 0 sg_X4) := by
  refine hk_entry (by decide) rfl (Nat.le_of_ble_eq_true rfl) rfl ?_
  refine hk_aload dX4_init_0 rfl ?_
  refine hk_obj dX4_init_1 (hh_in 105 (by decide +kernel) (by decide +kernel)) (hh_in 98 (by decide +kernel) (by decide +kernel)) (hh_in 99 (by decide +kernel) (by decide +kernel)) (by decide) ?_
  refine hk_aload dX4_init_4 rfl ?_
  refine hk_newC (ci := 6) (N := 4) (k' := 1) (n' := 4) dX4_init_5 kn_X4_7 rfl rfl (Nat.le_of_ble_eq_true rfl) (Nat.le_of_ble_eq_true rfl) (fun b0 => ?_)
  refine hk_dup dX4_init_8 rfl ?_
  refine hk_callC (mi' := hm_X6_init) (As := []) (k' := 4) (n' := 28) dX4_init_9 (Or.inr ⟨"HourHouse", by decide +kernel⟩) ko_X6 (Nat.le_of_ble_eq_true rfl) (mk_X6 K b0) rfl rfl (Nat.le_of_ble_eq_true rfl) (Nat.le_of_ble_eq_true rfl) (fun w0 h0 => ?_)
  obtain ⟨q0, h0a, h0b, rfl⟩ := h0
  refine hk_putE [.ref b0, .null, .null, .null, .null, .null, .null, .null, .int 0] (L := 9) dX4_init_12 kq_X4_10 rfl rfl rfl (Nat.le_of_ble_eq_true rfl) rfl ?_
  refine hk_aload dX4_init_15 rfl ?_
  refine hk_newC (ci := 1) (N := 7) (k' := 5) (n' := 35) dX4_init_16 kn_X4_16 rfl rfl (Nat.le_of_ble_eq_true rfl) (Nat.le_of_ble_eq_true rfl) (fun b1 => ?_)
  refine hk_dup dX4_init_19 rfl ?_
  refine hk_callC (mi' := hm_X1_init) (As := []) (k' := 11) (n' := 1890) dX4_init_20 (Or.inr ⟨"HourHouse", by decide +kernel⟩) ko_X1 (Nat.le_of_ble_eq_true rfl) (mk_X1 K b1) rfl rfl (Nat.le_of_ble_eq_true rfl) (Nat.le_of_ble_eq_true rfl) (fun w1 h1 => ?_)
  obtain ⟨q1, h1a, h1b, rfl⟩ := h1
  refine hk_putE [.ref b0, .ref b1, .null, .null, .null, .null, .null, .null, .int 0] (L := 9) dX4_init_23 kq_X4_19 rfl rfl rfl (Nat.le_of_ble_eq_true rfl) rfl ?_
  refine hk_aload dX4_init_26 rfl ?_
  refine hk_newC (ci := 5) (N := 11) (k' := 12) (n' := 1901) dX4_init_27 kn_X4_23 rfl rfl (Nat.le_of_ble_eq_true rfl) (Nat.le_of_ble_eq_true rfl) (fun b2 => ?_)
  refine hk_dup dX4_init_30 rfl ?_
  refine hk_callC (mi' := hm_X5_init) (As := []) (k' := 22) (n' := 2161) dX4_init_31 (Or.inr ⟨"HourHouse", by decide +kernel⟩) ko_X5 (Nat.le_of_ble_eq_true rfl) (mk_X5 K b2) rfl rfl (Nat.le_of_ble_eq_true rfl) (Nat.le_of_ble_eq_true rfl) (fun w2 h2 => ?_)
  obtain ⟨q2, h2a, h2b, rfl⟩ := h2
  refine hk_putE [.ref b0, .ref b1, .ref b2, .null, .null, .null, .null, .null, .int 0] (L := 9) dX4_init_34 kq_X4_26 rfl rfl rfl (Nat.le_of_ble_eq_true rfl) rfl ?_
  refine hk_aload dX4_init_37 rfl ?_
  refine hk_newC (ci := 3) (N := 12) (k' := 23) (n' := 2173) dX4_init_38 kn_X4_30 rfl rfl (Nat.le_of_ble_eq_true rfl) (Nat.le_of_ble_eq_true rfl) (fun b3 => ?_)
  refine hk_dup dX4_init_41 rfl ?_
  refine hk_callC (mi' := hm_X3_init) (As := []) (k' := 34) (n' := 3163) dX4_init_42 (Or.inr ⟨"HourHouse", by decide +kernel⟩) ko_X3 (Nat.le_of_ble_eq_true rfl) (mk_X3 K b3) rfl rfl (Nat.le_of_ble_eq_true rfl) (Nat.le_of_ble_eq_true rfl) (fun w3 h3 => ?_)
  obtain ⟨q3, h3a, h3b, rfl⟩ := h3
  refine hk_putE [.ref b0, .ref b1, .ref b2, .ref b3, .null, .null, .null, .null, .int 0] (L := 9) dX4_init_45 kq_X4_33 rfl rfl rfl (Nat.le_of_ble_eq_true rfl) rfl ?_
  refine hk_aload dX4_init_48 rfl ?_
  refine hk_newC (ci := 2) (N := 6) (k' := 35) (n' := 3169) dX4_init_49 kn_X4_37 rfl rfl (Nat.le_of_ble_eq_true rfl) (Nat.le_of_ble_eq_true rfl) (fun b4 => ?_)
  refine hk_dup dX4_init_52 rfl ?_
  refine hk_callC (mi' := hm_X2_init) (As := []) (k' := 40) (n' := 3469) dX4_init_53 (Or.inr ⟨"HourHouse", by decide +kernel⟩) ko_X2 (Nat.le_of_ble_eq_true rfl) (mk_X2 K b4) rfl rfl (Nat.le_of_ble_eq_true rfl) (Nat.le_of_ble_eq_true rfl) (fun w4 h4 => ?_)
  obtain ⟨q4, h4a, h4b, rfl⟩ := h4
  refine hk_putE [.ref b0, .ref b1, .ref b2, .ref b3, .ref b4, .null, .null, .null, .int 0] (L := 9) dX4_init_56 kq_X4_40 rfl rfl rfl (Nat.le_of_ble_eq_true rfl) rfl ?_
  refine hk_aload dX4_init_59 rfl ?_
  refine hk_newC (ci := 0) (N := 8) (k' := 41) (n' := 3477) dX4_init_60 kn_X4_44 rfl rfl (Nat.le_of_ble_eq_true rfl) (Nat.le_of_ble_eq_true rfl) (fun b5 => ?_)
  refine hk_dup dX4_init_63 rfl ?_
  refine hk_callC (mi' := hm_X0_init) (As := []) (k' := 48) (n' := 3621) dX4_init_64 (Or.inr ⟨"HourHouse", by decide +kernel⟩) ko_X0 (Nat.le_of_ble_eq_true rfl) (mk_X0 K b5) rfl rfl (Nat.le_of_ble_eq_true rfl) (Nat.le_of_ble_eq_true rfl) (fun w5 h5 => ?_)
  obtain ⟨q5, h5a, h5b, rfl⟩ := h5
  refine hk_putE [.ref b0, .ref b1, .ref b2, .ref b3, .ref b4, .ref b5, .null, .null, .int 0] (L := 9) dX4_init_67 kq_X4_47 rfl rfl rfl (Nat.le_of_ble_eq_true rfl) rfl ?_
  refine hk_aload dX4_init_70 rfl ?_
  refine hk_newC (ci := 9) (N := 4) (k' := 49) (n' := 3625) dX4_init_71 kn_X4_51 rfl rfl (Nat.le_of_ble_eq_true rfl) (Nat.le_of_ble_eq_true rfl) (fun b6 => ?_)
  refine hk_dup dX4_init_74 rfl ?_
  refine hk_callC (mi' := hm_X9_init) (As := []) (k' := 52) (n' := 3643) dX4_init_75 (Or.inr ⟨"HourHouse", by decide +kernel⟩) ko_X9 (Nat.le_of_ble_eq_true rfl) (mk_X9 K b6) rfl rfl (Nat.le_of_ble_eq_true rfl) (Nat.le_of_ble_eq_true rfl) (fun w6 h6 => ?_)
  obtain ⟨q6, h6a, h6b, rfl⟩ := h6
  refine hk_putE [.ref b0, .ref b1, .ref b2, .ref b3, .ref b4, .ref b5, .ref b6, .null, .int 0] (L := 9) dX4_init_78 kq_X4_54 rfl rfl rfl (Nat.le_of_ble_eq_true rfl) rfl ?_
  refine hk_aload dX4_init_81 rfl ?_
  refine hk_iconst dX4_init_82 ?_
  refine hk_newaC (t := 0) (N := 3) (ty := .int) (k' := 53) (n' := 3646) dX4_init_83 (hh_in 134 (by decide +kernel) (by decide +kernel)) rfl rfl (fun _ _ _ h1 h2 => Option.some.inj (h1.symm.trans h2)) (fun _ => rfl) (by decide) (by decide) (Nat.le_of_ble_eq_true rfl) rfl rfl (Nat.le_of_ble_eq_true rfl) (Nat.le_of_ble_eq_true rfl) (fun a7 => ?_)
  refine hk_dup dX4_init_85 rfl ?_
  refine hk_iconst dX4_init_86 ?_
  refine hk_bipush dX4_init_87 (by decide) ?_
  refine hk_iastC dX4_init_89 (hh_vin (by decide) (by decide) ⟨by decide, by decide⟩) ?_
  refine hk_dup dX4_init_90 rfl ?_
  refine hk_iconst dX4_init_91 ?_
  refine hk_bipush dX4_init_92 (by decide) ?_
  refine hk_iastC dX4_init_94 (hh_vin (by decide) (by decide) ⟨by decide, by decide⟩) ?_
  refine hk_dup dX4_init_95 rfl ?_
  refine hk_iconst dX4_init_96 ?_
  refine hk_bipush dX4_init_97 (by decide) ?_
  refine hk_iastC dX4_init_99 (hh_vin (by decide) (by decide) ⟨by decide, by decide⟩) ?_
  refine hk_putE [.ref b0, .ref b1, .ref b2, .ref b3, .ref b4, .ref b5, .ref b6, .ref a7, .int 0] (L := 9) dX4_init_100 kq_X4_58 rfl rfl rfl (Nat.le_of_ble_eq_true rfl) rfl ?_
  refine hk_ret dX4_init_103 (Nat.le_of_ble_eq_true rfl) (Nat.le_of_ble_eq_true rfl) ?_
  obtain ⟨q, hq⟩ : ∃ q : Nat → Nat, q = (fun k => if k = 0 then h0 else if k < 5 then q0 (k - 1) else if k < 12 then q1 (k - 5) else if k < 23 then q2 (k - 12) else if k < 35 then q3 (k - 23) else if k < 41 then q4 (k - 35) else if k < 49 then q5 (k - 41) else if k < 53 then q6 (k - 49) else if k = 53 then a7 else 0) := ⟨_, rfl⟩
  refine ⟨q, by rw [hq]; rfl, by rw [hq]; rfl, ?_⟩
  have k0 : q 0 = h0 := by rw [hq]; rfl
  have k1 : q 1 = b0 := by rw [hq]; exact h0a
  have e0 : hk_sg K q sg_X4 1 (dl_X6.map (hk_mp 1 0)) = hk_sg K q0 (fun _ _ => 0) 0 dl_X6 := by
    refine hk_sg_sh (off := 1) (B := 4) (E := false) (fun k hk => ?_) (fun k hk => ?_) dl_X6 0 (by decide +kernel) (Nat.le_of_ble_eq_true rfl) (Nat.le_of_ble_eq_true rfl)
    · rcases hk with hk | hk
      · unfold hk_ph
        rw [if_neg (by omega), hq]
        show (if 1 + k = 0 then h0 else if 1 + k < 5 then q0 (1 + k - 1) else if 1 + k < 12 then q1 (1 + k - 5) else if 1 + k < 23 then q2 (1 + k - 12) else if 1 + k < 35 then q3 (1 + k - 23) else if 1 + k < 41 then q4 (1 + k - 35) else if 1 + k < 49 then q5 (1 + k - 41) else if 1 + k < 53 then q6 (1 + k - 49) else if 1 + k = 53 then a7 else 0) = q0 k
        rw [if_neg (by omega), if_pos (by omega), show 1 + k - 1 = k by omega]
      · exact absurd hk.2 (by decide)
    · unfold sg_X4
      rw [if_neg (by omega)]
  have k5 : q 5 = b1 := by rw [hq]; exact h1a
  have e1 : hk_sg K q sg_X4 5 (dl_X1.map (hk_mp 5 0)) = hk_sg K q1 (fun _ _ => 0) 0 dl_X1 := by
    refine hk_sg_sh (off := 5) (B := 7) (E := false) (fun k hk => ?_) (fun k hk => ?_) dl_X1 0 (by decide +kernel) (Nat.le_of_ble_eq_true rfl) (Nat.le_of_ble_eq_true rfl)
    · rcases hk with hk | hk
      · unfold hk_ph
        rw [if_neg (by omega), hq]
        show (if 5 + k = 0 then h0 else if 5 + k < 5 then q0 (5 + k - 1) else if 5 + k < 12 then q1 (5 + k - 5) else if 5 + k < 23 then q2 (5 + k - 12) else if 5 + k < 35 then q3 (5 + k - 23) else if 5 + k < 41 then q4 (5 + k - 35) else if 5 + k < 49 then q5 (5 + k - 41) else if 5 + k < 53 then q6 (5 + k - 49) else if 5 + k = 53 then a7 else 0) = q1 k
        rw [if_neg (by omega), if_neg (by omega), if_pos (by omega), show 5 + k - 5 = k by omega]
      · exact absurd hk.2 (by decide)
    · unfold sg_X4
      rw [if_neg (by omega)]
  have k12 : q 12 = b2 := by rw [hq]; exact h2a
  have e2 : hk_sg K q sg_X4 12 (dl_X5.map (hk_mp 12 0)) = hk_sg K q2 (fun _ _ => 0) 0 dl_X5 := by
    refine hk_sg_sh (off := 12) (B := 11) (E := false) (fun k hk => ?_) (fun k hk => ?_) dl_X5 0 (by decide +kernel) (Nat.le_of_ble_eq_true rfl) (Nat.le_of_ble_eq_true rfl)
    · rcases hk with hk | hk
      · unfold hk_ph
        rw [if_neg (by omega), hq]
        show (if 12 + k = 0 then h0 else if 12 + k < 5 then q0 (12 + k - 1) else if 12 + k < 12 then q1 (12 + k - 5) else if 12 + k < 23 then q2 (12 + k - 12) else if 12 + k < 35 then q3 (12 + k - 23) else if 12 + k < 41 then q4 (12 + k - 35) else if 12 + k < 49 then q5 (12 + k - 41) else if 12 + k < 53 then q6 (12 + k - 49) else if 12 + k = 53 then a7 else 0) = q2 k
        rw [if_neg (by omega), if_neg (by omega), if_neg (by omega), if_pos (by omega), show 12 + k - 12 = k by omega]
      · exact absurd hk.2 (by decide)
    · unfold sg_X4
      rw [if_neg (by omega)]
  have k23 : q 23 = b3 := by rw [hq]; exact h3a
  have e3 : hk_sg K q sg_X4 23 (dl_X3.map (hk_mp 23 0)) = hk_sg K q3 (fun _ _ => 0) 0 dl_X3 := by
    refine hk_sg_sh (off := 23) (B := 12) (E := false) (fun k hk => ?_) (fun k hk => ?_) dl_X3 0 (by decide +kernel) (Nat.le_of_ble_eq_true rfl) (Nat.le_of_ble_eq_true rfl)
    · rcases hk with hk | hk
      · unfold hk_ph
        rw [if_neg (by omega), hq]
        show (if 23 + k = 0 then h0 else if 23 + k < 5 then q0 (23 + k - 1) else if 23 + k < 12 then q1 (23 + k - 5) else if 23 + k < 23 then q2 (23 + k - 12) else if 23 + k < 35 then q3 (23 + k - 23) else if 23 + k < 41 then q4 (23 + k - 35) else if 23 + k < 49 then q5 (23 + k - 41) else if 23 + k < 53 then q6 (23 + k - 49) else if 23 + k = 53 then a7 else 0) = q3 k
        rw [if_neg (by omega), if_neg (by omega), if_neg (by omega), if_neg (by omega), if_pos (by omega), show 23 + k - 23 = k by omega]
      · exact absurd hk.2 (by decide)
    · unfold sg_X4
      rw [if_neg (by omega)]
  have k35 : q 35 = b4 := by rw [hq]; exact h4a
  have e4 : hk_sg K q sg_X4 35 (dl_X2.map (hk_mp 35 0)) = hk_sg K q4 (fun _ _ => 0) 0 dl_X2 := by
    refine hk_sg_sh (off := 35) (B := 6) (E := false) (fun k hk => ?_) (fun k hk => ?_) dl_X2 0 (by decide +kernel) (Nat.le_of_ble_eq_true rfl) (Nat.le_of_ble_eq_true rfl)
    · rcases hk with hk | hk
      · unfold hk_ph
        rw [if_neg (by omega), hq]
        show (if 35 + k = 0 then h0 else if 35 + k < 5 then q0 (35 + k - 1) else if 35 + k < 12 then q1 (35 + k - 5) else if 35 + k < 23 then q2 (35 + k - 12) else if 35 + k < 35 then q3 (35 + k - 23) else if 35 + k < 41 then q4 (35 + k - 35) else if 35 + k < 49 then q5 (35 + k - 41) else if 35 + k < 53 then q6 (35 + k - 49) else if 35 + k = 53 then a7 else 0) = q4 k
        rw [if_neg (by omega), if_neg (by omega), if_neg (by omega), if_neg (by omega), if_neg (by omega), if_pos (by omega), show 35 + k - 35 = k by omega]
      · exact absurd hk.2 (by decide)
    · unfold sg_X4
      rw [if_neg (by omega)]
  have k41 : q 41 = b5 := by rw [hq]; exact h5a
  have e5 : hk_sg K q sg_X4 41 (dl_X0.map (hk_mp 41 0)) = hk_sg K q5 (fun _ _ => 0) 0 dl_X0 := by
    refine hk_sg_sh (off := 41) (B := 8) (E := false) (fun k hk => ?_) (fun k hk => ?_) dl_X0 0 (by decide +kernel) (Nat.le_of_ble_eq_true rfl) (Nat.le_of_ble_eq_true rfl)
    · rcases hk with hk | hk
      · unfold hk_ph
        rw [if_neg (by omega), hq]
        show (if 41 + k = 0 then h0 else if 41 + k < 5 then q0 (41 + k - 1) else if 41 + k < 12 then q1 (41 + k - 5) else if 41 + k < 23 then q2 (41 + k - 12) else if 41 + k < 35 then q3 (41 + k - 23) else if 41 + k < 41 then q4 (41 + k - 35) else if 41 + k < 49 then q5 (41 + k - 41) else if 41 + k < 53 then q6 (41 + k - 49) else if 41 + k = 53 then a7 else 0) = q5 k
        rw [if_neg (by omega), if_neg (by omega), if_neg (by omega), if_neg (by omega), if_neg (by omega), if_neg (by omega), if_pos (by omega), show 41 + k - 41 = k by omega]
      · exact absurd hk.2 (by decide)
    · unfold sg_X4
      rw [if_neg (by omega)]
  have k49 : q 49 = b6 := by rw [hq]; exact h6a
  have e6 : hk_sg K q sg_X4 49 (dl_X9.map (hk_mp 49 0)) = hk_sg K q6 (fun _ _ => 0) 0 dl_X9 := by
    refine hk_sg_sh (off := 49) (B := 4) (E := false) (fun k hk => ?_) (fun k hk => ?_) dl_X9 0 (by decide +kernel) (Nat.le_of_ble_eq_true rfl) (Nat.le_of_ble_eq_true rfl)
    · rcases hk with hk | hk
      · unfold hk_ph
        rw [if_neg (by omega), hq]
        show (if 49 + k = 0 then h0 else if 49 + k < 5 then q0 (49 + k - 1) else if 49 + k < 12 then q1 (49 + k - 5) else if 49 + k < 23 then q2 (49 + k - 12) else if 49 + k < 35 then q3 (49 + k - 23) else if 49 + k < 41 then q4 (49 + k - 35) else if 49 + k < 49 then q5 (49 + k - 41) else if 49 + k < 53 then q6 (49 + k - 49) else if 49 + k = 53 then a7 else 0) = q6 k
        rw [if_neg (by omega), if_neg (by omega), if_neg (by omega), if_neg (by omega), if_neg (by omega), if_neg (by omega), if_neg (by omega), if_pos (by omega), show 49 + k - 49 = k by omega]
      · exact absurd hk.2 (by decide)
    · unfold sg_X4
      rw [if_neg (by omega)]
  have k53 : q 53 = a7 := by rw [hq]; rfl
  have e7 : hk_sg K q sg_X4 53 [.inl (0, 3)] = [(a7, .inl (K.1 0, 3, .inl (upd (upd (upd (fun _ => 0) (Int32.ofInt 0).toNatClampNeg (Int32.ofInt (120))) (Int32.ofInt 1).toNatClampNeg (Int32.ofInt (8))) (Int32.ofInt 2).toNatClampNeg (Int32.ofInt (30)))))] := by
    refine hk_sg_one k53 ?_
    show Sum.inl (K.1 0, 3, Sum.inl (fun j : Nat => Int32.ofInt (hk_ru (j : Int)))) = _
    rw [hk_u_ru]
  have eB := (hk_sg_cat (hk_sg_cat (hk_sg_cat (hk_sg_cat (hk_sg_cat (hk_sg_cat (hk_sg_cat (hk_sg_cat (a := []) (wa := []) rfl rfl e0) rfl e1) rfl e2) rfl e3) rfl e4) rfl e5) rfl e6) rfl e7)
  have eo : hh_en (q, K) sg_X4 0 (.inr (4, [some 1, some 5, some 12, some 23, some 35, some 41, some 49, some 53, none])) = Sum.inr (4, [Value.ref (q 1), Value.ref (q 5), Value.ref (q 12), Value.ref (q 23), Value.ref (q 35), Value.ref (q 41), Value.ref (q 49), Value.ref (q 53), Value.int (Int32.ofInt (sg_X4 0 8))]) := rfl
  rw [k1, k5, k12, k23, k35, k41, k49, k53] at eo
  show _ = (q 0, hh_en (q, K) sg_X4 0 (.inr (4, [some 1, some 5, some 12, some 23, some 35, some 41, some 49, some 53, none]))) :: hk_sg K q sg_X4 1 _
  rw [eo, k0, eB]
  rfl

