def P_X11_within (d : Nat) (a0 a1 a2 : Int) (σ : hh_S) (Q : Int → hh_S → Prop) : Prop :=
  (a0 < a1 → Q 0 σ) ∧ (¬ a0 < a1 → (a2 < a0 → Q 0 σ) ∧ (¬ a2 < a0 → Q 1 σ))
set_option maxRecDepth 20000 in
theorem w_X11_within {d : Nat} {a0 a1 a2 : Int} {σ : hh_S} {Q : Int → hh_S → Prop} (h : P_X11_within d a0 a1 a2 σ Q) : hh_J (d + 1) hm_X11_within 0 [some (hh_I a0), some (hh_I a1), some (hh_I a2)] [] σ Q := by
  unfold P_X11_within at h
  refine hh_iload_n dX11_within_0 rfl ?_
  refine hh_iload_n dX11_within_1 rfl ?_
  refine hh_icmp_lt (tgt := 14) dX11_within_2 (by decide) (fun c => ?_) (fun c => ?_)
  · replace h := h.1 c
    refine hh_iconst dX11_within_14 (by decide) ?_
    exact hh_zreturn dX11_within_15 rfl (by decide) h
  · replace h := h.2 c
    refine hh_iload_n dX11_within_5 rfl ?_
    refine hh_iload_n dX11_within_6 rfl ?_
    refine hh_icmp_gt (tgt := 14) dX11_within_7 (by decide) (fun c => ?_) (fun c => ?_)
    · replace h := h.1 c
      refine hh_iconst dX11_within_14 (by decide) ?_
      exact hh_zreturn dX11_within_15 rfl (by decide) h
    · replace h := h.2 c
      refine hh_iconst dX11_within_10 (by decide) ?_
      refine hh_goto (tgt := 15) dX11_within_11 (by decide) ?_
      exact hh_zreturn dX11_within_15 rfl (by decide) h
theorem wp_X11_within {d : Nat} (a0 a1 a2 : Int) {σ : hh_S} {Q : Int → hh_S → Prop} (h : hh_cs σ → hh_can a0 → hh_can a1 → hh_can a2 → P_X11_within d a0 a1 a2 σ Q) : hh_Sp (d + 1) hm_X11_within [hh_I a0, hh_I a1, hh_I a2] σ Q :=
  hh_entry rfl (Nat.le_of_ble_eq_true rfl) rfl (fun hs hc => w_X11_within (h hs (hc _ (List.mem_of_getElem? (i := 0) rfl)) (hc _ (List.mem_of_getElem? (i := 1) rfl)) (hc _ (List.mem_of_getElem? (i := 2) rfl))))
def P_X11_person (d : Nat) (a1 a2 : Int) (σ : hh_S) (Q : Int → hh_S → Prop) : Prop :=
  hh_Sp d hm_X11_within [hh_I a1, hh_I 0, hh_I 3] σ (fun r3 σ3 => (r3 = 0 → Q (-1000000001) σ3) ∧ (¬ r3 = 0 → hh_Sp d hm_X11_within [hh_I a2, hh_I 1, hh_I 999] σ3 (fun r14 σ14 => (¬ r14 = 0 → (σ14 2 0 < 8 → ((0 ≤ σ14 2 0 ∧ σ14 2 0 < 8) ∧ (-2147483648 ≤ σ14 2 0 + 1 ∧ σ14 2 0 + 1 ≤ 2147483647)) ∧ (Q (σ14 2 0) (hh_up (hh_up (hh_up (hh_up σ14 3 (σ14 2 0) a1) 4 (σ14 2 0) a2) 5 (σ14 2 0) 0) 2 0 (σ14 2 0 + 1)))) ∧ (¬ σ14 2 0 < 8 → Q (-1000000003) σ14)) ∧ (r14 = 0 → Q (-1000000001) σ14))))
set_option maxRecDepth 20000 in
theorem w_X11_person {d : Nat} {a1 a2 : Int} {σ : hh_S} {Q : Int → hh_S → Prop} (h : P_X11_person d a1 a2 σ Q) : hh_J (d + 1) hm_X11_person 0 [some (hh_R 0), some (hh_I a1), some (hh_I a2), none, none] [] σ Q := by
  unfold P_X11_person at h
  refine hh_iload_n dX11_person_0 rfl ?_
  refine hh_iconst dX11_person_1 (by decide) ?_
  refine hh_iconst dX11_person_2 (by decide) ?_
  refine hh_cS3 dX11_person_3 lk_X11_70 mo_X11_within (Nat.le_of_ble_eq_true rfl) h (fun r3 σ3 h => ?_)
  refine hh_if_eq (tgt := 20) dX11_person_6 (by decide) (fun c => ?_) (fun c => ?_)
  · replace h := h.1 c
    refine hh_ldc (n := -1000000001) dX11_person_20 kc_X11_74 (by decide) ?_
    exact hh_ireturn dX11_person_22 rfl h
  · replace h := h.2 c
    refine hh_iload_n dX11_person_9 rfl ?_
    refine hh_iconst dX11_person_10 (by decide) ?_
    refine hh_sipush dX11_person_11 (by decide) ?_
    refine hh_cS3 dX11_person_14 lk_X11_70 mo_X11_within (Nat.le_of_ble_eq_true rfl) h (fun r14 σ14 h => ?_)
    refine hh_if_ne (tgt := 23) dX11_person_17 (by decide) (fun c => ?_) (fun c => ?_)
    · replace h := h.1 c
      refine hh_aload_n dX11_person_23 rfl ?_
      refine hh_getR dX11_person_24 kf_X11_10 rf_0_0 ?_
      refine hh_getR dX11_person_27 kf_X11_75 rf_1_0 ?_
      refine hh_astore_n dX11_person_30 (by decide) rfl ?_
      refine hh_aload_n dX11_person_31 rfl ?_
      refine hh_getI dX11_person_32 kf_X11_79 rf_2_0 rfl ?_
      refine hh_bipush dX11_person_35 (by decide) ?_
      refine hh_icmp_lt (tgt := 43) dX11_person_37 (by decide) (fun c => ?_) (fun c => ?_)
      · replace h := h.1 c
        obtain ⟨⟨q1, q2⟩, h⟩ := h
        refine hh_aload_n dX11_person_43 rfl ?_
        refine hh_getI dX11_person_44 kf_X11_79 rf_2_0 rfl ?_
        refine hh_istore dX11_person_47 (by decide) rfl ?_
        refine hh_aload_n dX11_person_49 rfl ?_
        refine hh_getR dX11_person_50 kf_X11_85 rf_2_1 ?_
        refine hh_iload dX11_person_53 rfl ?_
        refine hh_iload_n dX11_person_55 rfl ?_
        refine hh_iast dX11_person_56 ra_3 q1 ?_
        refine hh_aload_n dX11_person_57 rfl ?_
        refine hh_getR dX11_person_58 kf_X11_88 rf_2_2 ?_
        refine hh_iload dX11_person_61 rfl ?_
        refine hh_iload_n dX11_person_63 rfl ?_
        refine hh_iast dX11_person_64 ra_4 q1 ?_
        refine hh_aload_n dX11_person_65 rfl ?_
        refine hh_getR dX11_person_66 kf_X11_91 rf_2_3 ?_
        refine hh_iload dX11_person_69 rfl ?_
        refine hh_iconst dX11_person_71 (by decide) ?_
        refine hh_iast dX11_person_72 ra_5 q1 ?_
        refine hh_aload_n dX11_person_73 rfl ?_
        refine hh_iload dX11_person_74 rfl ?_
        refine hh_iconst dX11_person_76 (by decide) ?_
        refine hh_iadd dX11_person_77 q2 ?_
        refine hh_putI dX11_person_78 kp_X11_79 rf_2_0 ?_
        refine hh_iload dX11_person_81 rfl ?_
        exact hh_ireturn dX11_person_83 rfl h
      · replace h := h.2 c
        refine hh_ldc (n := -1000000003) dX11_person_40 kc_X11_84 (by decide) ?_
        exact hh_ireturn dX11_person_42 rfl h
    · replace h := h.2 c
      refine hh_ldc (n := -1000000001) dX11_person_20 kc_X11_74 (by decide) ?_
      exact hh_ireturn dX11_person_22 rfl h
theorem wp_X11_person {d : Nat} (a1 a2 : Int) {σ : hh_S} {Q : Int → hh_S → Prop} (h : hh_cs σ → hh_can a1 → hh_can a2 → P_X11_person d a1 a2 σ Q) : hh_Sp (d + 1) hm_X11_person [hh_R 0, hh_I a1, hh_I a2] σ Q :=
  hh_entry rfl (Nat.le_of_ble_eq_true rfl) rfl (fun hs hc => w_X11_person (h hs (hc _ (List.mem_of_getElem? (i := 1) rfl)) (hc _ (List.mem_of_getElem? (i := 2) rfl))))
def P_X11_is (d : Nat) (a1 a2 : Int) (σ : hh_S) (Q : Int → hh_S → Prop) : Prop :=
  hh_Sp d hm_X6_has [hh_R 2, hh_I a1] σ (fun r8 σ8 => (r8 = 0 → Q (-1000000001) σ8) ∧ (¬ r8 = 0 → hh_Sp d hm_X11_within [hh_I a2, hh_I 0, hh_I 3] σ8 (fun r17 σ17 => (¬ r17 = 0 → hh_Sp d hm_X6_isUnder [hh_R 2, hh_I a1, hh_I a2] σ17 (fun r35 σ35 => (r35 = 0 → Q 0 σ35) ∧ (¬ r35 = 0 → Q 1 σ35))) ∧ (r17 = 0 → Q (-1000000001) σ17))))
set_option maxRecDepth 20000 in
theorem w_X11_is {d : Nat} {a1 a2 : Int} {σ : hh_S} {Q : Int → hh_S → Prop} (h : P_X11_is d a1 a2 σ Q) : hh_J (d + 1) hm_X11_is 0 [some (hh_R 0), some (hh_I a1), some (hh_I a2)] [] σ Q := by
  unfold P_X11_is at h
  refine hh_aload_n dX11_is_0 rfl ?_
  refine hh_getR dX11_is_1 kf_X11_10 rf_0_0 ?_
  refine hh_getR dX11_is_4 kf_X11_75 rf_1_0 ?_
  refine hh_iload_n dX11_is_7 rfl ?_
  refine hh_cV1 dX11_is_8 lk_X11_94 mo_X6_has rc_2 (Nat.le_of_ble_eq_true rfl) h (fun r8 σ8 h => ?_)
  refine hh_if_eq (tgt := 23) dX11_is_11 (by decide) (fun c => ?_) (fun c => ?_)
  · replace h := h.1 c
    refine hh_ldc (n := -1000000001) dX11_is_23 kc_X11_74 (by decide) ?_
    exact hh_ireturn dX11_is_25 rfl h
  · replace h := h.2 c
    refine hh_iload_n dX11_is_14 rfl ?_
    refine hh_iconst dX11_is_15 (by decide) ?_
    refine hh_iconst dX11_is_16 (by decide) ?_
    refine hh_cS3 dX11_is_17 lk_X11_70 mo_X11_within (Nat.le_of_ble_eq_true rfl) h (fun r17 σ17 h => ?_)
    refine hh_if_ne (tgt := 26) dX11_is_20 (by decide) (fun c => ?_) (fun c => ?_)
    · replace h := h.1 c
      refine hh_aload_n dX11_is_26 rfl ?_
      refine hh_getR dX11_is_27 kf_X11_10 rf_0_0 ?_
      refine hh_getR dX11_is_30 kf_X11_75 rf_1_0 ?_
      refine hh_iload_n dX11_is_33 rfl ?_
      refine hh_iload_n dX11_is_34 rfl ?_
      refine hh_cV2 dX11_is_35 lk_X11_98 mo_X6_isUnder rc_2 (Nat.le_of_ble_eq_true rfl) h (fun r35 σ35 h => ?_)
      refine hh_if_eq (tgt := 45) dX11_is_38 (by decide) (fun c => ?_) (fun c => ?_)
      · replace h := h.1 c
        refine hh_iconst dX11_is_45 (by decide) ?_
        exact hh_ireturn dX11_is_46 rfl h
      · replace h := h.2 c
        refine hh_iconst dX11_is_41 (by decide) ?_
        refine hh_goto (tgt := 46) dX11_is_42 (by decide) ?_
        exact hh_ireturn dX11_is_46 rfl h
    · replace h := h.2 c
      refine hh_ldc (n := -1000000001) dX11_is_23 kc_X11_74 (by decide) ?_
      exact hh_ireturn dX11_is_25 rfl h
theorem wp_X11_is {d : Nat} (a1 a2 : Int) {σ : hh_S} {Q : Int → hh_S → Prop} (h : hh_cs σ → hh_can a1 → hh_can a2 → P_X11_is d a1 a2 σ Q) : hh_Sp (d + 1) hm_X11_is [hh_R 0, hh_I a1, hh_I a2] σ Q :=
  hh_entry rfl (Nat.le_of_ble_eq_true rfl) rfl (fun hs hc => w_X11_is (h hs (hc _ (List.mem_of_getElem? (i := 1) rfl)) (hc _ (List.mem_of_getElem? (i := 2) rfl))))
def P_X11_client (d : Nat) (σ : hh_S) (Q : Int → hh_S → Prop) : Prop :=
  (σ 6 0 < 5 → ((0 ≤ σ 6 0 ∧ σ 6 0 < 5) ∧ (-2147483648 ≤ σ 6 0 + 1 ∧ σ 6 0 + 1 ≤ 2147483647)) ∧ (Q (σ 6 0) (hh_up (hh_up (hh_up σ 7 (σ 6 0) 0) 8 (σ 6 0) 0) 6 0 (σ 6 0 + 1)))) ∧ (¬ σ 6 0 < 5 → Q (-1000000003) σ)
set_option maxRecDepth 20000 in
theorem w_X11_client {d : Nat} {σ : hh_S} {Q : Int → hh_S → Prop} (h : P_X11_client d σ Q) : hh_J (d + 1) hm_X11_client 0 [some (hh_R 0), none, none] [] σ Q := by
  unfold P_X11_client at h
  refine hh_aload_n dX11_client_0 rfl ?_
  refine hh_getR dX11_client_1 kf_X11_10 rf_0_0 ?_
  refine hh_getR dX11_client_4 kf_X11_102 rf_1_1 ?_
  refine hh_astore_n dX11_client_7 (by decide) rfl ?_
  refine hh_aload_n dX11_client_8 rfl ?_
  refine hh_getI dX11_client_9 kf_X11_106 rf_6_0 rfl ?_
  refine hh_iconst dX11_client_12 (by decide) ?_
  refine hh_icmp_lt (tgt := 19) dX11_client_13 (by decide) (fun c => ?_) (fun c => ?_)
  · replace h := h.1 c
    obtain ⟨⟨q1, q2⟩, h⟩ := h
    refine hh_aload_n dX11_client_19 rfl ?_
    refine hh_getI dX11_client_20 kf_X11_106 rf_6_0 rfl ?_
    refine hh_istore_n dX11_client_23 (by decide) rfl ?_
    refine hh_aload_n dX11_client_24 rfl ?_
    refine hh_getR dX11_client_25 kf_X11_109 rf_6_1 ?_
    refine hh_iload_n dX11_client_28 rfl ?_
    refine hh_iconst dX11_client_29 (by decide) ?_
    refine hh_iast dX11_client_30 ra_7 q1 ?_
    refine hh_aload_n dX11_client_31 rfl ?_
    refine hh_getR dX11_client_32 kf_X11_112 rf_6_2 ?_
    refine hh_iload_n dX11_client_35 rfl ?_
    refine hh_iconst dX11_client_36 (by decide) ?_
    refine hh_iast dX11_client_37 ra_8 q1 ?_
    refine hh_aload_n dX11_client_38 rfl ?_
    refine hh_iload_n dX11_client_39 rfl ?_
    refine hh_iconst dX11_client_40 (by decide) ?_
    refine hh_iadd dX11_client_41 q2 ?_
    refine hh_putI dX11_client_42 kp_X11_106 rf_6_0 ?_
    refine hh_iload_n dX11_client_45 rfl ?_
    exact hh_ireturn dX11_client_46 rfl h
  · replace h := h.2 c
    refine hh_ldc (n := -1000000003) dX11_client_16 kc_X11_84 (by decide) ?_
    exact hh_ireturn dX11_client_18 rfl h
theorem wp_X11_client {d : Nat} {σ : hh_S} {Q : Int → hh_S → Prop} (h : hh_cs σ → P_X11_client d σ Q) : hh_Sp (d + 1) hm_X11_client [hh_R 0] σ Q :=
  hh_entry rfl (Nat.le_of_ble_eq_true rfl) rfl (fun hs hc => w_X11_client (h hs))
def P_X11_matter (d : Nat) (a1 a2 a3 : Int) (σ : hh_S) (Q : Int → hh_S → Prop) : Prop :=
  hh_Sp d hm_X11_within [hh_I a1, hh_I 0, hh_I 3] σ (fun r3 σ3 => (r3 = 0 → Q (-1000000001) σ3) ∧ (¬ r3 = 0 → hh_Sp d hm_X1_has [hh_R 6, hh_I a2] σ3 (fun r17 σ17 => (r17 = 0 → Q (-1000000001) σ17) ∧ (¬ r17 = 0 → hh_Sp d hm_X11_within [hh_I a3, hh_I 0, hh_I 99999] σ17 (fun r27 σ27 => (¬ r27 = 0 → (σ27 13 0 < 10 → hh_Sp d hm_X5_begin [hh_R 13, hh_I a1, hh_I a2, hh_I a3] σ27 (fun r64 σ64 => Q r64 σ64)) ∧ (¬ σ27 13 0 < 10 → Q (-1000000003) σ27)) ∧ (r27 = 0 → Q (-1000000001) σ27))))))
set_option maxRecDepth 20000 in
theorem w_X11_matter {d : Nat} {a1 a2 a3 : Int} {σ : hh_S} {Q : Int → hh_S → Prop} (h : P_X11_matter d a1 a2 a3 σ Q) : hh_J (d + 1) hm_X11_matter 0 [some (hh_R 0), some (hh_I a1), some (hh_I a2), some (hh_I a3)] [] σ Q := by
  unfold P_X11_matter at h
  refine hh_iload_n dX11_matter_0 rfl ?_
  refine hh_iconst dX11_matter_1 (by decide) ?_
  refine hh_iconst dX11_matter_2 (by decide) ?_
  refine hh_cS3 dX11_matter_3 lk_X11_70 mo_X11_within (Nat.le_of_ble_eq_true rfl) h (fun r3 σ3 h => ?_)
  refine hh_if_eq (tgt := 33) dX11_matter_6 (by decide) (fun c => ?_) (fun c => ?_)
  · replace h := h.1 c
    refine hh_ldc (n := -1000000001) dX11_matter_33 kc_X11_74 (by decide) ?_
    exact hh_ireturn dX11_matter_35 rfl h
  · replace h := h.2 c
    refine hh_aload_n dX11_matter_9 rfl ?_
    refine hh_getR dX11_matter_10 kf_X11_10 rf_0_0 ?_
    refine hh_getR dX11_matter_13 kf_X11_102 rf_1_1 ?_
    refine hh_iload_n dX11_matter_16 rfl ?_
    refine hh_cV1 dX11_matter_17 lk_X11_115 mo_X1_has rc_6 (Nat.le_of_ble_eq_true rfl) h (fun r17 σ17 h => ?_)
    refine hh_if_eq (tgt := 33) dX11_matter_20 (by decide) (fun c => ?_) (fun c => ?_)
    · replace h := h.1 c
      refine hh_ldc (n := -1000000001) dX11_matter_33 kc_X11_74 (by decide) ?_
      exact hh_ireturn dX11_matter_35 rfl h
    · replace h := h.2 c
      refine hh_iload_n dX11_matter_23 rfl ?_
      refine hh_iconst dX11_matter_24 (by decide) ?_
      refine hh_ldc (n := 99999) dX11_matter_25 kc_X11_116 (by decide) ?_
      refine hh_cS3 dX11_matter_27 lk_X11_70 mo_X11_within (Nat.le_of_ble_eq_true rfl) h (fun r27 σ27 h => ?_)
      refine hh_if_ne (tgt := 36) dX11_matter_30 (by decide) (fun c => ?_) (fun c => ?_)
      · replace h := h.1 c
        refine hh_aload_n dX11_matter_36 rfl ?_
        refine hh_getR dX11_matter_37 kf_X11_10 rf_0_0 ?_
        refine hh_getR dX11_matter_40 kf_X11_117 rf_1_2 ?_
        refine hh_getI dX11_matter_43 kf_X11_121 rf_13_0 rfl ?_
        refine hh_bipush dX11_matter_46 (by decide) ?_
        refine hh_icmp_lt (tgt := 54) dX11_matter_48 (by decide) (fun c => ?_) (fun c => ?_)
        · replace h := h.1 c
          refine hh_aload_n dX11_matter_54 rfl ?_
          refine hh_getR dX11_matter_55 kf_X11_10 rf_0_0 ?_
          refine hh_getR dX11_matter_58 kf_X11_117 rf_1_2 ?_
          refine hh_iload_n dX11_matter_61 rfl ?_
          refine hh_iload_n dX11_matter_62 rfl ?_
          refine hh_iload_n dX11_matter_63 rfl ?_
          refine hh_cV3 dX11_matter_64 lk_X11_124 mo_X5_begin rc_13 (Nat.le_of_ble_eq_true rfl) h (fun r64 σ64 h => ?_)
          exact hh_ireturn dX11_matter_67 rfl h
        · replace h := h.2 c
          refine hh_ldc (n := -1000000003) dX11_matter_51 kc_X11_84 (by decide) ?_
          exact hh_ireturn dX11_matter_53 rfl h
      · replace h := h.2 c
        refine hh_ldc (n := -1000000001) dX11_matter_33 kc_X11_74 (by decide) ?_
        exact hh_ireturn dX11_matter_35 rfl h
theorem wp_X11_matter {d : Nat} (a1 a2 a3 : Int) {σ : hh_S} {Q : Int → hh_S → Prop} (h : hh_cs σ → hh_can a1 → hh_can a2 → hh_can a3 → P_X11_matter d a1 a2 a3 σ Q) : hh_Sp (d + 1) hm_X11_matter [hh_R 0, hh_I a1, hh_I a2, hh_I a3] σ Q :=
  hh_entry rfl (Nat.le_of_ble_eq_true rfl) rfl (fun hs hc => w_X11_matter (h hs (hc _ (List.mem_of_getElem? (i := 1) rfl)) (hc _ (List.mem_of_getElem? (i := 2) rfl)) (hc _ (List.mem_of_getElem? (i := 3) rfl))))
def P_X11_isOf (d : Nat) (a1 a2 : Int) (σ : hh_S) (Q : Int → hh_S → Prop) : Prop :=
  hh_Sp d hm_X5_has [hh_R 13, hh_I a1] σ (fun r8 σ8 => (r8 = 0 → Q (-1000000001) σ8) ∧ (¬ r8 = 0 → hh_Sp d hm_X11_within [hh_I a2, hh_I 0, hh_I 3] σ8 (fun r17 σ17 => (¬ r17 = 0 → hh_Sp d hm_X5_isUnder [hh_R 13, hh_I a1, hh_I a2] σ17 (fun r35 σ35 => (r35 = 0 → Q 0 σ35) ∧ (¬ r35 = 0 → Q 1 σ35))) ∧ (r17 = 0 → Q (-1000000001) σ17))))
set_option maxRecDepth 20000 in
theorem w_X11_isOf {d : Nat} {a1 a2 : Int} {σ : hh_S} {Q : Int → hh_S → Prop} (h : P_X11_isOf d a1 a2 σ Q) : hh_J (d + 1) hm_X11_isOf 0 [some (hh_R 0), some (hh_I a1), some (hh_I a2)] [] σ Q := by
  unfold P_X11_isOf at h
  refine hh_aload_n dX11_isOf_0 rfl ?_
  refine hh_getR dX11_isOf_1 kf_X11_10 rf_0_0 ?_
  refine hh_getR dX11_isOf_4 kf_X11_117 rf_1_2 ?_
  refine hh_iload_n dX11_isOf_7 rfl ?_
  refine hh_cV1 dX11_isOf_8 lk_X11_128 mo_X5_has rc_13 (Nat.le_of_ble_eq_true rfl) h (fun r8 σ8 h => ?_)
  refine hh_if_eq (tgt := 23) dX11_isOf_11 (by decide) (fun c => ?_) (fun c => ?_)
  · replace h := h.1 c
    refine hh_ldc (n := -1000000001) dX11_isOf_23 kc_X11_74 (by decide) ?_
    exact hh_ireturn dX11_isOf_25 rfl h
  · replace h := h.2 c
    refine hh_iload_n dX11_isOf_14 rfl ?_
    refine hh_iconst dX11_isOf_15 (by decide) ?_
    refine hh_iconst dX11_isOf_16 (by decide) ?_
    refine hh_cS3 dX11_isOf_17 lk_X11_70 mo_X11_within (Nat.le_of_ble_eq_true rfl) h (fun r17 σ17 h => ?_)
    refine hh_if_ne (tgt := 26) dX11_isOf_20 (by decide) (fun c => ?_) (fun c => ?_)
    · replace h := h.1 c
      refine hh_aload_n dX11_isOf_26 rfl ?_
      refine hh_getR dX11_isOf_27 kf_X11_10 rf_0_0 ?_
      refine hh_getR dX11_isOf_30 kf_X11_117 rf_1_2 ?_
      refine hh_iload_n dX11_isOf_33 rfl ?_
      refine hh_iload_n dX11_isOf_34 rfl ?_
      refine hh_cV2 dX11_isOf_35 lk_X11_129 mo_X5_isUnder rc_13 (Nat.le_of_ble_eq_true rfl) h (fun r35 σ35 h => ?_)
      refine hh_if_eq (tgt := 45) dX11_isOf_38 (by decide) (fun c => ?_) (fun c => ?_)
      · replace h := h.1 c
        refine hh_iconst dX11_isOf_45 (by decide) ?_
        exact hh_ireturn dX11_isOf_46 rfl h
      · replace h := h.2 c
        refine hh_iconst dX11_isOf_41 (by decide) ?_
        refine hh_goto (tgt := 46) dX11_isOf_42 (by decide) ?_
        exact hh_ireturn dX11_isOf_46 rfl h
    · replace h := h.2 c
      refine hh_ldc (n := -1000000001) dX11_isOf_23 kc_X11_74 (by decide) ?_
      exact hh_ireturn dX11_isOf_25 rfl h
theorem wp_X11_isOf {d : Nat} (a1 a2 : Int) {σ : hh_S} {Q : Int → hh_S → Prop} (h : hh_cs σ → hh_can a1 → hh_can a2 → P_X11_isOf d a1 a2 σ Q) : hh_Sp (d + 1) hm_X11_isOf [hh_R 0, hh_I a1, hh_I a2] σ Q :=
  hh_entry rfl (Nat.le_of_ble_eq_true rfl) rfl (fun hs hc => w_X11_isOf (h hs (hc _ (List.mem_of_getElem? (i := 1) rfl)) (hc _ (List.mem_of_getElem? (i := 2) rfl))))
def P_X11_isPayer (d : Nat) (a1 : Int) (σ : hh_S) (Q : Int → hh_S → Prop) : Prop :=
  (a1 < 0 → Q 0 σ) ∧ (¬ a1 < 0 → (0 ≤ a1) ∧ (hh_Sp d hm_X1_has [hh_R 6, hh_I (a1 / 100)] σ (fun r15 σ15 => (r15 = 0 → Q 0 σ15) ∧ (¬ r15 = 0 → (0 ≤ a1) ∧ ((a1 % 100 < 1 → Q 0 σ15) ∧ (¬ a1 % 100 < 1 → Q 1 σ15))))))
set_option maxRecDepth 20000 in
theorem w_X11_isPayer {d : Nat} {a1 : Int} {σ : hh_S} {Q : Int → hh_S → Prop} (h : P_X11_isPayer d a1 σ Q) : hh_J (d + 1) hm_X11_isPayer 0 [some (hh_R 0), some (hh_I a1)] [] σ Q := by
  unfold P_X11_isPayer at h
  refine hh_iload_n dX11_isPayer_0 rfl ?_
  refine hh_if_lt (tgt := 33) dX11_isPayer_1 (by decide) (fun c => ?_) (fun c => ?_)
  · replace h := h.1 c
    refine hh_iconst dX11_isPayer_33 (by decide) ?_
    exact hh_zreturn dX11_isPayer_34 rfl (by decide) h
  · replace h := h.2 c
    obtain ⟨q1, h⟩ := h
    refine hh_aload_n dX11_isPayer_4 rfl ?_
    refine hh_getR dX11_isPayer_5 kf_X11_10 rf_0_0 ?_
    refine hh_getR dX11_isPayer_8 kf_X11_102 rf_1_1 ?_
    refine hh_iload_n dX11_isPayer_11 rfl ?_
    refine hh_bipush dX11_isPayer_12 (by decide) ?_
    refine hh_idiv dX11_isPayer_14 q1 (by decide) ?_
    refine hh_cV1 dX11_isPayer_15 lk_X11_115 mo_X1_has rc_6 (Nat.le_of_ble_eq_true rfl) h (fun r15 σ15 h => ?_)
    refine hh_if_eq (tgt := 33) dX11_isPayer_18 (by decide) (fun c => ?_) (fun c => ?_)
    · replace h := h.1 c
      refine hh_iconst dX11_isPayer_33 (by decide) ?_
      exact hh_zreturn dX11_isPayer_34 rfl (by decide) h
    · replace h := h.2 c
      obtain ⟨q1, h⟩ := h
      refine hh_iload_n dX11_isPayer_21 rfl ?_
      refine hh_bipush dX11_isPayer_22 (by decide) ?_
      refine hh_irem dX11_isPayer_24 q1 (by decide) ?_
      refine hh_iconst dX11_isPayer_25 (by decide) ?_
      refine hh_icmp_lt (tgt := 33) dX11_isPayer_26 (by decide) (fun c => ?_) (fun c => ?_)
      · replace h := h.1 c
        refine hh_iconst dX11_isPayer_33 (by decide) ?_
        exact hh_zreturn dX11_isPayer_34 rfl (by decide) h
      · replace h := h.2 c
        refine hh_iconst dX11_isPayer_29 (by decide) ?_
        refine hh_goto (tgt := 34) dX11_isPayer_30 (by decide) ?_
        exact hh_zreturn dX11_isPayer_34 rfl (by decide) h
theorem wp_X11_isPayer {d : Nat} (a1 : Int) {σ : hh_S} {Q : Int → hh_S → Prop} (h : hh_cs σ → hh_can a1 → P_X11_isPayer d a1 σ Q) : hh_Sp (d + 1) hm_X11_isPayer [hh_R 0, hh_I a1] σ Q :=
  hh_entry rfl (Nat.le_of_ble_eq_true rfl) rfl (fun hs hc => w_X11_isPayer (h hs (hc _ (List.mem_of_getElem? (i := 1) rfl))))
def B_X11_payers_180 (d : Nat) (Q : Int → hh_S → Prop) (x1 x5 : Int) (σ : hh_S) : Prop :=
  ((0 ≤ x1 ∧ x1 < 10)) ∧ (Q x5 (hh_up σ 17 x1 x5))
def B_X11_payers_160 (d : Nat) (Q : Int → hh_S → Prop) (x1 x4 x5 : Int) (σ : hh_S) : Prop :=
  (x5 ≤ 2 → B_X11_payers_180 d Q x1 x5 σ) ∧ (¬ x5 ≤ 2 → hh_Sp d hm_X5_putPayer [hh_R 13, hh_I x1, hh_I 2, hh_I x4] σ (fun _ σ177 => B_X11_payers_180 d Q x1 x5 σ177))
def B_X11_payers_111 (d : Nat) (Q : Int → hh_S → Prop) (x1 x2 x3 x4 x5 : Int) (σ : hh_S) : Prop :=
  hh_Sp d hm_X0_isAnyOf [hh_R 42, hh_I x1] σ (fun r119 σ119 => (r119 = 0 → hh_Sp d hm_X5_putPayer [hh_R 13, hh_I x1, hh_I 0, hh_I x2] σ119 (fun _ σ138 => (x5 ≤ 1 → B_X11_payers_160 d Q x1 x4 x5 σ138) ∧ (¬ x5 ≤ 1 → hh_Sp d hm_X5_putPayer [hh_R 13, hh_I x1, hh_I 1, hh_I x3] σ138 (fun _ σ157 => B_X11_payers_160 d Q x1 x4 x5 σ157)))) ∧ (¬ r119 = 0 → Q (-1000000002) σ119))
def B_X11_payers_59 (d : Nat) (Q : Int → hh_S → Prop) (x1 x2 x3 x4 x5 : Int) (σ : hh_S) : Prop :=
  (x4 = (-1000000005) → B_X11_payers_111 d Q x1 x2 x3 x4 x5 σ) ∧ (¬ x4 = (-1000000005) → (x3 = (-1000000005) → Q (-1000000001) σ) ∧ (¬ x3 = (-1000000005) → hh_Sp d hm_X11_isPayer [hh_R 0, hh_I x4] σ (fun r75 σ75 => (r75 = 0 → Q (-1000000001) σ75) ∧ (¬ r75 = 0 → (0 ≤ x4 ∧ 0 ≤ x2) ∧ ((x4 / 100 = x2 / 100 → Q (-1000000001) σ75) ∧ (¬ x4 / 100 = x2 / 100 → (0 ≤ x4 ∧ 0 ≤ x3) ∧ ((¬ x4 / 100 = x3 / 100 → B_X11_payers_111 d Q x1 x2 x3 x4 3 σ75) ∧ (x4 / 100 = x3 / 100 → Q (-1000000001) σ75))))))))
def P_X11_payers (d : Nat) (a1 a2 a3 a4 : Int) (σ : hh_S) (Q : Int → hh_S → Prop) : Prop :=
  hh_Sp d hm_X5_has [hh_R 13, hh_I a1] σ (fun r8 σ8 => (r8 = 0 → Q (-1000000001) σ8) ∧ (¬ r8 = 0 → hh_Sp d hm_X11_isPayer [hh_R 0, hh_I a2] σ8 (fun r16 σ16 => (¬ r16 = 0 → (a3 = (-1000000005) → B_X11_payers_59 d Q a1 a2 a3 a4 1 σ16) ∧ (¬ a3 = (-1000000005) → hh_Sp d hm_X11_isPayer [hh_R 0, hh_I a3] σ16 (fun r36 σ36 => (r36 = 0 → Q (-1000000001) σ36) ∧ (¬ r36 = 0 → (0 ≤ a3 ∧ 0 ≤ a2) ∧ ((¬ a3 / 100 = a2 / 100 → B_X11_payers_59 d Q a1 a2 a3 a4 2 σ36) ∧ (a3 / 100 = a2 / 100 → Q (-1000000001) σ36)))))) ∧ (r16 = 0 → Q (-1000000001) σ16))))
set_option maxRecDepth 20000 in
theorem w_X11_payers_180 {d : Nat} {Q : Int → hh_S → Prop} (x1 x5 : Int) (σ : hh_S) (h : B_X11_payers_180 d Q x1 x5 σ) : hh_J (d + 1) hm_X11_payers 180 [some (hh_R 0), some (hh_I x1), none, none, none, some (hh_I x5)] [] σ Q := by
  unfold B_X11_payers_180 at h
  obtain ⟨q1, h⟩ := h
  refine hh_aload_n dX11_payers_180 rfl ?_
  refine hh_getR dX11_payers_181 kf_X11_10 rf_0_0 ?_
  refine hh_getR dX11_payers_184 kf_X11_117 rf_1_2 ?_
  refine hh_getR dX11_payers_187 kf_X11_148 rf_13_4 ?_
  refine hh_iload_n dX11_payers_190 rfl ?_
  refine hh_iload dX11_payers_191 rfl ?_
  refine hh_iast dX11_payers_193 ra_17 q1 ?_
  refine hh_iload dX11_payers_194 rfl ?_
  exact hh_ireturn dX11_payers_196 rfl h
set_option maxRecDepth 20000 in
theorem w_X11_payers_160 {d : Nat} {Q : Int → hh_S → Prop} (x1 x4 x5 : Int) (σ : hh_S) (h : B_X11_payers_160 d Q x1 x4 x5 σ) : hh_J (d + 1) hm_X11_payers 160 [some (hh_R 0), some (hh_I x1), none, none, some (hh_I x4), some (hh_I x5)] [] σ Q := by
  unfold B_X11_payers_160 at h
  refine hh_iload dX11_payers_160 rfl ?_
  refine hh_iconst dX11_payers_162 (by decide) ?_
  refine hh_icmp_le (tgt := 180) dX11_payers_163 (by decide) (fun c => ?_) (fun c => ?_)
  · replace h := h.1 c
    exact hh_forget [true, true, false, false, false, true] (w_X11_payers_180 _ _ _ h)
  · replace h := h.2 c
    refine hh_aload_n dX11_payers_166 rfl ?_
    refine hh_getR dX11_payers_167 kf_X11_10 rf_0_0 ?_
    refine hh_getR dX11_payers_170 kf_X11_117 rf_1_2 ?_
    refine hh_iload_n dX11_payers_173 rfl ?_
    refine hh_iconst dX11_payers_174 (by decide) ?_
    refine hh_iload dX11_payers_175 rfl ?_
    refine hh_cV3 dX11_payers_177 lk_X11_144 mo_X5_putPayer rc_13 (Nat.le_of_ble_eq_true rfl) h (fun _ σ177 h => ?_)
    exact hh_forget [true, true, false, false, false, true] (w_X11_payers_180 _ _ _ h)
set_option maxRecDepth 20000 in
theorem w_X11_payers_111 {d : Nat} {Q : Int → hh_S → Prop} (x1 x2 x3 x4 x5 : Int) (σ : hh_S) (h : B_X11_payers_111 d Q x1 x2 x3 x4 x5 σ) : hh_J (d + 1) hm_X11_payers 111 [some (hh_R 0), some (hh_I x1), some (hh_I x2), some (hh_I x3), some (hh_I x4), some (hh_I x5)] [] σ Q := by
  unfold B_X11_payers_111 at h
  refine hh_aload_n dX11_payers_111 rfl ?_
  refine hh_getR dX11_payers_112 kf_X11_10 rf_0_0 ?_
  refine hh_getR dX11_payers_115 kf_X11_134 rf_1_5 ?_
  refine hh_iload_n dX11_payers_118 rfl ?_
  refine hh_cV1 dX11_payers_119 lk_X11_138 mo_X0_isAnyOf rc_42 (Nat.le_of_ble_eq_true rfl) h (fun r119 σ119 h => ?_)
  refine hh_if_eq (tgt := 128) dX11_payers_122 (by decide) (fun c => ?_) (fun c => ?_)
  · replace h := h.1 c
    refine hh_aload_n dX11_payers_128 rfl ?_
    refine hh_getR dX11_payers_129 kf_X11_10 rf_0_0 ?_
    refine hh_getR dX11_payers_132 kf_X11_117 rf_1_2 ?_
    refine hh_iload_n dX11_payers_135 rfl ?_
    refine hh_iconst dX11_payers_136 (by decide) ?_
    refine hh_iload_n dX11_payers_137 rfl ?_
    refine hh_cV3 dX11_payers_138 lk_X11_144 mo_X5_putPayer rc_13 (Nat.le_of_ble_eq_true rfl) h (fun _ σ138 h => ?_)
    refine hh_iload dX11_payers_141 rfl ?_
    refine hh_iconst dX11_payers_143 (by decide) ?_
    refine hh_icmp_le (tgt := 160) dX11_payers_144 (by decide) (fun c => ?_) (fun c => ?_)
    · replace h := h.1 c
      exact hh_forget [true, true, false, false, true, true] (w_X11_payers_160 _ _ _ _ h)
    · replace h := h.2 c
      refine hh_aload_n dX11_payers_147 rfl ?_
      refine hh_getR dX11_payers_148 kf_X11_10 rf_0_0 ?_
      refine hh_getR dX11_payers_151 kf_X11_117 rf_1_2 ?_
      refine hh_iload_n dX11_payers_154 rfl ?_
      refine hh_iconst dX11_payers_155 (by decide) ?_
      refine hh_iload_n dX11_payers_156 rfl ?_
      refine hh_cV3 dX11_payers_157 lk_X11_144 mo_X5_putPayer rc_13 (Nat.le_of_ble_eq_true rfl) h (fun _ σ157 h => ?_)
      exact hh_forget [true, true, false, false, true, true] (w_X11_payers_160 _ _ _ _ h)
  · replace h := h.2 c
    refine hh_ldc (n := -1000000002) dX11_payers_125 kc_X11_143 (by decide) ?_
    exact hh_ireturn dX11_payers_127 rfl h
set_option maxRecDepth 20000 in
theorem w_X11_payers_59 {d : Nat} {Q : Int → hh_S → Prop} (x1 x2 x3 x4 x5 : Int) (σ : hh_S) (h : B_X11_payers_59 d Q x1 x2 x3 x4 x5 σ) : hh_J (d + 1) hm_X11_payers 59 [some (hh_R 0), some (hh_I x1), some (hh_I x2), some (hh_I x3), some (hh_I x4), some (hh_I x5)] [] σ Q := by
  unfold B_X11_payers_59 at h
  refine hh_iload dX11_payers_59 rfl ?_
  refine hh_ldc (n := -1000000005) dX11_payers_61 kc_X11_133 (by decide) ?_
  refine hh_icmp_eq (tgt := 111) dX11_payers_63 (by decide) (fun c => ?_) (fun c => ?_)
  · replace h := h.1 c
    exact hh_forget [true, true, true, true, true, true] (w_X11_payers_111 _ _ _ _ _ _ h)
  · replace h := h.2 c
    refine hh_iload_n dX11_payers_66 rfl ?_
    refine hh_ldc (n := -1000000005) dX11_payers_67 kc_X11_133 (by decide) ?_
    refine hh_icmp_eq (tgt := 105) dX11_payers_69 (by decide) (fun c => ?_) (fun c => ?_)
    · replace h := h.1 c
      refine hh_ldc (n := -1000000001) dX11_payers_105 kc_X11_74 (by decide) ?_
      exact hh_ireturn dX11_payers_107 rfl h
    · replace h := h.2 c
      refine hh_aload_n dX11_payers_72 rfl ?_
      refine hh_iload dX11_payers_73 rfl ?_
      refine hh_cV1 dX11_payers_75 lk_X11_130 mo_X11_isPayer rc_0 (Nat.le_of_ble_eq_true rfl) h (fun r75 σ75 h => ?_)
      refine hh_if_eq (tgt := 105) dX11_payers_78 (by decide) (fun c => ?_) (fun c => ?_)
      · replace h := h.1 c
        refine hh_ldc (n := -1000000001) dX11_payers_105 kc_X11_74 (by decide) ?_
        exact hh_ireturn dX11_payers_107 rfl h
      · replace h := h.2 c
        obtain ⟨⟨q1, q2⟩, h⟩ := h
        refine hh_iload dX11_payers_81 rfl ?_
        refine hh_bipush dX11_payers_83 (by decide) ?_
        refine hh_idiv dX11_payers_85 q1 (by decide) ?_
        refine hh_iload_n dX11_payers_86 rfl ?_
        refine hh_bipush dX11_payers_87 (by decide) ?_
        refine hh_idiv dX11_payers_89 q2 (by decide) ?_
        refine hh_icmp_eq (tgt := 105) dX11_payers_90 (by decide) (fun c => ?_) (fun c => ?_)
        · replace h := h.1 c
          refine hh_ldc (n := -1000000001) dX11_payers_105 kc_X11_74 (by decide) ?_
          exact hh_ireturn dX11_payers_107 rfl h
        · replace h := h.2 c
          obtain ⟨⟨q1, q2⟩, h⟩ := h
          refine hh_iload dX11_payers_93 rfl ?_
          refine hh_bipush dX11_payers_95 (by decide) ?_
          refine hh_idiv dX11_payers_97 q1 (by decide) ?_
          refine hh_iload_n dX11_payers_98 rfl ?_
          refine hh_bipush dX11_payers_99 (by decide) ?_
          refine hh_idiv dX11_payers_101 q2 (by decide) ?_
          refine hh_icmp_ne (tgt := 108) dX11_payers_102 (by decide) (fun c => ?_) (fun c => ?_)
          · replace h := h.1 c
            refine hh_iconst dX11_payers_108 (by decide) ?_
            refine hh_istore dX11_payers_109 (by decide) rfl ?_
            exact hh_forget [true, true, true, true, true, true] (w_X11_payers_111 _ _ _ _ _ _ h)
          · replace h := h.2 c
            refine hh_ldc (n := -1000000001) dX11_payers_105 kc_X11_74 (by decide) ?_
            exact hh_ireturn dX11_payers_107 rfl h
set_option maxRecDepth 20000 in
theorem w_X11_payers {d : Nat} {a1 a2 a3 a4 : Int} {σ : hh_S} {Q : Int → hh_S → Prop} (h : P_X11_payers d a1 a2 a3 a4 σ Q) : hh_J (d + 1) hm_X11_payers 0 [some (hh_R 0), some (hh_I a1), some (hh_I a2), some (hh_I a3), some (hh_I a4), none] [] σ Q := by
  unfold P_X11_payers at h
  refine hh_aload_n dX11_payers_0 rfl ?_
  refine hh_getR dX11_payers_1 kf_X11_10 rf_0_0 ?_
  refine hh_getR dX11_payers_4 kf_X11_117 rf_1_2 ?_
  refine hh_iload_n dX11_payers_7 rfl ?_
  refine hh_cV1 dX11_payers_8 lk_X11_128 mo_X5_has rc_13 (Nat.le_of_ble_eq_true rfl) h (fun r8 σ8 h => ?_)
  refine hh_if_eq (tgt := 22) dX11_payers_11 (by decide) (fun c => ?_) (fun c => ?_)
  · replace h := h.1 c
    refine hh_ldc (n := -1000000001) dX11_payers_22 kc_X11_74 (by decide) ?_
    exact hh_ireturn dX11_payers_24 rfl h
  · replace h := h.2 c
    refine hh_aload_n dX11_payers_14 rfl ?_
    refine hh_iload_n dX11_payers_15 rfl ?_
    refine hh_cV1 dX11_payers_16 lk_X11_130 mo_X11_isPayer rc_0 (Nat.le_of_ble_eq_true rfl) h (fun r16 σ16 h => ?_)
    refine hh_if_ne (tgt := 25) dX11_payers_19 (by decide) (fun c => ?_) (fun c => ?_)
    · replace h := h.1 c
      refine hh_iconst dX11_payers_25 (by decide) ?_
      refine hh_istore dX11_payers_26 (by decide) rfl ?_
      refine hh_iload_n dX11_payers_28 rfl ?_
      refine hh_ldc (n := -1000000005) dX11_payers_29 kc_X11_133 (by decide) ?_
      refine hh_icmp_eq (tgt := 59) dX11_payers_31 (by decide) (fun c => ?_) (fun c => ?_)
      · replace h := h.1 c
        exact hh_forget [true, true, true, true, true, true] (w_X11_payers_59 _ _ _ _ _ _ h)
      · replace h := h.2 c
        refine hh_aload_n dX11_payers_34 rfl ?_
        refine hh_iload_n dX11_payers_35 rfl ?_
        refine hh_cV1 dX11_payers_36 lk_X11_130 mo_X11_isPayer rc_0 (Nat.le_of_ble_eq_true rfl) h (fun r36 σ36 h => ?_)
        refine hh_if_eq (tgt := 53) dX11_payers_39 (by decide) (fun c => ?_) (fun c => ?_)
        · replace h := h.1 c
          refine hh_ldc (n := -1000000001) dX11_payers_53 kc_X11_74 (by decide) ?_
          exact hh_ireturn dX11_payers_55 rfl h
        · replace h := h.2 c
          obtain ⟨⟨q1, q2⟩, h⟩ := h
          refine hh_iload_n dX11_payers_42 rfl ?_
          refine hh_bipush dX11_payers_43 (by decide) ?_
          refine hh_idiv dX11_payers_45 q1 (by decide) ?_
          refine hh_iload_n dX11_payers_46 rfl ?_
          refine hh_bipush dX11_payers_47 (by decide) ?_
          refine hh_idiv dX11_payers_49 q2 (by decide) ?_
          refine hh_icmp_ne (tgt := 56) dX11_payers_50 (by decide) (fun c => ?_) (fun c => ?_)
          · replace h := h.1 c
            refine hh_iconst dX11_payers_56 (by decide) ?_
            refine hh_istore dX11_payers_57 (by decide) rfl ?_
            exact hh_forget [true, true, true, true, true, true] (w_X11_payers_59 _ _ _ _ _ _ h)
          · replace h := h.2 c
            refine hh_ldc (n := -1000000001) dX11_payers_53 kc_X11_74 (by decide) ?_
            exact hh_ireturn dX11_payers_55 rfl h
    · replace h := h.2 c
      refine hh_ldc (n := -1000000001) dX11_payers_22 kc_X11_74 (by decide) ?_
      exact hh_ireturn dX11_payers_24 rfl h
theorem wp_X11_payers {d : Nat} (a1 a2 a3 a4 : Int) {σ : hh_S} {Q : Int → hh_S → Prop} (h : hh_cs σ → hh_can a1 → hh_can a2 → hh_can a3 → hh_can a4 → P_X11_payers d a1 a2 a3 a4 σ Q) : hh_Sp (d + 1) hm_X11_payers [hh_R 0, hh_I a1, hh_I a2, hh_I a3, hh_I a4] σ Q :=
  hh_entry rfl (Nat.le_of_ble_eq_true rfl) rfl (fun hs hc => w_X11_payers (h hs (hc _ (List.mem_of_getElem? (i := 1) rfl)) (hc _ (List.mem_of_getElem? (i := 2) rfl)) (hc _ (List.mem_of_getElem? (i := 3) rfl)) (hc _ (List.mem_of_getElem? (i := 4) rfl))))
def P_X11_wall (d : Nat) (a1 a2 a3 : Int) (σ : hh_S) (Q : Int → hh_S → Prop) : Prop :=
  hh_Sp d hm_X6_has [hh_R 2, hh_I a1] σ (fun r8 σ8 => (r8 = 0 → Q (-1000000001) σ8) ∧ (¬ r8 = 0 → hh_Sp d hm_X5_has [hh_R 13, hh_I a2] σ8 (fun r22 σ22 => (r22 = 0 → Q (-1000000001) σ22) ∧ (¬ r22 = 0 → hh_Sp d hm_X11_within [hh_I a3, hh_I 0, hh_I 1] σ22 (fun r31 σ31 => (¬ r31 = 0 → ((-2147483648 ≤ a2 * 8 ∧ a2 * 8 ≤ 2147483647) ∧ (-2147483648 ≤ a2 * 8 + a1 ∧ a2 * 8 + a1 ≤ 2147483647) ∧ (0 ≤ a2 * 8 + a1 ∧ a2 * 8 + a1 < 80)) ∧ (Q (σ31 20 (a2 * 8 + a1)) (hh_up σ31 20 (a2 * 8 + a1) a3))) ∧ (r31 = 0 → Q (-1000000001) σ31))))))
set_option maxRecDepth 20000 in
theorem w_X11_wall {d : Nat} {a1 a2 a3 : Int} {σ : hh_S} {Q : Int → hh_S → Prop} (h : P_X11_wall d a1 a2 a3 σ Q) : hh_J (d + 1) hm_X11_wall 0 [some (hh_R 0), some (hh_I a1), some (hh_I a2), some (hh_I a3), none, none] [] σ Q := by
  unfold P_X11_wall at h
  refine hh_aload_n dX11_wall_0 rfl ?_
  refine hh_getR dX11_wall_1 kf_X11_10 rf_0_0 ?_
  refine hh_getR dX11_wall_4 kf_X11_75 rf_1_0 ?_
  refine hh_iload_n dX11_wall_7 rfl ?_
  refine hh_cV1 dX11_wall_8 lk_X11_94 mo_X6_has rc_2 (Nat.le_of_ble_eq_true rfl) h (fun r8 σ8 h => ?_)
  refine hh_if_eq (tgt := 37) dX11_wall_11 (by decide) (fun c => ?_) (fun c => ?_)
  · replace h := h.1 c
    refine hh_ldc (n := -1000000001) dX11_wall_37 kc_X11_74 (by decide) ?_
    exact hh_ireturn dX11_wall_39 rfl h
  · replace h := h.2 c
    refine hh_aload_n dX11_wall_14 rfl ?_
    refine hh_getR dX11_wall_15 kf_X11_10 rf_0_0 ?_
    refine hh_getR dX11_wall_18 kf_X11_117 rf_1_2 ?_
    refine hh_iload_n dX11_wall_21 rfl ?_
    refine hh_cV1 dX11_wall_22 lk_X11_128 mo_X5_has rc_13 (Nat.le_of_ble_eq_true rfl) h (fun r22 σ22 h => ?_)
    refine hh_if_eq (tgt := 37) dX11_wall_25 (by decide) (fun c => ?_) (fun c => ?_)
    · replace h := h.1 c
      refine hh_ldc (n := -1000000001) dX11_wall_37 kc_X11_74 (by decide) ?_
      exact hh_ireturn dX11_wall_39 rfl h
    · replace h := h.2 c
      refine hh_iload_n dX11_wall_28 rfl ?_
      refine hh_iconst dX11_wall_29 (by decide) ?_
      refine hh_iconst dX11_wall_30 (by decide) ?_
      refine hh_cS3 dX11_wall_31 lk_X11_70 mo_X11_within (Nat.le_of_ble_eq_true rfl) h (fun r31 σ31 h => ?_)
      refine hh_if_ne (tgt := 40) dX11_wall_34 (by decide) (fun c => ?_) (fun c => ?_)
      · replace h := h.1 c
        obtain ⟨⟨q1, q2, q3⟩, h⟩ := h
        refine hh_iload_n dX11_wall_40 rfl ?_
        refine hh_bipush dX11_wall_41 (by decide) ?_
        refine hh_imul dX11_wall_43 q1 ?_
        refine hh_iload_n dX11_wall_44 rfl ?_
        refine hh_iadd dX11_wall_45 q2 ?_
        refine hh_istore dX11_wall_46 (by decide) rfl ?_
        refine hh_aload_n dX11_wall_48 rfl ?_
        refine hh_getR dX11_wall_49 kf_X11_10 rf_0_0 ?_
        refine hh_getR dX11_wall_52 kf_X11_117 rf_1_2 ?_
        refine hh_getR dX11_wall_55 kf_X11_151 rf_13_7 ?_
        refine hh_iload dX11_wall_58 rfl ?_
        refine hh_iald dX11_wall_60 ra_20 q3 rfl ?_
        refine hh_istore dX11_wall_61 (by decide) rfl ?_
        refine hh_aload_n dX11_wall_63 rfl ?_
        refine hh_getR dX11_wall_64 kf_X11_10 rf_0_0 ?_
        refine hh_getR dX11_wall_67 kf_X11_117 rf_1_2 ?_
        refine hh_getR dX11_wall_70 kf_X11_151 rf_13_7 ?_
        refine hh_iload dX11_wall_73 rfl ?_
        refine hh_iload_n dX11_wall_75 rfl ?_
        refine hh_iast dX11_wall_76 ra_20 q3 ?_
        refine hh_iload dX11_wall_77 rfl ?_
        exact hh_ireturn dX11_wall_79 rfl h
      · replace h := h.2 c
        refine hh_ldc (n := -1000000001) dX11_wall_37 kc_X11_74 (by decide) ?_
        exact hh_ireturn dX11_wall_39 rfl h
theorem wp_X11_wall {d : Nat} (a1 a2 a3 : Int) {σ : hh_S} {Q : Int → hh_S → Prop} (h : hh_cs σ → hh_can a1 → hh_can a2 → hh_can a3 → P_X11_wall d a1 a2 a3 σ Q) : hh_Sp (d + 1) hm_X11_wall [hh_R 0, hh_I a1, hh_I a2, hh_I a3] σ Q :=
  hh_entry rfl (Nat.le_of_ble_eq_true rfl) rfl (fun hs hc => w_X11_wall (h hs (hc _ (List.mem_of_getElem? (i := 1) rfl)) (hc _ (List.mem_of_getElem? (i := 2) rfl)) (hc _ (List.mem_of_getElem? (i := 3) rfl))))
def P_X11_days (d : Nat) (a1 : Int) (σ : hh_S) (Q : Int → hh_S → Prop) : Prop :=
  hh_Sp d hm_X11_within [hh_I a1, hh_I 1, hh_I 100] σ (fun r4 σ4 => (r4 = 0 → Q (-1000000001) σ4) ∧ (¬ r4 = 0 → ((-2147483648 ≤ σ4 1 8 + a1 ∧ σ4 1 8 + a1 ≤ 2147483647)) ∧ ((σ4 1 8 + a1 ≤ 900 → ((-2147483648 ≤ σ4 1 8 + a1 ∧ σ4 1 8 + a1 ≤ 2147483647)) ∧ (Q (σ4 1 8 + a1) (hh_up σ4 1 8 (σ4 1 8 + a1)))) ∧ (¬ σ4 1 8 + a1 ≤ 900 → Q (-1000000001) σ4))))
set_option maxRecDepth 20000 in
theorem w_X11_days {d : Nat} {a1 : Int} {σ : hh_S} {Q : Int → hh_S → Prop} (h : P_X11_days d a1 σ Q) : hh_J (d + 1) hm_X11_days 0 [some (hh_R 0), some (hh_I a1)] [] σ Q := by
  unfold P_X11_days at h
  refine hh_iload_n dX11_days_0 rfl ?_
  refine hh_iconst dX11_days_1 (by decide) ?_
  refine hh_bipush dX11_days_2 (by decide) ?_
  refine hh_cS3 dX11_days_4 lk_X11_70 mo_X11_within (Nat.le_of_ble_eq_true rfl) h (fun r4 σ4 h => ?_)
  refine hh_if_eq (tgt := 25) dX11_days_7 (by decide) (fun c => ?_) (fun c => ?_)
  · replace h := h.1 c
    refine hh_ldc (n := -1000000001) dX11_days_25 kc_X11_74 (by decide) ?_
    exact hh_ireturn dX11_days_27 rfl h
  · replace h := h.2 c
    obtain ⟨q1, h⟩ := h
    refine hh_aload_n dX11_days_10 rfl ?_
    refine hh_getR dX11_days_11 kf_X11_10 rf_0_0 ?_
    refine hh_getI dX11_days_14 kf_X11_154 rf_1_8 rfl ?_
    refine hh_iload_n dX11_days_17 rfl ?_
    refine hh_iadd dX11_days_18 q1 ?_
    refine hh_sipush dX11_days_19 (by decide) ?_
    refine hh_icmp_le (tgt := 28) dX11_days_22 (by decide) (fun c => ?_) (fun c => ?_)
    · replace h := h.1 c
      obtain ⟨q1, h⟩ := h
      refine hh_aload_n dX11_days_28 rfl ?_
      refine hh_getR dX11_days_29 kf_X11_10 rf_0_0 ?_
      refine hh_dup dX11_days_32 (fun _ => rfl) ?_
      refine hh_getI dX11_days_33 kf_X11_154 rf_1_8 rfl ?_
      refine hh_iload_n dX11_days_36 rfl ?_
      refine hh_iadd dX11_days_37 q1 ?_
      refine hh_putI dX11_days_38 kp_X11_154 rf_1_8 ?_
      refine hh_aload_n dX11_days_41 rfl ?_
      refine hh_getR dX11_days_42 kf_X11_10 rf_0_0 ?_
      refine hh_getI dX11_days_45 kf_X11_154 rf_1_8 rfl ?_
      exact hh_ireturn dX11_days_48 rfl h
    · replace h := h.2 c
      refine hh_ldc (n := -1000000001) dX11_days_25 kc_X11_74 (by decide) ?_
      exact hh_ireturn dX11_days_27 rfl h
theorem wp_X11_days {d : Nat} (a1 : Int) {σ : hh_S} {Q : Int → hh_S → Prop} (h : hh_cs σ → hh_can a1 → P_X11_days d a1 σ Q) : hh_Sp (d + 1) hm_X11_days [hh_R 0, hh_I a1] σ Q :=
  hh_entry rfl (Nat.le_of_ble_eq_true rfl) rfl (fun hs hc => w_X11_days (h hs (hc _ (List.mem_of_getElem? (i := 1) rfl))))
def P_X11_mostOfRule (d : Nat) (a0 : Int) (σ : hh_S) (Q : Int → hh_S → Prop) : Prop :=
  (a0 = 0 → Q 240 σ) ∧ (a0 = 1 → Q 100 σ) ∧ (a0 ≠ 0 ∧ a0 ≠ 1 → Q 900 σ)
set_option maxRecDepth 20000 in
theorem w_X11_mostOfRule {d : Nat} {a0 : Int} {σ : hh_S} {Q : Int → hh_S → Prop} (h : P_X11_mostOfRule d a0 σ Q) : hh_J (d + 1) hm_X11_mostOfRule 0 [some (hh_I a0)] [] σ Q := by
  unfold P_X11_mostOfRule at h
  refine hh_iload_n dX11_mostOfRule_0 rfl ?_
  refine hh_lookup dX11_mostOfRule_1 (by decide) ?_
  by_cases c0 : a0 = 0
  · refine ⟨27, 28, by rw [c0]; rfl, by decide, ?_⟩
    replace h := h.1 c0
    refine hh_sipush dX11_mostOfRule_28 (by decide) ?_
    exact hh_ireturn dX11_mostOfRule_31 rfl h
  by_cases c1 : a0 = 1
  · refine ⟨31, 32, by rw [c1]; rfl, by decide, ?_⟩
    replace h := h.2.1 c1
    refine hh_bipush dX11_mostOfRule_32 (by decide) ?_
    exact hh_ireturn dX11_mostOfRule_34 rfl h
  refine ⟨34, 35, by simp [Op.lookupswitch.offset, Ne.symm c0, Ne.symm c1], by decide, ?_⟩
  replace h := h.2.2 ⟨c0, c1⟩
  refine hh_sipush dX11_mostOfRule_35 (by decide) ?_
  exact hh_ireturn dX11_mostOfRule_38 rfl h
theorem wp_X11_mostOfRule {d : Nat} (a0 : Int) {σ : hh_S} {Q : Int → hh_S → Prop} (h : hh_cs σ → hh_can a0 → P_X11_mostOfRule d a0 σ Q) : hh_Sp (d + 1) hm_X11_mostOfRule [hh_I a0] σ Q :=
  hh_entry rfl (Nat.le_of_ble_eq_true rfl) rfl (fun hs hc => w_X11_mostOfRule (h hs (hc _ (List.mem_of_getElem? (i := 0) rfl))))
def P_X11_rule (d : Nat) (a1 a2 : Int) (σ : hh_S) (Q : Int → hh_S → Prop) : Prop :=
  hh_Sp d hm_X11_within [hh_I a1, hh_I 0, hh_I 2] σ (fun r3 σ3 => (r3 = 0 → Q (-1000000001) σ3) ∧ (¬ r3 = 0 → hh_Sp d hm_X11_mostOfRule [hh_I a1] σ3 (fun r12 σ12 => hh_Sp d hm_X11_within [hh_I a2, hh_I 0, hh_I r12] σ12 (fun r15 σ15 => (¬ r15 = 0 → ((0 ≤ a1 ∧ a1 < 3)) ∧ (Q (σ15 54 a1) (hh_up σ15 54 a1 a2))) ∧ (r15 = 0 → Q (-1000000001) σ15)))))
set_option maxRecDepth 20000 in
theorem w_X11_rule {d : Nat} {a1 a2 : Int} {σ : hh_S} {Q : Int → hh_S → Prop} (h : P_X11_rule d a1 a2 σ Q) : hh_J (d + 1) hm_X11_rule 0 [some (hh_R 0), some (hh_I a1), some (hh_I a2), none] [] σ Q := by
  unfold P_X11_rule at h
  refine hh_iload_n dX11_rule_0 rfl ?_
  refine hh_iconst dX11_rule_1 (by decide) ?_
  refine hh_iconst dX11_rule_2 (by decide) ?_
  refine hh_cS3 dX11_rule_3 lk_X11_70 mo_X11_within (Nat.le_of_ble_eq_true rfl) h (fun r3 σ3 h => ?_)
  refine hh_if_eq (tgt := 21) dX11_rule_6 (by decide) (fun c => ?_) (fun c => ?_)
  · replace h := h.1 c
    refine hh_ldc (n := -1000000001) dX11_rule_21 kc_X11_74 (by decide) ?_
    exact hh_ireturn dX11_rule_23 rfl h
  · replace h := h.2 c
    refine hh_iload_n dX11_rule_9 rfl ?_
    refine hh_iconst dX11_rule_10 (by decide) ?_
    refine hh_iload_n dX11_rule_11 rfl ?_
    refine hh_cS1 dX11_rule_12 lk_X11_157 mo_X11_mostOfRule (Nat.le_of_ble_eq_true rfl) h (fun r12 σ12 h => ?_)
    refine hh_cS3 dX11_rule_15 lk_X11_70 mo_X11_within (Nat.le_of_ble_eq_true rfl) h (fun r15 σ15 h => ?_)
    refine hh_if_ne (tgt := 24) dX11_rule_18 (by decide) (fun c => ?_) (fun c => ?_)
    · replace h := h.1 c
      obtain ⟨q1, h⟩ := h
      refine hh_aload_n dX11_rule_24 rfl ?_
      refine hh_getR dX11_rule_25 kf_X11_10 rf_0_0 ?_
      refine hh_getR dX11_rule_28 kf_X11_161 rf_1_7 ?_
      refine hh_iload_n dX11_rule_31 rfl ?_
      refine hh_iald dX11_rule_32 ra_54 q1 rfl ?_
      refine hh_istore_n dX11_rule_33 (by decide) rfl ?_
      refine hh_aload_n dX11_rule_34 rfl ?_
      refine hh_getR dX11_rule_35 kf_X11_10 rf_0_0 ?_
      refine hh_getR dX11_rule_38 kf_X11_161 rf_1_7 ?_
      refine hh_iload_n dX11_rule_41 rfl ?_
      refine hh_iload_n dX11_rule_42 rfl ?_
      refine hh_iast dX11_rule_43 ra_54 q1 ?_
      refine hh_iload_n dX11_rule_44 rfl ?_
      exact hh_ireturn dX11_rule_45 rfl h
    · replace h := h.2 c
      refine hh_ldc (n := -1000000001) dX11_rule_21 kc_X11_74 (by decide) ?_
      exact hh_ireturn dX11_rule_23 rfl h
theorem wp_X11_rule {d : Nat} (a1 a2 : Int) {σ : hh_S} {Q : Int → hh_S → Prop} (h : hh_cs σ → hh_can a1 → hh_can a2 → P_X11_rule d a1 a2 σ Q) : hh_Sp (d + 1) hm_X11_rule [hh_R 0, hh_I a1, hh_I a2] σ Q :=
  hh_entry rfl (Nat.le_of_ble_eq_true rfl) rfl (fun hs hc => w_X11_rule (h hs (hc _ (List.mem_of_getElem? (i := 1) rfl)) (hc _ (List.mem_of_getElem? (i := 2) rfl))))
def P_X11_isPast (d : Nat) (a1 : Int) (σ : hh_S) (Q : Int → hh_S → Prop) : Prop :=
  hh_Sp d hm_X11_within [hh_I a1, hh_I 0, hh_I (σ 1 8)] σ (fun r9 σ9 => ((r9 = 0 ∨ r9 = 1)) ∧ (Q r9 σ9))
set_option maxRecDepth 20000 in
theorem w_X11_isPast {d : Nat} {a1 : Int} {σ : hh_S} {Q : Int → hh_S → Prop} (h : P_X11_isPast d a1 σ Q) : hh_J (d + 1) hm_X11_isPast 0 [some (hh_R 0), some (hh_I a1)] [] σ Q := by
  unfold P_X11_isPast at h
  refine hh_iload_n dX11_isPast_0 rfl ?_
  refine hh_iconst dX11_isPast_1 (by decide) ?_
  refine hh_aload_n dX11_isPast_2 rfl ?_
  refine hh_getR dX11_isPast_3 kf_X11_10 rf_0_0 ?_
  refine hh_getI dX11_isPast_6 kf_X11_154 rf_1_8 rfl ?_
  refine hh_cS3 dX11_isPast_9 lk_X11_70 mo_X11_within (Nat.le_of_ble_eq_true rfl) h (fun r9 σ9 h => ?_)
  obtain ⟨q1, h⟩ := h
  exact hh_zreturn dX11_isPast_12 rfl q1 h
theorem wp_X11_isPast {d : Nat} (a1 : Int) {σ : hh_S} {Q : Int → hh_S → Prop} (h : hh_cs σ → hh_can a1 → P_X11_isPast d a1 σ Q) : hh_Sp (d + 1) hm_X11_isPast [hh_R 0, hh_I a1] σ Q :=
  hh_entry rfl (Nat.le_of_ble_eq_true rfl) rfl (fun hs hc => w_X11_isPast (h hs (hc _ (List.mem_of_getElem? (i := 1) rfl))))
def P_X11_isSpan (d : Nat) (a0 : Int) (σ : hh_S) (Q : Int → hh_S → Prop) : Prop :=
  (0 ≤ a0 → (0 ≤ a0) ∧ ((a0 % 1000 < 1 → Q 0 σ) ∧ (¬ a0 % 1000 < 1 → (240 ≤ a0 / 1000 → Q 0 σ) ∧ (¬ 240 ≤ a0 / 1000 → ((-2147483648 ≤ (a0 / 1000) + (a0 % 1000) ∧ (a0 / 1000) + (a0 % 1000) ≤ 2147483647)) ∧ ((240 < (a0 / 1000) + (a0 % 1000) → Q 0 σ) ∧ (¬ 240 < (a0 / 1000) + (a0 % 1000) → Q 1 σ)))))) ∧ (¬ 0 ≤ a0 → Q 0 σ)
set_option maxRecDepth 20000 in
theorem w_X11_isSpan {d : Nat} {a0 : Int} {σ : hh_S} {Q : Int → hh_S → Prop} (h : P_X11_isSpan d a0 σ Q) : hh_J (d + 1) hm_X11_isSpan 0 [some (hh_I a0), none, none] [] σ Q := by
  unfold P_X11_isSpan at h
  refine hh_iload_n dX11_isSpan_0 rfl ?_
  refine hh_if_ge (tgt := 6) dX11_isSpan_1 (by decide) (fun c => ?_) (fun c => ?_)
  · replace h := h.1 c
    obtain ⟨q1, h⟩ := h
    refine hh_iload_n dX11_isSpan_6 rfl ?_
    refine hh_sipush dX11_isSpan_7 (by decide) ?_
    refine hh_idiv dX11_isSpan_10 q1 (by decide) ?_
    refine hh_istore_n dX11_isSpan_11 (by decide) rfl ?_
    refine hh_iload_n dX11_isSpan_12 rfl ?_
    refine hh_sipush dX11_isSpan_13 (by decide) ?_
    refine hh_irem dX11_isSpan_16 q1 (by decide) ?_
    refine hh_istore_n dX11_isSpan_17 (by decide) rfl ?_
    refine hh_iload_n dX11_isSpan_18 rfl ?_
    refine hh_iconst dX11_isSpan_19 (by decide) ?_
    refine hh_icmp_lt (tgt := 43) dX11_isSpan_20 (by decide) (fun c => ?_) (fun c => ?_)
    · replace h := h.1 c
      refine hh_iconst dX11_isSpan_43 (by decide) ?_
      exact hh_zreturn dX11_isSpan_44 rfl (by decide) h
    · replace h := h.2 c
      refine hh_iload_n dX11_isSpan_23 rfl ?_
      refine hh_sipush dX11_isSpan_24 (by decide) ?_
      refine hh_icmp_ge (tgt := 43) dX11_isSpan_27 (by decide) (fun c => ?_) (fun c => ?_)
      · replace h := h.1 c
        refine hh_iconst dX11_isSpan_43 (by decide) ?_
        exact hh_zreturn dX11_isSpan_44 rfl (by decide) h
      · replace h := h.2 c
        obtain ⟨q1, h⟩ := h
        refine hh_iload_n dX11_isSpan_30 rfl ?_
        refine hh_iload_n dX11_isSpan_31 rfl ?_
        refine hh_iadd dX11_isSpan_32 q1 ?_
        refine hh_sipush dX11_isSpan_33 (by decide) ?_
        refine hh_icmp_gt (tgt := 43) dX11_isSpan_36 (by decide) (fun c => ?_) (fun c => ?_)
        · replace h := h.1 c
          refine hh_iconst dX11_isSpan_43 (by decide) ?_
          exact hh_zreturn dX11_isSpan_44 rfl (by decide) h
        · replace h := h.2 c
          refine hh_iconst dX11_isSpan_39 (by decide) ?_
          refine hh_goto (tgt := 44) dX11_isSpan_40 (by decide) ?_
          exact hh_zreturn dX11_isSpan_44 rfl (by decide) h
  · replace h := h.2 c
    refine hh_iconst dX11_isSpan_4 (by decide) ?_
    exact hh_zreturn dX11_isSpan_5 rfl (by decide) h
theorem wp_X11_isSpan {d : Nat} (a0 : Int) {σ : hh_S} {Q : Int → hh_S → Prop} (h : hh_cs σ → hh_can a0 → P_X11_isSpan d a0 σ Q) : hh_Sp (d + 1) hm_X11_isSpan [hh_I a0] σ Q :=
  hh_entry rfl (Nat.le_of_ble_eq_true rfl) rfl (fun hs hc => w_X11_isSpan (h hs (hc _ (List.mem_of_getElem? (i := 0) rfl))))
def P_X11_entry (d : Nat) (a1 a2 a3 a4 a5 : Int) (σ : hh_S) (Q : Int → hh_S → Prop) : Prop :=
  hh_Sp d hm_X6_has [hh_R 2, hh_I a1] σ (fun r8 σ8 => (r8 = 0 → Q (-1000000001) σ8) ∧ (¬ r8 = 0 → hh_Sp d hm_X5_has [hh_R 13, hh_I a2] σ8 (fun r22 σ22 => (r22 = 0 → Q (-1000000001) σ22) ∧ (¬ r22 = 0 → hh_Sp d hm_X11_isPast [hh_R 0, hh_I a3] σ22 (fun r30 σ30 => (r30 = 0 → Q (-1000000001) σ30) ∧ (¬ r30 = 0 → hh_Sp d hm_X11_isSpan [hh_I a4] σ30 (fun r38 σ38 => (r38 = 0 → Q (-1000000001) σ38) ∧ (¬ r38 = 0 → hh_Sp d hm_X11_within [hh_I a5, hh_I 0, hh_I 5] σ38 (fun r48 σ48 => (¬ r48 = 0 → hh_Sp d hm_X5_hasWall [hh_R 13, hh_I a1, hh_I a2] σ48 (fun r66 σ66 => (r66 = 0 → (σ66 24 0 < 90 → ((0 ≤ σ66 24 0 ∧ σ66 24 0 < 90) ∧ 0 ≤ a4 ∧ (-2147483648 ≤ σ66 24 0 + 1 ∧ σ66 24 0 + 1 ≤ 2147483647)) ∧ (Q (σ66 24 0) (hh_up (hh_up (hh_up (hh_up (hh_up (hh_up (hh_up (hh_up (hh_up (hh_up (hh_up (hh_up σ66 25 (σ66 24 0) a1) 26 (σ66 24 0) a2) 27 (σ66 24 0) a3) 28 (σ66 24 0) (a4 / 1000)) 29 (σ66 24 0) (a4 % 1000)) 30 (σ66 24 0) a5) 31 (σ66 24 0) (σ66 1 8)) 32 (σ66 24 0) (-1000000005)) 33 (σ66 24 0) (-1000000005)) 34 (σ66 24 0) 0) 35 (σ66 24 0) (-1000000005)) 24 0 (σ66 24 0 + 1)))) ∧ (¬ σ66 24 0 < 90 → Q (-1000000003) σ66)) ∧ (¬ r66 = 0 → Q (-1000000002) σ66))) ∧ (r48 = 0 → Q (-1000000001) σ48))))))))))
set_option maxRecDepth 20000 in
theorem w_X11_entry {d : Nat} {a1 a2 a3 a4 a5 : Int} {σ : hh_S} {Q : Int → hh_S → Prop} (h : P_X11_entry d a1 a2 a3 a4 a5 σ Q) : hh_J (d + 1) hm_X11_entry 0 [some (hh_R 0), some (hh_I a1), some (hh_I a2), some (hh_I a3), some (hh_I a4), some (hh_I a5), none, none] [] σ Q := by
  unfold P_X11_entry at h
  refine hh_aload_n dX11_entry_0 rfl ?_
  refine hh_getR dX11_entry_1 kf_X11_10 rf_0_0 ?_
  refine hh_getR dX11_entry_4 kf_X11_75 rf_1_0 ?_
  refine hh_iload_n dX11_entry_7 rfl ?_
  refine hh_cV1 dX11_entry_8 lk_X11_94 mo_X6_has rc_2 (Nat.le_of_ble_eq_true rfl) h (fun r8 σ8 h => ?_)
  refine hh_if_eq (tgt := 54) dX11_entry_11 (by decide) (fun c => ?_) (fun c => ?_)
  · replace h := h.1 c
    refine hh_ldc (n := -1000000001) dX11_entry_54 kc_X11_74 (by decide) ?_
    exact hh_ireturn dX11_entry_56 rfl h
  · replace h := h.2 c
    refine hh_aload_n dX11_entry_14 rfl ?_
    refine hh_getR dX11_entry_15 kf_X11_10 rf_0_0 ?_
    refine hh_getR dX11_entry_18 kf_X11_117 rf_1_2 ?_
    refine hh_iload_n dX11_entry_21 rfl ?_
    refine hh_cV1 dX11_entry_22 lk_X11_128 mo_X5_has rc_13 (Nat.le_of_ble_eq_true rfl) h (fun r22 σ22 h => ?_)
    refine hh_if_eq (tgt := 54) dX11_entry_25 (by decide) (fun c => ?_) (fun c => ?_)
    · replace h := h.1 c
      refine hh_ldc (n := -1000000001) dX11_entry_54 kc_X11_74 (by decide) ?_
      exact hh_ireturn dX11_entry_56 rfl h
    · replace h := h.2 c
      refine hh_aload_n dX11_entry_28 rfl ?_
      refine hh_iload_n dX11_entry_29 rfl ?_
      refine hh_cV1 dX11_entry_30 lk_X11_164 mo_X11_isPast rc_0 (Nat.le_of_ble_eq_true rfl) h (fun r30 σ30 h => ?_)
      refine hh_if_eq (tgt := 54) dX11_entry_33 (by decide) (fun c => ?_) (fun c => ?_)
      · replace h := h.1 c
        refine hh_ldc (n := -1000000001) dX11_entry_54 kc_X11_74 (by decide) ?_
        exact hh_ireturn dX11_entry_56 rfl h
      · replace h := h.2 c
        refine hh_iload dX11_entry_36 rfl ?_
        refine hh_cS1 dX11_entry_38 lk_X11_167 mo_X11_isSpan (Nat.le_of_ble_eq_true rfl) h (fun r38 σ38 h => ?_)
        refine hh_if_eq (tgt := 54) dX11_entry_41 (by decide) (fun c => ?_) (fun c => ?_)
        · replace h := h.1 c
          refine hh_ldc (n := -1000000001) dX11_entry_54 kc_X11_74 (by decide) ?_
          exact hh_ireturn dX11_entry_56 rfl h
        · replace h := h.2 c
          refine hh_iload dX11_entry_44 rfl ?_
          refine hh_iconst dX11_entry_46 (by decide) ?_
          refine hh_iconst dX11_entry_47 (by decide) ?_
          refine hh_cS3 dX11_entry_48 lk_X11_70 mo_X11_within (Nat.le_of_ble_eq_true rfl) h (fun r48 σ48 h => ?_)
          refine hh_if_ne (tgt := 57) dX11_entry_51 (by decide) (fun c => ?_) (fun c => ?_)
          · replace h := h.1 c
            refine hh_aload_n dX11_entry_57 rfl ?_
            refine hh_getR dX11_entry_58 kf_X11_10 rf_0_0 ?_
            refine hh_getR dX11_entry_61 kf_X11_117 rf_1_2 ?_
            refine hh_iload_n dX11_entry_64 rfl ?_
            refine hh_iload_n dX11_entry_65 rfl ?_
            refine hh_cV2 dX11_entry_66 lk_X11_170 mo_X5_hasWall rc_13 (Nat.le_of_ble_eq_true rfl) h (fun r66 σ66 h => ?_)
            refine hh_if_eq (tgt := 75) dX11_entry_69 (by decide) (fun c => ?_) (fun c => ?_)
            · replace h := h.1 c
              refine hh_aload_n dX11_entry_75 rfl ?_
              refine hh_getR dX11_entry_76 kf_X11_10 rf_0_0 ?_
              refine hh_getR dX11_entry_79 kf_X11_173 rf_1_3 ?_
              refine hh_astore dX11_entry_82 (by decide) rfl ?_
              refine hh_aload dX11_entry_84 rfl ?_
              refine hh_getI dX11_entry_86 kf_X11_177 rf_24_0 rfl ?_
              refine hh_bipush dX11_entry_89 (by decide) ?_
              refine hh_icmp_lt (tgt := 97) dX11_entry_91 (by decide) (fun c => ?_) (fun c => ?_)
              · replace h := h.1 c
                obtain ⟨⟨q1, q2, q3⟩, h⟩ := h
                refine hh_aload dX11_entry_97 rfl ?_
                refine hh_getI dX11_entry_99 kf_X11_177 rf_24_0 rfl ?_
                refine hh_istore dX11_entry_102 (by decide) rfl ?_
                refine hh_aload dX11_entry_104 rfl ?_
                refine hh_getR dX11_entry_106 kf_X11_180 rf_24_1 ?_
                refine hh_iload dX11_entry_109 rfl ?_
                refine hh_iload_n dX11_entry_111 rfl ?_
                refine hh_iast dX11_entry_112 ra_25 q1 ?_
                refine hh_aload dX11_entry_113 rfl ?_
                refine hh_getR dX11_entry_115 kf_X11_183 rf_24_2 ?_
                refine hh_iload dX11_entry_118 rfl ?_
                refine hh_iload_n dX11_entry_120 rfl ?_
                refine hh_iast dX11_entry_121 ra_26 q1 ?_
                refine hh_aload dX11_entry_122 rfl ?_
                refine hh_getR dX11_entry_124 kf_X11_185 rf_24_3 ?_
                refine hh_iload dX11_entry_127 rfl ?_
                refine hh_iload_n dX11_entry_129 rfl ?_
                refine hh_iast dX11_entry_130 ra_27 q1 ?_
                refine hh_aload dX11_entry_131 rfl ?_
                refine hh_getR dX11_entry_133 kf_X11_188 rf_24_4 ?_
                refine hh_iload dX11_entry_136 rfl ?_
                refine hh_iload dX11_entry_138 rfl ?_
                refine hh_sipush dX11_entry_140 (by decide) ?_
                refine hh_idiv dX11_entry_143 q2 (by decide) ?_
                refine hh_iast dX11_entry_144 ra_28 q1 ?_
                refine hh_aload dX11_entry_145 rfl ?_
                refine hh_getR dX11_entry_147 kf_X11_191 rf_24_5 ?_
                refine hh_iload dX11_entry_150 rfl ?_
                refine hh_iload dX11_entry_152 rfl ?_
                refine hh_sipush dX11_entry_154 (by decide) ?_
                refine hh_irem dX11_entry_157 q2 (by decide) ?_
                refine hh_iast dX11_entry_158 ra_29 q1 ?_
                refine hh_aload dX11_entry_159 rfl ?_
                refine hh_getR dX11_entry_161 kf_X11_194 rf_24_6 ?_
                refine hh_iload dX11_entry_164 rfl ?_
                refine hh_iload dX11_entry_166 rfl ?_
                refine hh_iast dX11_entry_168 ra_30 q1 ?_
                refine hh_aload dX11_entry_169 rfl ?_
                refine hh_getR dX11_entry_171 kf_X11_197 rf_24_7 ?_
                refine hh_iload dX11_entry_174 rfl ?_
                refine hh_aload_n dX11_entry_176 rfl ?_
                refine hh_getR dX11_entry_177 kf_X11_10 rf_0_0 ?_
                refine hh_getI dX11_entry_180 kf_X11_154 rf_1_8 rfl ?_
                refine hh_iast dX11_entry_183 ra_31 q1 ?_
                refine hh_aload dX11_entry_184 rfl ?_
                refine hh_getR dX11_entry_186 kf_X11_200 rf_24_8 ?_
                refine hh_iload dX11_entry_189 rfl ?_
                refine hh_ldc (n := -1000000005) dX11_entry_191 kc_X11_133 (by decide) ?_
                refine hh_iast dX11_entry_193 ra_32 q1 ?_
                refine hh_aload dX11_entry_194 rfl ?_
                refine hh_getR dX11_entry_196 kf_X11_203 rf_24_9 ?_
                refine hh_iload dX11_entry_199 rfl ?_
                refine hh_ldc (n := -1000000005) dX11_entry_201 kc_X11_133 (by decide) ?_
                refine hh_iast dX11_entry_203 ra_33 q1 ?_
                refine hh_aload dX11_entry_204 rfl ?_
                refine hh_getR dX11_entry_206 kf_X11_205 rf_24_10 ?_
                refine hh_iload dX11_entry_209 rfl ?_
                refine hh_iconst dX11_entry_211 (by decide) ?_
                refine hh_iast dX11_entry_212 ra_34 q1 ?_
                refine hh_aload dX11_entry_213 rfl ?_
                refine hh_getR dX11_entry_215 kf_X11_208 rf_24_11 ?_
                refine hh_iload dX11_entry_218 rfl ?_
                refine hh_ldc (n := -1000000005) dX11_entry_220 kc_X11_133 (by decide) ?_
                refine hh_iast dX11_entry_222 ra_35 q1 ?_
                refine hh_aload dX11_entry_223 rfl ?_
                refine hh_iload dX11_entry_225 rfl ?_
                refine hh_iconst dX11_entry_227 (by decide) ?_
                refine hh_iadd dX11_entry_228 q3 ?_
                refine hh_putI dX11_entry_229 kp_X11_177 rf_24_0 ?_
                refine hh_iload dX11_entry_232 rfl ?_
                exact hh_ireturn dX11_entry_234 rfl h
              · replace h := h.2 c
                refine hh_ldc (n := -1000000003) dX11_entry_94 kc_X11_84 (by decide) ?_
                exact hh_ireturn dX11_entry_96 rfl h
            · replace h := h.2 c
              refine hh_ldc (n := -1000000002) dX11_entry_72 kc_X11_143 (by decide) ?_
              exact hh_ireturn dX11_entry_74 rfl h
          · replace h := h.2 c
            refine hh_ldc (n := -1000000001) dX11_entry_54 kc_X11_74 (by decide) ?_
            exact hh_ireturn dX11_entry_56 rfl h
theorem wp_X11_entry {d : Nat} (a1 a2 a3 a4 a5 : Int) {σ : hh_S} {Q : Int → hh_S → Prop} (h : hh_cs σ → hh_can a1 → hh_can a2 → hh_can a3 → hh_can a4 → hh_can a5 → P_X11_entry d a1 a2 a3 a4 a5 σ Q) : hh_Sp (d + 1) hm_X11_entry [hh_R 0, hh_I a1, hh_I a2, hh_I a3, hh_I a4, hh_I a5] σ Q :=
  hh_entry rfl (Nat.le_of_ble_eq_true rfl) rfl (fun hs hc => w_X11_entry (h hs (hc _ (List.mem_of_getElem? (i := 1) rfl)) (hc _ (List.mem_of_getElem? (i := 2) rfl)) (hc _ (List.mem_of_getElem? (i := 3) rfl)) (hc _ (List.mem_of_getElem? (i := 4) rfl)) (hc _ (List.mem_of_getElem? (i := 5) rfl))))
def P_X11_withdraw (d : Nat) (a1 : Int) (σ : hh_S) (Q : Int → hh_S → Prop) : Prop :=
  hh_Sp d hm_X3_has [hh_R 24, hh_I a1] σ (fun r10 σ10 => (¬ r10 = 0 → ((0 ≤ a1 ∧ a1 < 90)) ∧ ((¬ σ10 32 a1 = (-1000000005) → Q (-1000000002) σ10) ∧ (σ10 32 a1 = (-1000000005) → ((0 ≤ a1 ∧ a1 < 90)) ∧ ((σ10 33 a1 = (-1000000005) → ((0 ≤ a1 ∧ a1 < 90)) ∧ (Q 1 (hh_up σ10 32 a1 (σ10 1 8)))) ∧ (¬ σ10 33 a1 = (-1000000005) → Q (-1000000002) σ10))))) ∧ (r10 = 0 → Q (-1000000001) σ10))
set_option maxRecDepth 20000 in
theorem w_X11_withdraw {d : Nat} {a1 : Int} {σ : hh_S} {Q : Int → hh_S → Prop} (h : P_X11_withdraw d a1 σ Q) : hh_J (d + 1) hm_X11_withdraw 0 [some (hh_R 0), some (hh_I a1), none] [] σ Q := by
  unfold P_X11_withdraw at h
  refine hh_aload_n dX11_withdraw_0 rfl ?_
  refine hh_getR dX11_withdraw_1 kf_X11_10 rf_0_0 ?_
  refine hh_getR dX11_withdraw_4 kf_X11_173 rf_1_3 ?_
  refine hh_astore_n dX11_withdraw_7 (by decide) rfl ?_
  refine hh_aload_n dX11_withdraw_8 rfl ?_
  refine hh_iload_n dX11_withdraw_9 rfl ?_
  refine hh_cV1 dX11_withdraw_10 lk_X11_211 mo_X3_has rc_24 (Nat.le_of_ble_eq_true rfl) h (fun r10 σ10 h => ?_)
  refine hh_if_ne (tgt := 19) dX11_withdraw_13 (by decide) (fun c => ?_) (fun c => ?_)
  · replace h := h.1 c
    obtain ⟨q1, h⟩ := h
    refine hh_aload_n dX11_withdraw_19 rfl ?_
    refine hh_getR dX11_withdraw_20 kf_X11_200 rf_24_8 ?_
    refine hh_iload_n dX11_withdraw_23 rfl ?_
    refine hh_iald dX11_withdraw_24 ra_32 q1 rfl ?_
    refine hh_ldc (n := -1000000005) dX11_withdraw_25 kc_X11_133 (by decide) ?_
    refine hh_icmp_ne (tgt := 41) dX11_withdraw_27 (by decide) (fun c => ?_) (fun c => ?_)
    · replace h := h.1 c
      refine hh_ldc (n := -1000000002) dX11_withdraw_41 kc_X11_143 (by decide) ?_
      exact hh_ireturn dX11_withdraw_43 rfl h
    · replace h := h.2 c
      obtain ⟨q1, h⟩ := h
      refine hh_aload_n dX11_withdraw_30 rfl ?_
      refine hh_getR dX11_withdraw_31 kf_X11_203 rf_24_9 ?_
      refine hh_iload_n dX11_withdraw_34 rfl ?_
      refine hh_iald dX11_withdraw_35 ra_33 q1 rfl ?_
      refine hh_ldc (n := -1000000005) dX11_withdraw_36 kc_X11_133 (by decide) ?_
      refine hh_icmp_eq (tgt := 44) dX11_withdraw_38 (by decide) (fun c => ?_) (fun c => ?_)
      · replace h := h.1 c
        obtain ⟨q1, h⟩ := h
        refine hh_aload_n dX11_withdraw_44 rfl ?_
        refine hh_getR dX11_withdraw_45 kf_X11_200 rf_24_8 ?_
        refine hh_iload_n dX11_withdraw_48 rfl ?_
        refine hh_aload_n dX11_withdraw_49 rfl ?_
        refine hh_getR dX11_withdraw_50 kf_X11_10 rf_0_0 ?_
        refine hh_getI dX11_withdraw_53 kf_X11_154 rf_1_8 rfl ?_
        refine hh_iast dX11_withdraw_56 ra_32 q1 ?_
        refine hh_iconst dX11_withdraw_57 (by decide) ?_
        exact hh_ireturn dX11_withdraw_58 rfl h
      · replace h := h.2 c
        refine hh_ldc (n := -1000000002) dX11_withdraw_41 kc_X11_143 (by decide) ?_
        exact hh_ireturn dX11_withdraw_43 rfl h
  · replace h := h.2 c
    refine hh_ldc (n := -1000000001) dX11_withdraw_16 kc_X11_74 (by decide) ?_
    exact hh_ireturn dX11_withdraw_18 rfl h
theorem wp_X11_withdraw {d : Nat} (a1 : Int) {σ : hh_S} {Q : Int → hh_S → Prop} (h : hh_cs σ → hh_can a1 → P_X11_withdraw d a1 σ Q) : hh_Sp (d + 1) hm_X11_withdraw [hh_R 0, hh_I a1] σ Q :=
  hh_entry rfl (Nat.le_of_ble_eq_true rfl) rfl (fun hs hc => w_X11_withdraw (h hs (hc _ (List.mem_of_getElem? (i := 1) rfl))))
def P_X11_door (d : Nat) (a1 a2 a3 : Int) (σ : hh_S) (Q : Int → hh_S → Prop) : Prop :=
  hh_Sp d hm_X6_has [hh_R 2, hh_I a1] σ (fun r8 σ8 => (r8 = 0 → Q (-1000000001) σ8) ∧ (¬ r8 = 0 → hh_Sp d hm_X11_isPast [hh_R 0, hh_I a2] σ8 (fun r16 σ16 => (r16 = 0 → Q (-1000000001) σ16) ∧ (¬ r16 = 0 → hh_Sp d hm_X11_isSpan [hh_I a3] σ16 (fun r23 σ23 => (¬ r23 = 0 → (σ23 36 0 < 60 → ((0 ≤ σ23 36 0 ∧ σ23 36 0 < 60) ∧ 0 ≤ a3 ∧ (-2147483648 ≤ σ23 36 0 + 1 ∧ σ23 36 0 + 1 ≤ 2147483647)) ∧ (Q (σ23 36 0 + 1) (hh_up (hh_up (hh_up (hh_up (hh_up (hh_up σ23 37 (σ23 36 0) a1) 38 (σ23 36 0) a2) 39 (σ23 36 0) (a3 / 1000)) 40 (σ23 36 0) (a3 % 1000)) 41 (σ23 36 0) (σ23 1 8)) 36 0 (σ23 36 0 + 1)))) ∧ (¬ σ23 36 0 < 60 → Q (-1000000003) σ23)) ∧ (r23 = 0 → Q (-1000000001) σ23))))))
set_option maxRecDepth 20000 in
theorem w_X11_door {d : Nat} {a1 a2 a3 : Int} {σ : hh_S} {Q : Int → hh_S → Prop} (h : P_X11_door d a1 a2 a3 σ Q) : hh_J (d + 1) hm_X11_door 0 [some (hh_R 0), some (hh_I a1), some (hh_I a2), some (hh_I a3), none, none] [] σ Q := by
  unfold P_X11_door at h
  refine hh_aload_n dX11_door_0 rfl ?_
  refine hh_getR dX11_door_1 kf_X11_10 rf_0_0 ?_
  refine hh_getR dX11_door_4 kf_X11_75 rf_1_0 ?_
  refine hh_iload_n dX11_door_7 rfl ?_
  refine hh_cV1 dX11_door_8 lk_X11_94 mo_X6_has rc_2 (Nat.le_of_ble_eq_true rfl) h (fun r8 σ8 h => ?_)
  refine hh_if_eq (tgt := 29) dX11_door_11 (by decide) (fun c => ?_) (fun c => ?_)
  · replace h := h.1 c
    refine hh_ldc (n := -1000000001) dX11_door_29 kc_X11_74 (by decide) ?_
    exact hh_ireturn dX11_door_31 rfl h
  · replace h := h.2 c
    refine hh_aload_n dX11_door_14 rfl ?_
    refine hh_iload_n dX11_door_15 rfl ?_
    refine hh_cV1 dX11_door_16 lk_X11_164 mo_X11_isPast rc_0 (Nat.le_of_ble_eq_true rfl) h (fun r16 σ16 h => ?_)
    refine hh_if_eq (tgt := 29) dX11_door_19 (by decide) (fun c => ?_) (fun c => ?_)
    · replace h := h.1 c
      refine hh_ldc (n := -1000000001) dX11_door_29 kc_X11_74 (by decide) ?_
      exact hh_ireturn dX11_door_31 rfl h
    · replace h := h.2 c
      refine hh_iload_n dX11_door_22 rfl ?_
      refine hh_cS1 dX11_door_23 lk_X11_167 mo_X11_isSpan (Nat.le_of_ble_eq_true rfl) h (fun r23 σ23 h => ?_)
      refine hh_if_ne (tgt := 32) dX11_door_26 (by decide) (fun c => ?_) (fun c => ?_)
      · replace h := h.1 c
        refine hh_aload_n dX11_door_32 rfl ?_
        refine hh_getR dX11_door_33 kf_X11_10 rf_0_0 ?_
        refine hh_getR dX11_door_36 kf_X11_212 rf_1_4 ?_
        refine hh_astore dX11_door_39 (by decide) rfl ?_
        refine hh_aload dX11_door_41 rfl ?_
        refine hh_getI dX11_door_43 kf_X11_216 rf_36_0 rfl ?_
        refine hh_bipush dX11_door_46 (by decide) ?_
        refine hh_icmp_lt (tgt := 54) dX11_door_48 (by decide) (fun c => ?_) (fun c => ?_)
        · replace h := h.1 c
          obtain ⟨⟨q1, q2, q3⟩, h⟩ := h
          refine hh_aload dX11_door_54 rfl ?_
          refine hh_getI dX11_door_56 kf_X11_216 rf_36_0 rfl ?_
          refine hh_istore dX11_door_59 (by decide) rfl ?_
          refine hh_aload dX11_door_61 rfl ?_
          refine hh_getR dX11_door_63 kf_X11_219 rf_36_1 ?_
          refine hh_iload dX11_door_66 rfl ?_
          refine hh_iload_n dX11_door_68 rfl ?_
          refine hh_iast dX11_door_69 ra_37 q1 ?_
          refine hh_aload dX11_door_70 rfl ?_
          refine hh_getR dX11_door_72 kf_X11_220 rf_36_2 ?_
          refine hh_iload dX11_door_75 rfl ?_
          refine hh_iload_n dX11_door_77 rfl ?_
          refine hh_iast dX11_door_78 ra_38 q1 ?_
          refine hh_aload dX11_door_79 rfl ?_
          refine hh_getR dX11_door_81 kf_X11_221 rf_36_3 ?_
          refine hh_iload dX11_door_84 rfl ?_
          refine hh_iload_n dX11_door_86 rfl ?_
          refine hh_sipush dX11_door_87 (by decide) ?_
          refine hh_idiv dX11_door_90 q2 (by decide) ?_
          refine hh_iast dX11_door_91 ra_39 q1 ?_
          refine hh_aload dX11_door_92 rfl ?_
          refine hh_getR dX11_door_94 kf_X11_222 rf_36_4 ?_
          refine hh_iload dX11_door_97 rfl ?_
          refine hh_iload_n dX11_door_99 rfl ?_
          refine hh_sipush dX11_door_100 (by decide) ?_
          refine hh_irem dX11_door_103 q2 (by decide) ?_
          refine hh_iast dX11_door_104 ra_40 q1 ?_
          refine hh_aload dX11_door_105 rfl ?_
          refine hh_getR dX11_door_107 kf_X11_223 rf_36_5 ?_
          refine hh_iload dX11_door_110 rfl ?_
          refine hh_aload_n dX11_door_112 rfl ?_
          refine hh_getR dX11_door_113 kf_X11_10 rf_0_0 ?_
          refine hh_getI dX11_door_116 kf_X11_154 rf_1_8 rfl ?_
          refine hh_iast dX11_door_119 ra_41 q1 ?_
          refine hh_aload dX11_door_120 rfl ?_
          refine hh_iload dX11_door_122 rfl ?_
          refine hh_iconst dX11_door_124 (by decide) ?_
          refine hh_iadd dX11_door_125 q3 ?_
          refine hh_putI dX11_door_126 kp_X11_216 rf_36_0 ?_
          refine hh_aload dX11_door_129 rfl ?_
          refine hh_getI dX11_door_131 kf_X11_216 rf_36_0 rfl ?_
          exact hh_ireturn dX11_door_134 rfl h
        · replace h := h.2 c
          refine hh_ldc (n := -1000000003) dX11_door_51 kc_X11_84 (by decide) ?_
          exact hh_ireturn dX11_door_53 rfl h
      · replace h := h.2 c
        refine hh_ldc (n := -1000000001) dX11_door_29 kc_X11_74 (by decide) ?_
        exact hh_ireturn dX11_door_31 rfl h
theorem wp_X11_door {d : Nat} (a1 a2 a3 : Int) {σ : hh_S} {Q : Int → hh_S → Prop} (h : hh_cs σ → hh_can a1 → hh_can a2 → hh_can a3 → P_X11_door d a1 a2 a3 σ Q) : hh_Sp (d + 1) hm_X11_door [hh_R 0, hh_I a1, hh_I a2, hh_I a3] σ Q :=
  hh_entry rfl (Nat.le_of_ble_eq_true rfl) rfl (fun hs hc => w_X11_door (h hs (hc _ (List.mem_of_getElem? (i := 1) rfl)) (hc _ (List.mem_of_getElem? (i := 2) rfl)) (hc _ (List.mem_of_getElem? (i := 3) rfl))))
def B_X11_partsBeyond_67 (d : Nat) (Q : Int → hh_S → Prop) (k36 : Int → Int → hh_S → Prop) (x4 x5 : Int) (σ : hh_S) : Prop :=
  ((-2147483648 ≤ x5 + 1 ∧ x5 + 1 ≤ 2147483647)) ∧ (k36 x4 (x5 + 1) σ)
def B_X11_partsBeyond_36 (d : Nat) (Q : Int → hh_S → Prop) (k36 : Int → Int → hh_S → Prop) (x4 x5 : Int) (σ : hh_S) : Prop :=
  (240 ≤ x5 → Q x4 σ) ∧ (¬ 240 ≤ x5 → ((0 ≤ x5 ∧ x5 < 240)) ∧ ((σ 125 x5 ≤ 0 → B_X11_partsBeyond_67 d Q k36 x4 x5 σ) ∧ (¬ σ 125 x5 ≤ 0 → ((0 ≤ x5 ∧ x5 < 240)) ∧ ((¬ σ 126 x5 = 0 → B_X11_partsBeyond_67 d Q k36 x4 x5 σ) ∧ (σ 126 x5 = 0 → ((-2147483648 ≤ x4 + 1 ∧ x4 + 1 ≤ 2147483647)) ∧ (B_X11_partsBeyond_67 d Q k36 (x4 + 1) x5 σ))))))
def P_X11_partsBeyond (d : Nat) (a1 a2 a3 : Int) (σ : hh_S) (Q : Int → hh_S → Prop) : Prop :=
  hh_Sp d hm_J7_fill_53178 [hh_R 126, hh_I 0] σ (fun _ σ5 => hh_Sp d hm_X2_layOut [hh_R 36, hh_I a1, hh_I a2, hh_I a3, hh_R 126] σ5 (fun r22 σ22 => (¬ r22 = 0 → ∃ n, hh_lp2 (B_X11_partsBeyond_36 d Q) n 0 0 σ22) ∧ (r22 = 0 → Q 0 σ22)))
set_option maxRecDepth 20000 in
theorem w_X11_partsBeyond_67 {d : Nat} {Q : Int → hh_S → Prop} {k36 : Int → Int → hh_S → Prop} (hk36 : ∀ (x4 x5 : Int) (σ : hh_S), k36 x4 x5 σ → hh_J (d + 1) hm_X11_partsBeyond 36 [some (hh_R 0), none, none, none, some (hh_I x4), some (hh_I x5)] [] σ Q) (x4 x5 : Int) (σ : hh_S) (h : B_X11_partsBeyond_67 d Q k36 x4 x5 σ) : hh_J (d + 1) hm_X11_partsBeyond 67 [some (hh_R 0), none, none, none, some (hh_I x4), some (hh_I x5)] [] σ Q := by
  unfold B_X11_partsBeyond_67 at h
  obtain ⟨q1, h⟩ := h
  refine hh_iinc dX11_partsBeyond_67 (by decide) rfl rfl q1 ?_
  refine hh_goto (tgt := 36) dX11_partsBeyond_70 (by decide) ?_
  exact hh_forget [true, false, false, false, true, true] (hk36 _ _ _ h)
set_option maxRecDepth 20000 in
theorem w_X11_partsBeyond_36 {d : Nat} {Q : Int → hh_S → Prop} {k36 : Int → Int → hh_S → Prop} (hk36 : ∀ (x4 x5 : Int) (σ : hh_S), k36 x4 x5 σ → hh_J (d + 1) hm_X11_partsBeyond 36 [some (hh_R 0), none, none, none, some (hh_I x4), some (hh_I x5)] [] σ Q) (x4 x5 : Int) (σ : hh_S) (h : B_X11_partsBeyond_36 d Q k36 x4 x5 σ) : hh_J (d + 1) hm_X11_partsBeyond 36 [some (hh_R 0), none, none, none, some (hh_I x4), some (hh_I x5)] [] σ Q := by
  unfold B_X11_partsBeyond_36 at h
  refine hh_iload dX11_partsBeyond_36 rfl ?_
  refine hh_sipush dX11_partsBeyond_38 (by decide) ?_
  refine hh_icmp_ge (tgt := 73) dX11_partsBeyond_41 (by decide) (fun c => ?_) (fun c => ?_)
  · replace h := h.1 c
    refine hh_iload dX11_partsBeyond_73 rfl ?_
    exact hh_ireturn dX11_partsBeyond_75 rfl h
  · replace h := h.2 c
    obtain ⟨q1, h⟩ := h
    refine hh_aload_n dX11_partsBeyond_44 rfl ?_
    refine hh_getR dX11_partsBeyond_45 kf_X11_61 rf_0_10 ?_
    refine hh_iload dX11_partsBeyond_48 rfl ?_
    refine hh_iald dX11_partsBeyond_50 ra_125 q1 rfl ?_
    refine hh_if_le (tgt := 67) dX11_partsBeyond_51 (by decide) (fun c => ?_) (fun c => ?_)
    · replace h := h.1 c
      exact hh_forget [true, false, false, false, true, true] (w_X11_partsBeyond_67 hk36 _ _ _ h)
    · replace h := h.2 c
      obtain ⟨q1, h⟩ := h
      refine hh_aload_n dX11_partsBeyond_54 rfl ?_
      refine hh_getR dX11_partsBeyond_55 kf_X11_64 rf_0_11 ?_
      refine hh_iload dX11_partsBeyond_58 rfl ?_
      refine hh_iald dX11_partsBeyond_60 ra_126 q1 rfl ?_
      refine hh_if_ne (tgt := 67) dX11_partsBeyond_61 (by decide) (fun c => ?_) (fun c => ?_)
      · replace h := h.1 c
        exact hh_forget [true, false, false, false, true, true] (w_X11_partsBeyond_67 hk36 _ _ _ h)
      · replace h := h.2 c
        obtain ⟨q1, h⟩ := h
        refine hh_iinc dX11_partsBeyond_64 (by decide) rfl rfl q1 ?_
        exact hh_forget [true, false, false, false, true, true] (w_X11_partsBeyond_67 hk36 _ _ _ h)
theorem l_X11_partsBeyond_36 {d : Nat} {Q : Int → hh_S → Prop} : ∀ (n : Nat) (x4 x5 : Int) (σ : hh_S), hh_lp2 (B_X11_partsBeyond_36 d Q) n x4 x5 σ → hh_J (d + 1) hm_X11_partsBeyond 36 [some (hh_R 0), none, none, none, some (hh_I x4), some (hh_I x5)] [] σ Q := by
  intro n
  induction n with
  | zero => intro _ _ _ h; exact h.elim
  | succ n ih => intro x4 x5 σ h; exact w_X11_partsBeyond_36 ih x4 x5 σ h
set_option maxRecDepth 20000 in
theorem w_X11_partsBeyond {d : Nat} {a1 a2 a3 : Int} {σ : hh_S} {Q : Int → hh_S → Prop} (h : P_X11_partsBeyond d a1 a2 a3 σ Q) : hh_J (d + 1) hm_X11_partsBeyond 0 [some (hh_R 0), some (hh_I a1), some (hh_I a2), some (hh_I a3), none, none] [] σ Q := by
  unfold P_X11_partsBeyond at h
  refine hh_aload_n dX11_partsBeyond_0 rfl ?_
  refine hh_getR dX11_partsBeyond_1 kf_X11_64 rf_0_11 ?_
  refine hh_iconst dX11_partsBeyond_4 (by decide) ?_
  refine hh_cS2 dX11_partsBeyond_5 lk_X11_224 mo_J7_fill_53178 (Nat.le_of_ble_eq_true rfl) h (fun _ σ5 h => ?_)
  refine hh_aload_n dX11_partsBeyond_8 rfl ?_
  refine hh_getR dX11_partsBeyond_9 kf_X11_10 rf_0_0 ?_
  refine hh_getR dX11_partsBeyond_12 kf_X11_212 rf_1_4 ?_
  refine hh_iload_n dX11_partsBeyond_15 rfl ?_
  refine hh_iload_n dX11_partsBeyond_16 rfl ?_
  refine hh_iload_n dX11_partsBeyond_17 rfl ?_
  refine hh_aload_n dX11_partsBeyond_18 rfl ?_
  refine hh_getR dX11_partsBeyond_19 kf_X11_64 rf_0_11 ?_
  refine hh_cV4 dX11_partsBeyond_22 lk_X11_404 mo_X2_layOut rc_36 (Nat.le_of_ble_eq_true rfl) h (fun r22 σ22 h => ?_)
  refine hh_if_ne (tgt := 30) dX11_partsBeyond_25 (by decide) (fun c => ?_) (fun c => ?_)
  · replace h := h.1 c
    refine hh_iconst dX11_partsBeyond_30 (by decide) ?_
    refine hh_istore dX11_partsBeyond_31 (by decide) rfl ?_
    refine hh_iconst dX11_partsBeyond_33 (by decide) ?_
    refine hh_istore dX11_partsBeyond_34 (by decide) rfl ?_
    obtain ⟨n, h⟩ := h
    exact hh_forget [true, false, false, false, true, true] (l_X11_partsBeyond_36 n _ _ _ h)
  · replace h := h.2 c
    refine hh_iconst dX11_partsBeyond_28 (by decide) ?_
    exact hh_ireturn dX11_partsBeyond_29 rfl h
theorem wp_X11_partsBeyond {d : Nat} (a1 a2 a3 : Int) {σ : hh_S} {Q : Int → hh_S → Prop} (h : hh_cs σ → hh_can a1 → hh_can a2 → hh_can a3 → P_X11_partsBeyond d a1 a2 a3 σ Q) : hh_Sp (d + 1) hm_X11_partsBeyond [hh_R 0, hh_I a1, hh_I a2, hh_I a3] σ Q :=
  hh_entry rfl (Nat.le_of_ble_eq_true rfl) rfl (fun hs hc => w_X11_partsBeyond (h hs (hc _ (List.mem_of_getElem? (i := 1) rfl)) (hc _ (List.mem_of_getElem? (i := 2) rfl)) (hc _ (List.mem_of_getElem? (i := 3) rfl))))
def B_X11_partsInTwo_24 (d : Nat) (Q : Int → hh_S → Prop) (k4 : Int → Int → hh_S → Prop) (x1 x2 : Int) (σ : hh_S) : Prop :=
  ((-2147483648 ≤ x2 + 1 ∧ x2 + 1 ≤ 2147483647)) ∧ (k4 x1 (x2 + 1) σ)
def B_X11_partsInTwo_4 (d : Nat) (Q : Int → hh_S → Prop) (k4 : Int → Int → hh_S → Prop) (x1 x2 : Int) (σ : hh_S) : Prop :=
  (240 ≤ x2 → Q x1 σ) ∧ (¬ 240 ≤ x2 → ((0 ≤ x2 ∧ x2 < 240)) ∧ ((σ 125 x2 ≤ 1 → B_X11_partsInTwo_24 d Q k4 x1 x2 σ) ∧ (¬ σ 125 x2 ≤ 1 → ((-2147483648 ≤ x1 + 1 ∧ x1 + 1 ≤ 2147483647)) ∧ (B_X11_partsInTwo_24 d Q k4 (x1 + 1) x2 σ))))
def P_X11_partsInTwo (d : Nat) (σ : hh_S) (Q : Int → hh_S → Prop) : Prop :=
  ∃ n, hh_lp2 (B_X11_partsInTwo_4 d Q) n 0 0 σ
set_option maxRecDepth 20000 in
theorem w_X11_partsInTwo_24 {d : Nat} {Q : Int → hh_S → Prop} {k4 : Int → Int → hh_S → Prop} (hk4 : ∀ (x1 x2 : Int) (σ : hh_S), k4 x1 x2 σ → hh_J (d + 1) hm_X11_partsInTwo 4 [some (hh_R 0), some (hh_I x1), some (hh_I x2)] [] σ Q) (x1 x2 : Int) (σ : hh_S) (h : B_X11_partsInTwo_24 d Q k4 x1 x2 σ) : hh_J (d + 1) hm_X11_partsInTwo 24 [some (hh_R 0), some (hh_I x1), some (hh_I x2)] [] σ Q := by
  unfold B_X11_partsInTwo_24 at h
  obtain ⟨q1, h⟩ := h
  refine hh_iinc dX11_partsInTwo_24 (by decide) rfl rfl q1 ?_
  refine hh_goto (tgt := 4) dX11_partsInTwo_27 (by decide) ?_
  exact hh_forget [true, true, true] (hk4 _ _ _ h)
set_option maxRecDepth 20000 in
theorem w_X11_partsInTwo_4 {d : Nat} {Q : Int → hh_S → Prop} {k4 : Int → Int → hh_S → Prop} (hk4 : ∀ (x1 x2 : Int) (σ : hh_S), k4 x1 x2 σ → hh_J (d + 1) hm_X11_partsInTwo 4 [some (hh_R 0), some (hh_I x1), some (hh_I x2)] [] σ Q) (x1 x2 : Int) (σ : hh_S) (h : B_X11_partsInTwo_4 d Q k4 x1 x2 σ) : hh_J (d + 1) hm_X11_partsInTwo 4 [some (hh_R 0), some (hh_I x1), some (hh_I x2)] [] σ Q := by
  unfold B_X11_partsInTwo_4 at h
  refine hh_iload_n dX11_partsInTwo_4 rfl ?_
  refine hh_sipush dX11_partsInTwo_5 (by decide) ?_
  refine hh_icmp_ge (tgt := 30) dX11_partsInTwo_8 (by decide) (fun c => ?_) (fun c => ?_)
  · replace h := h.1 c
    refine hh_iload_n dX11_partsInTwo_30 rfl ?_
    exact hh_ireturn dX11_partsInTwo_31 rfl h
  · replace h := h.2 c
    obtain ⟨q1, h⟩ := h
    refine hh_aload_n dX11_partsInTwo_11 rfl ?_
    refine hh_getR dX11_partsInTwo_12 kf_X11_61 rf_0_10 ?_
    refine hh_iload_n dX11_partsInTwo_15 rfl ?_
    refine hh_iald dX11_partsInTwo_16 ra_125 q1 rfl ?_
    refine hh_iconst dX11_partsInTwo_17 (by decide) ?_
    refine hh_icmp_le (tgt := 24) dX11_partsInTwo_18 (by decide) (fun c => ?_) (fun c => ?_)
    · replace h := h.1 c
      exact hh_forget [true, true, true] (w_X11_partsInTwo_24 hk4 _ _ _ h)
    · replace h := h.2 c
      obtain ⟨q1, h⟩ := h
      refine hh_iinc dX11_partsInTwo_21 (by decide) rfl rfl q1 ?_
      exact hh_forget [true, true, true] (w_X11_partsInTwo_24 hk4 _ _ _ h)
theorem l_X11_partsInTwo_4 {d : Nat} {Q : Int → hh_S → Prop} : ∀ (n : Nat) (x1 x2 : Int) (σ : hh_S), hh_lp2 (B_X11_partsInTwo_4 d Q) n x1 x2 σ → hh_J (d + 1) hm_X11_partsInTwo 4 [some (hh_R 0), some (hh_I x1), some (hh_I x2)] [] σ Q := by
  intro n
  induction n with
  | zero => intro _ _ _ h; exact h.elim
  | succ n ih => intro x1 x2 σ h; exact w_X11_partsInTwo_4 ih x1 x2 σ h
set_option maxRecDepth 20000 in
theorem w_X11_partsInTwo {d : Nat} {σ : hh_S} {Q : Int → hh_S → Prop} (h : P_X11_partsInTwo d σ Q) : hh_J (d + 1) hm_X11_partsInTwo 0 [some (hh_R 0), none, none] [] σ Q := by
  unfold P_X11_partsInTwo at h
  refine hh_iconst dX11_partsInTwo_0 (by decide) ?_
  refine hh_istore_n dX11_partsInTwo_1 (by decide) rfl ?_
  refine hh_iconst dX11_partsInTwo_2 (by decide) ?_
  refine hh_istore_n dX11_partsInTwo_3 (by decide) rfl ?_
  obtain ⟨n, h⟩ := h
  exact hh_forget [true, true, true] (l_X11_partsInTwo_4 n _ _ _ h)
theorem wp_X11_partsInTwo {d : Nat} {σ : hh_S} {Q : Int → hh_S → Prop} (h : hh_cs σ → P_X11_partsInTwo d σ Q) : hh_Sp (d + 1) hm_X11_partsInTwo [hh_R 0] σ Q :=
  hh_entry rfl (Nat.le_of_ble_eq_true rfl) rfl (fun hs hc => w_X11_partsInTwo (h hs))
def P_X11_written (d : Nat) (a1 a2 a3 a4 : Int) (σ : hh_S) (Q : Int → hh_S → Prop) : Prop :=
  hh_Sp d hm_X6_has [hh_R 2, hh_I a1] σ (fun r8 σ8 => (r8 = 0 → Q (-1000000001) σ8) ∧ (¬ r8 = 0 → hh_Sp d hm_X11_isPast [hh_R 0, hh_I a2] σ8 (fun r16 σ16 => (r16 = 0 → Q (-1000000001) σ16) ∧ (¬ r16 = 0 → hh_Sp d hm_X11_isPast [hh_R 0, hh_I a3] σ16 (fun r24 σ24 => (r24 = 0 → Q (-1000000001) σ24) ∧ (¬ r24 = 0 → hh_Sp d hm_X11_within [hh_I a4, hh_I 0, hh_I 3] σ24 (fun r34 σ34 => (¬ r34 = 0 → hh_Sp d hm_J7_fill_53178 [hh_R 125, hh_I 0] σ34 (fun _ σ48 => hh_Sp d hm_X3_layOut [hh_R 24, hh_I a1, hh_I a2, hh_I a3, hh_R 125] σ48 (fun r65 σ65 => (a4 < 0 ∨ 2 < a4 → hh_Sp d hm_X11_partsBeyond [hh_R 0, hh_I a1, hh_I a2, hh_I a3] σ65 (fun r129 σ129 => Q r129 σ129)) ∧ (a4 = 0 → Q r65 σ65) ∧ (a4 = 1 → ((-2147483648 ≤ r65 - (σ65 54 0) ∧ r65 - (σ65 54 0) ≤ 2147483647)) ∧ (Q (hh_max 0 (r65 - (σ65 54 0))) σ65)) ∧ (a4 = 2 → hh_Sp d hm_X11_partsInTwo [hh_R 0] σ65 (fun r121 σ121 => Q r121 σ121))))) ∧ (r34 = 0 → Q (-1000000001) σ34))))))))
set_option maxRecDepth 20000 in
theorem w_X11_written {d : Nat} {a1 a2 a3 a4 : Int} {σ : hh_S} {Q : Int → hh_S → Prop} (h : P_X11_written d a1 a2 a3 a4 σ Q) : hh_J (d + 1) hm_X11_written 0 [some (hh_R 0), some (hh_I a1), some (hh_I a2), some (hh_I a3), some (hh_I a4), none] [] σ Q := by
  unfold P_X11_written at h
  refine hh_aload_n dX11_written_0 rfl ?_
  refine hh_getR dX11_written_1 kf_X11_10 rf_0_0 ?_
  refine hh_getR dX11_written_4 kf_X11_75 rf_1_0 ?_
  refine hh_iload_n dX11_written_7 rfl ?_
  refine hh_cV1 dX11_written_8 lk_X11_94 mo_X6_has rc_2 (Nat.le_of_ble_eq_true rfl) h (fun r8 σ8 h => ?_)
  refine hh_if_eq (tgt := 40) dX11_written_11 (by decide) (fun c => ?_) (fun c => ?_)
  · replace h := h.1 c
    refine hh_ldc (n := -1000000001) dX11_written_40 kc_X11_74 (by decide) ?_
    exact hh_ireturn dX11_written_42 rfl h
  · replace h := h.2 c
    refine hh_aload_n dX11_written_14 rfl ?_
    refine hh_iload_n dX11_written_15 rfl ?_
    refine hh_cV1 dX11_written_16 lk_X11_164 mo_X11_isPast rc_0 (Nat.le_of_ble_eq_true rfl) h (fun r16 σ16 h => ?_)
    refine hh_if_eq (tgt := 40) dX11_written_19 (by decide) (fun c => ?_) (fun c => ?_)
    · replace h := h.1 c
      refine hh_ldc (n := -1000000001) dX11_written_40 kc_X11_74 (by decide) ?_
      exact hh_ireturn dX11_written_42 rfl h
    · replace h := h.2 c
      refine hh_aload_n dX11_written_22 rfl ?_
      refine hh_iload_n dX11_written_23 rfl ?_
      refine hh_cV1 dX11_written_24 lk_X11_164 mo_X11_isPast rc_0 (Nat.le_of_ble_eq_true rfl) h (fun r24 σ24 h => ?_)
      refine hh_if_eq (tgt := 40) dX11_written_27 (by decide) (fun c => ?_) (fun c => ?_)
      · replace h := h.1 c
        refine hh_ldc (n := -1000000001) dX11_written_40 kc_X11_74 (by decide) ?_
        exact hh_ireturn dX11_written_42 rfl h
      · replace h := h.2 c
        refine hh_iload dX11_written_30 rfl ?_
        refine hh_iconst dX11_written_32 (by decide) ?_
        refine hh_iconst dX11_written_33 (by decide) ?_
        refine hh_cS3 dX11_written_34 lk_X11_70 mo_X11_within (Nat.le_of_ble_eq_true rfl) h (fun r34 σ34 h => ?_)
        refine hh_if_ne (tgt := 43) dX11_written_37 (by decide) (fun c => ?_) (fun c => ?_)
        · replace h := h.1 c
          refine hh_aload_n dX11_written_43 rfl ?_
          refine hh_getR dX11_written_44 kf_X11_61 rf_0_10 ?_
          refine hh_iconst dX11_written_47 (by decide) ?_
          refine hh_cS2 dX11_written_48 lk_X11_224 mo_J7_fill_53178 (Nat.le_of_ble_eq_true rfl) h (fun _ σ48 h => ?_)
          refine hh_aload_n dX11_written_51 rfl ?_
          refine hh_getR dX11_written_52 kf_X11_10 rf_0_0 ?_
          refine hh_getR dX11_written_55 kf_X11_173 rf_1_3 ?_
          refine hh_iload_n dX11_written_58 rfl ?_
          refine hh_iload_n dX11_written_59 rfl ?_
          refine hh_iload_n dX11_written_60 rfl ?_
          refine hh_aload_n dX11_written_61 rfl ?_
          refine hh_getR dX11_written_62 kf_X11_61 rf_0_10 ?_
          refine hh_cV4 dX11_written_65 lk_X11_230 mo_X3_layOut rc_24 (Nat.le_of_ble_eq_true rfl) h (fun r65 σ65 h => ?_)
          refine hh_istore dX11_written_68 (by decide) rfl ?_
          refine hh_iload dX11_written_70 rfl ?_
          refine hh_table dX11_written_72 (fun tgt ht c => ?_) ⟨125, by decide⟩ (fun c1 c2 => ?_)
          · obtain rfl : tgt = 125 := by omega
            replace h := h.1 c
            refine hh_aload_n dX11_written_125 rfl ?_
            refine hh_iload_n dX11_written_126 rfl ?_
            refine hh_iload_n dX11_written_127 rfl ?_
            refine hh_iload_n dX11_written_128 rfl ?_
            refine hh_cV3 dX11_written_129 lk_X11_244 mo_X11_partsBeyond rc_0 (Nat.le_of_ble_eq_true rfl) h (fun r129 σ129 h => ?_)
            exact hh_ireturn dX11_written_132 rfl h
          · rcases (show a4 = 0 ∨ a4 = 1 ∨ a4 = 2 by omega) with c | c | c
            · refine ⟨28, 100, by rw [c]; rfl, by decide, ?_⟩
              replace h := h.2.1 c
              refine hh_iload dX11_written_100 rfl ?_
              exact hh_ireturn dX11_written_102 rfl h
            · refine ⟨31, 103, by rw [c]; rfl, by decide, ?_⟩
              replace h := h.2.2.1 c
              obtain ⟨q1, h⟩ := h
              refine hh_iconst dX11_written_103 (by decide) ?_
              refine hh_iload dX11_written_104 rfl ?_
              refine hh_aload_n dX11_written_106 rfl ?_
              refine hh_getR dX11_written_107 kf_X11_10 rf_0_0 ?_
              refine hh_getR dX11_written_110 kf_X11_161 rf_1_7 ?_
              refine hh_iconst dX11_written_113 (by decide) ?_
              refine hh_iald dX11_written_114 ra_54 (by decide) rfl ?_
              refine hh_isub dX11_written_115 q1 ?_
              refine hh_mmax dX11_written_116 km_X11_234 (Nat.le_of_ble_eq_true rfl) ?_
              exact hh_ireturn dX11_written_119 rfl h
            · refine ⟨48, 120, by rw [c]; rfl, by decide, ?_⟩
              replace h := h.2.2.2 c
              refine hh_aload_n dX11_written_120 rfl ?_
              refine hh_cV0 dX11_written_121 lk_X11_240 mo_X11_partsInTwo rc_0 (Nat.le_of_ble_eq_true rfl) h (fun r121 σ121 h => ?_)
              exact hh_ireturn dX11_written_124 rfl h
        · replace h := h.2 c
          refine hh_ldc (n := -1000000001) dX11_written_40 kc_X11_74 (by decide) ?_
          exact hh_ireturn dX11_written_42 rfl h
theorem wp_X11_written {d : Nat} (a1 a2 a3 a4 : Int) {σ : hh_S} {Q : Int → hh_S → Prop} (h : hh_cs σ → hh_can a1 → hh_can a2 → hh_can a3 → hh_can a4 → P_X11_written d a1 a2 a3 a4 σ Q) : hh_Sp (d + 1) hm_X11_written [hh_R 0, hh_I a1, hh_I a2, hh_I a3, hh_I a4] σ Q :=
  hh_entry rfl (Nat.le_of_ble_eq_true rfl) rfl (fun hs hc => w_X11_written (h hs (hc _ (List.mem_of_getElem? (i := 1) rfl)) (hc _ (List.mem_of_getElem? (i := 2) rfl)) (hc _ (List.mem_of_getElem? (i := 3) rfl)) (hc _ (List.mem_of_getElem? (i := 4) rfl))))
def P_X11_told (d : Nat) (a1 a2 : Int) (σ : hh_S) (Q : Int → hh_S → Prop) : Prop :=
  hh_Sp d hm_X3_has [hh_R 24, hh_I a1] σ (fun r10 σ10 => (¬ r10 = 0 → (a2 < 0 ∨ 10 < a2 → Q (-1000000001) σ10) ∧ (a2 = 0 → ((0 ≤ a1 ∧ a1 < 90)) ∧ (Q (σ10 25 a1) σ10)) ∧ (a2 = 1 → ((0 ≤ a1 ∧ a1 < 90)) ∧ (Q (σ10 26 a1) σ10)) ∧ (a2 = 2 → ((0 ≤ a1 ∧ a1 < 90)) ∧ (Q (σ10 27 a1) σ10)) ∧ (a2 = 3 → ((0 ≤ a1 ∧ a1 < 90)) ∧ (Q (σ10 28 a1) σ10)) ∧ (a2 = 4 → ((0 ≤ a1 ∧ a1 < 90)) ∧ (Q (σ10 29 a1) σ10)) ∧ (a2 = 5 → ((0 ≤ a1 ∧ a1 < 90)) ∧ (Q (σ10 30 a1) σ10)) ∧ (a2 = 6 → ((0 ≤ a1 ∧ a1 < 90)) ∧ (Q (σ10 31 a1) σ10)) ∧ (a2 = 7 → ((0 ≤ a1 ∧ a1 < 90)) ∧ (Q (σ10 32 a1) σ10)) ∧ (a2 = 8 → ((0 ≤ a1 ∧ a1 < 90)) ∧ (Q (σ10 33 a1) σ10)) ∧ (a2 = 9 → ((0 ≤ a1 ∧ a1 < 90)) ∧ (Q (σ10 34 a1) σ10)) ∧ (a2 = 10 → ((0 ≤ a1 ∧ a1 < 90)) ∧ (Q (σ10 35 a1) σ10))) ∧ (r10 = 0 → Q (-1000000001) σ10))
set_option maxRecDepth 20000 in
theorem w_X11_told {d : Nat} {a1 a2 : Int} {σ : hh_S} {Q : Int → hh_S → Prop} (h : P_X11_told d a1 a2 σ Q) : hh_J (d + 1) hm_X11_told 0 [some (hh_R 0), some (hh_I a1), some (hh_I a2), none] [] σ Q := by
  unfold P_X11_told at h
  refine hh_aload_n dX11_told_0 rfl ?_
  refine hh_getR dX11_told_1 kf_X11_10 rf_0_0 ?_
  refine hh_getR dX11_told_4 kf_X11_173 rf_1_3 ?_
  refine hh_astore_n dX11_told_7 (by decide) rfl ?_
  refine hh_aload_n dX11_told_8 rfl ?_
  refine hh_iload_n dX11_told_9 rfl ?_
  refine hh_cV1 dX11_told_10 lk_X11_211 mo_X3_has rc_24 (Nat.le_of_ble_eq_true rfl) h (fun r10 σ10 h => ?_)
  refine hh_if_ne (tgt := 19) dX11_told_13 (by decide) (fun c => ?_) (fun c => ?_)
  · replace h := h.1 c
    refine hh_iload_n dX11_told_19 rfl ?_
    refine hh_table dX11_told_20 (fun tgt ht c => ?_) ⟨157, by decide⟩ (fun c1 c2 => ?_)
    · obtain rfl : tgt = 157 := by omega
      replace h := h.1 c
      refine hh_ldc (n := -1000000001) dX11_told_157 kc_X11_74 (by decide) ?_
      exact hh_ireturn dX11_told_159 rfl h
    · rcases (show a2 = 0 ∨ a2 = 1 ∨ a2 = 2 ∨ a2 = 3 ∨ a2 = 4 ∨ a2 = 5 ∨ a2 = 6 ∨ a2 = 7 ∨ a2 = 8 ∨ a2 = 9 ∨ a2 = 10 by omega) with c | c | c | c | c | c | c | c | c | c | c
      · refine ⟨60, 80, by rw [c]; rfl, by decide, ?_⟩
        replace h := h.2.1 c
        obtain ⟨q1, h⟩ := h
        refine hh_aload_n dX11_told_80 rfl ?_
        refine hh_getR dX11_told_81 kf_X11_180 rf_24_1 ?_
        refine hh_iload_n dX11_told_84 rfl ?_
        refine hh_iald dX11_told_85 ra_25 q1 rfl ?_
        exact hh_ireturn dX11_told_86 rfl h
      · refine ⟨67, 87, by rw [c]; rfl, by decide, ?_⟩
        replace h := h.2.2.1 c
        obtain ⟨q1, h⟩ := h
        refine hh_aload_n dX11_told_87 rfl ?_
        refine hh_getR dX11_told_88 kf_X11_183 rf_24_2 ?_
        refine hh_iload_n dX11_told_91 rfl ?_
        refine hh_iald dX11_told_92 ra_26 q1 rfl ?_
        exact hh_ireturn dX11_told_93 rfl h
      · refine ⟨74, 94, by rw [c]; rfl, by decide, ?_⟩
        replace h := h.2.2.2.1 c
        obtain ⟨q1, h⟩ := h
        refine hh_aload_n dX11_told_94 rfl ?_
        refine hh_getR dX11_told_95 kf_X11_185 rf_24_3 ?_
        refine hh_iload_n dX11_told_98 rfl ?_
        refine hh_iald dX11_told_99 ra_27 q1 rfl ?_
        exact hh_ireturn dX11_told_100 rfl h
      · refine ⟨81, 101, by rw [c]; rfl, by decide, ?_⟩
        replace h := h.2.2.2.2.1 c
        obtain ⟨q1, h⟩ := h
        refine hh_aload_n dX11_told_101 rfl ?_
        refine hh_getR dX11_told_102 kf_X11_188 rf_24_4 ?_
        refine hh_iload_n dX11_told_105 rfl ?_
        refine hh_iald dX11_told_106 ra_28 q1 rfl ?_
        exact hh_ireturn dX11_told_107 rfl h
      · refine ⟨88, 108, by rw [c]; rfl, by decide, ?_⟩
        replace h := h.2.2.2.2.2.1 c
        obtain ⟨q1, h⟩ := h
        refine hh_aload_n dX11_told_108 rfl ?_
        refine hh_getR dX11_told_109 kf_X11_191 rf_24_5 ?_
        refine hh_iload_n dX11_told_112 rfl ?_
        refine hh_iald dX11_told_113 ra_29 q1 rfl ?_
        exact hh_ireturn dX11_told_114 rfl h
      · refine ⟨95, 115, by rw [c]; rfl, by decide, ?_⟩
        replace h := h.2.2.2.2.2.2.1 c
        obtain ⟨q1, h⟩ := h
        refine hh_aload_n dX11_told_115 rfl ?_
        refine hh_getR dX11_told_116 kf_X11_194 rf_24_6 ?_
        refine hh_iload_n dX11_told_119 rfl ?_
        refine hh_iald dX11_told_120 ra_30 q1 rfl ?_
        exact hh_ireturn dX11_told_121 rfl h
      · refine ⟨102, 122, by rw [c]; rfl, by decide, ?_⟩
        replace h := h.2.2.2.2.2.2.2.1 c
        obtain ⟨q1, h⟩ := h
        refine hh_aload_n dX11_told_122 rfl ?_
        refine hh_getR dX11_told_123 kf_X11_197 rf_24_7 ?_
        refine hh_iload_n dX11_told_126 rfl ?_
        refine hh_iald dX11_told_127 ra_31 q1 rfl ?_
        exact hh_ireturn dX11_told_128 rfl h
      · refine ⟨109, 129, by rw [c]; rfl, by decide, ?_⟩
        replace h := h.2.2.2.2.2.2.2.2.1 c
        obtain ⟨q1, h⟩ := h
        refine hh_aload_n dX11_told_129 rfl ?_
        refine hh_getR dX11_told_130 kf_X11_200 rf_24_8 ?_
        refine hh_iload_n dX11_told_133 rfl ?_
        refine hh_iald dX11_told_134 ra_32 q1 rfl ?_
        exact hh_ireturn dX11_told_135 rfl h
      · refine ⟨116, 136, by rw [c]; rfl, by decide, ?_⟩
        replace h := h.2.2.2.2.2.2.2.2.2.1 c
        obtain ⟨q1, h⟩ := h
        refine hh_aload_n dX11_told_136 rfl ?_
        refine hh_getR dX11_told_137 kf_X11_203 rf_24_9 ?_
        refine hh_iload_n dX11_told_140 rfl ?_
        refine hh_iald dX11_told_141 ra_33 q1 rfl ?_
        exact hh_ireturn dX11_told_142 rfl h
      · refine ⟨123, 143, by rw [c]; rfl, by decide, ?_⟩
        replace h := h.2.2.2.2.2.2.2.2.2.2.1 c
        obtain ⟨q1, h⟩ := h
        refine hh_aload_n dX11_told_143 rfl ?_
        refine hh_getR dX11_told_144 kf_X11_205 rf_24_10 ?_
        refine hh_iload_n dX11_told_147 rfl ?_
        refine hh_iald dX11_told_148 ra_34 q1 rfl ?_
        exact hh_ireturn dX11_told_149 rfl h
      · refine ⟨130, 150, by rw [c]; rfl, by decide, ?_⟩
        replace h := h.2.2.2.2.2.2.2.2.2.2.2 c
        obtain ⟨q1, h⟩ := h
        refine hh_aload_n dX11_told_150 rfl ?_
        refine hh_getR dX11_told_151 kf_X11_208 rf_24_11 ?_
        refine hh_iload_n dX11_told_154 rfl ?_
        refine hh_iald dX11_told_155 ra_35 q1 rfl ?_
        exact hh_ireturn dX11_told_156 rfl h
  · replace h := h.2 c
    refine hh_ldc (n := -1000000001) dX11_told_16 kc_X11_74 (by decide) ?_
    exact hh_ireturn dX11_told_18 rfl h
theorem wp_X11_told {d : Nat} (a1 a2 : Int) {σ : hh_S} {Q : Int → hh_S → Prop} (h : hh_cs σ → hh_can a1 → hh_can a2 → P_X11_told d a1 a2 σ Q) : hh_Sp (d + 1) hm_X11_told [hh_R 0, hh_I a1, hh_I a2] σ Q :=
  hh_entry rfl (Nat.le_of_ble_eq_true rfl) rfl (fun hs hc => w_X11_told (h hs (hc _ (List.mem_of_getElem? (i := 1) rfl)) (hc _ (List.mem_of_getElem? (i := 2) rfl))))
def P_X11_worth (d : Nat) (a1 a2 a3 : Int) (σ : hh_S) (Q : Int → hh_S → Prop) : Prop :=
  hh_Sp d hm_X3_has [hh_R 24, hh_I a1] σ (fun r8 σ8 => (r8 = 0 → Q (-1000000001) σ8) ∧ (¬ r8 = 0 → hh_Sp d hm_X11_isPast [hh_R 0, hh_I a2] σ8 (fun r16 σ16 => (r16 = 0 → Q (-1000000001) σ16) ∧ (¬ r16 = 0 → hh_Sp d hm_X11_within [hh_I a3, hh_I 0, hh_I 3] σ16 (fun r25 σ25 => (¬ r25 = 0 → hh_Sp d hm_X3_isKnown [hh_R 24, hh_I a1, hh_I a2] σ25 (fun r43 σ43 => (¬ r43 = 0 → (a3 < 0 ∨ 2 < a3 → ((0 ≤ a1 ∧ a1 < 90)) ∧ (hh_Sp d hm_X10_chargeMatter [hh_R 112, hh_I (σ43 26 a1), hh_I a2] σ43 (fun r127 σ127 => ((0 ≤ a1 ∧ a1 < 90)) ∧ (Q (σ127 116 a1) σ127)))) ∧ (a3 = 0 → hh_Sp d hm_X10_countedOf [hh_R 112, hh_I a1, hh_I a2] σ43 (fun r86 σ86 => Q r86 σ86)) ∧ (a3 = 1 → hh_Sp d hm_X10_atOf [hh_R 112, hh_I a1, hh_I a2] σ43 (fun r96 σ96 => Q r96 σ96)) ∧ (a3 = 2 → hh_Sp d hm_X10_worthOf [hh_R 112, hh_I a1, hh_I a2] σ43 (fun r106 σ106 => Q r106 σ106))) ∧ (r43 = 0 → Q (-1000000002) σ43))) ∧ (r25 = 0 → Q (-1000000001) σ25))))))
set_option maxRecDepth 20000 in
theorem w_X11_worth {d : Nat} {a1 a2 a3 : Int} {σ : hh_S} {Q : Int → hh_S → Prop} (h : P_X11_worth d a1 a2 a3 σ Q) : hh_J (d + 1) hm_X11_worth 0 [some (hh_R 0), some (hh_I a1), some (hh_I a2), some (hh_I a3)] [] σ Q := by
  unfold P_X11_worth at h
  refine hh_aload_n dX11_worth_0 rfl ?_
  refine hh_getR dX11_worth_1 kf_X11_10 rf_0_0 ?_
  refine hh_getR dX11_worth_4 kf_X11_173 rf_1_3 ?_
  refine hh_iload_n dX11_worth_7 rfl ?_
  refine hh_cV1 dX11_worth_8 lk_X11_211 mo_X3_has rc_24 (Nat.le_of_ble_eq_true rfl) h (fun r8 σ8 h => ?_)
  refine hh_if_eq (tgt := 31) dX11_worth_11 (by decide) (fun c => ?_) (fun c => ?_)
  · replace h := h.1 c
    refine hh_ldc (n := -1000000001) dX11_worth_31 kc_X11_74 (by decide) ?_
    exact hh_ireturn dX11_worth_33 rfl h
  · replace h := h.2 c
    refine hh_aload_n dX11_worth_14 rfl ?_
    refine hh_iload_n dX11_worth_15 rfl ?_
    refine hh_cV1 dX11_worth_16 lk_X11_164 mo_X11_isPast rc_0 (Nat.le_of_ble_eq_true rfl) h (fun r16 σ16 h => ?_)
    refine hh_if_eq (tgt := 31) dX11_worth_19 (by decide) (fun c => ?_) (fun c => ?_)
    · replace h := h.1 c
      refine hh_ldc (n := -1000000001) dX11_worth_31 kc_X11_74 (by decide) ?_
      exact hh_ireturn dX11_worth_33 rfl h
    · replace h := h.2 c
      refine hh_iload_n dX11_worth_22 rfl ?_
      refine hh_iconst dX11_worth_23 (by decide) ?_
      refine hh_iconst dX11_worth_24 (by decide) ?_
      refine hh_cS3 dX11_worth_25 lk_X11_70 mo_X11_within (Nat.le_of_ble_eq_true rfl) h (fun r25 σ25 h => ?_)
      refine hh_if_ne (tgt := 34) dX11_worth_28 (by decide) (fun c => ?_) (fun c => ?_)
      · replace h := h.1 c
        refine hh_aload_n dX11_worth_34 rfl ?_
        refine hh_getR dX11_worth_35 kf_X11_10 rf_0_0 ?_
        refine hh_getR dX11_worth_38 kf_X11_173 rf_1_3 ?_
        refine hh_iload_n dX11_worth_41 rfl ?_
        refine hh_iload_n dX11_worth_42 rfl ?_
        refine hh_cV2 dX11_worth_43 lk_X11_247 mo_X3_isKnown rc_24 (Nat.le_of_ble_eq_true rfl) h (fun r43 σ43 h => ?_)
        refine hh_if_ne (tgt := 52) dX11_worth_46 (by decide) (fun c => ?_) (fun c => ?_)
        · replace h := h.1 c
          refine hh_iload_n dX11_worth_52 rfl ?_
          refine hh_table dX11_worth_53 (fun tgt ht c => ?_) ⟨110, by decide⟩ (fun c1 c2 => ?_)
          · obtain rfl : tgt = 110 := by omega
            replace h := h.1 c
            obtain ⟨q1, h⟩ := h
            refine hh_aload_n dX11_worth_110 rfl ?_
            refine hh_getR dX11_worth_111 kf_X11_35 rf_0_4 ?_
            refine hh_aload_n dX11_worth_114 rfl ?_
            refine hh_getR dX11_worth_115 kf_X11_10 rf_0_0 ?_
            refine hh_getR dX11_worth_118 kf_X11_173 rf_1_3 ?_
            refine hh_getR dX11_worth_121 kf_X11_183 rf_24_2 ?_
            refine hh_iload_n dX11_worth_124 rfl ?_
            refine hh_iald dX11_worth_125 ra_26 q1 rfl ?_
            refine hh_iload_n dX11_worth_126 rfl ?_
            refine hh_cV2 dX11_worth_127 lk_X11_259 mo_X10_chargeMatter rc_112 (Nat.le_of_ble_eq_true rfl) h (fun r127 σ127 h => ?_)
            obtain ⟨q1, h⟩ := h
            refine hh_pop dX11_worth_130 (fun _ => rfl) ?_
            refine hh_aload_n dX11_worth_131 rfl ?_
            refine hh_getR dX11_worth_132 kf_X11_35 rf_0_4 ?_
            refine hh_getR dX11_worth_135 kf_X11_262 rf_112_4 ?_
            refine hh_iload_n dX11_worth_138 rfl ?_
            refine hh_iald dX11_worth_139 ra_116 q1 rfl ?_
            exact hh_ireturn dX11_worth_140 rfl h
          · rcases (show a3 = 0 ∨ a3 = 1 ∨ a3 = 2 by omega) with c | c | c
            · refine ⟨27, 80, by rw [c]; rfl, by decide, ?_⟩
              replace h := h.2.1 c
              refine hh_aload_n dX11_worth_80 rfl ?_
              refine hh_getR dX11_worth_81 kf_X11_35 rf_0_4 ?_
              refine hh_iload_n dX11_worth_84 rfl ?_
              refine hh_iload_n dX11_worth_85 rfl ?_
              refine hh_cV2 dX11_worth_86 lk_X11_250 mo_X10_countedOf rc_112 (Nat.le_of_ble_eq_true rfl) h (fun r86 σ86 h => ?_)
              exact hh_ireturn dX11_worth_89 rfl h
            · refine ⟨37, 90, by rw [c]; rfl, by decide, ?_⟩
              replace h := h.2.2.1 c
              refine hh_aload_n dX11_worth_90 rfl ?_
              refine hh_getR dX11_worth_91 kf_X11_35 rf_0_4 ?_
              refine hh_iload_n dX11_worth_94 rfl ?_
              refine hh_iload_n dX11_worth_95 rfl ?_
              refine hh_cV2 dX11_worth_96 lk_X11_253 mo_X10_atOf rc_112 (Nat.le_of_ble_eq_true rfl) h (fun r96 σ96 h => ?_)
              exact hh_ireturn dX11_worth_99 rfl h
            · refine ⟨47, 100, by rw [c]; rfl, by decide, ?_⟩
              replace h := h.2.2.2 c
              refine hh_aload_n dX11_worth_100 rfl ?_
              refine hh_getR dX11_worth_101 kf_X11_35 rf_0_4 ?_
              refine hh_iload_n dX11_worth_104 rfl ?_
              refine hh_iload_n dX11_worth_105 rfl ?_
              refine hh_cV2 dX11_worth_106 lk_X11_256 mo_X10_worthOf rc_112 (Nat.le_of_ble_eq_true rfl) h (fun r106 σ106 h => ?_)
              exact hh_ireturn dX11_worth_109 rfl h
        · replace h := h.2 c
          refine hh_ldc (n := -1000000002) dX11_worth_49 kc_X11_143 (by decide) ?_
          exact hh_ireturn dX11_worth_51 rfl h
      · replace h := h.2 c
        refine hh_ldc (n := -1000000001) dX11_worth_31 kc_X11_74 (by decide) ?_
        exact hh_ireturn dX11_worth_33 rfl h
theorem wp_X11_worth {d : Nat} (a1 a2 a3 : Int) {σ : hh_S} {Q : Int → hh_S → Prop} (h : hh_cs σ → hh_can a1 → hh_can a2 → hh_can a3 → P_X11_worth d a1 a2 a3 σ Q) : hh_Sp (d + 1) hm_X11_worth [hh_R 0, hh_I a1, hh_I a2, hh_I a3] σ Q :=
  hh_entry rfl (Nat.le_of_ble_eq_true rfl) rfl (fun hs hc => w_X11_worth (h hs (hc _ (List.mem_of_getElem? (i := 1) rfl)) (hc _ (List.mem_of_getElem? (i := 2) rfl)) (hc _ (List.mem_of_getElem? (i := 3) rfl))))
def P_X11_feed (d : Nat) (a1 a2 a3 : Int) (σ : hh_S) (Q : Int → hh_S → Prop) : Prop :=
  ((-2147483648 ≤ σ 109 1 + 12 ∧ σ 109 1 + 12 ≤ 2147483647)) ∧ ((σ 109 1 + 12 ≤ 120 → hh_Sp d hm_X8_putFour [hh_R 109, hh_I a1] σ (fun _ σ23 => hh_Sp d hm_X8_putFour [hh_R 109, hh_I a2] σ23 (fun _ σ31 => hh_Sp d hm_X8_putFour [hh_R 109, hh_I a3] σ31 (fun _ σ39 => Q (σ39 109 1) σ39)))) ∧ (¬ σ 109 1 + 12 ≤ 120 → Q (-1000000003) σ))
set_option maxRecDepth 20000 in
theorem w_X11_feed {d : Nat} {a1 a2 a3 : Int} {σ : hh_S} {Q : Int → hh_S → Prop} (h : P_X11_feed d a1 a2 a3 σ Q) : hh_J (d + 1) hm_X11_feed 0 [some (hh_R 0), some (hh_I a1), some (hh_I a2), some (hh_I a3)] [] σ Q := by
  unfold P_X11_feed at h
  obtain ⟨q1, h⟩ := h
  refine hh_aload_n dX11_feed_0 rfl ?_
  refine hh_getR dX11_feed_1 kf_X11_26 rf_0_3 ?_
  refine hh_getI dX11_feed_4 kf_X11_263 rf_109_1 rfl ?_
  refine hh_bipush dX11_feed_7 (by decide) ?_
  refine hh_iadd dX11_feed_9 q1 ?_
  refine hh_bipush dX11_feed_10 (by decide) ?_
  refine hh_icmp_le (tgt := 18) dX11_feed_12 (by decide) (fun c => ?_) (fun c => ?_)
  · replace h := h.1 c
    refine hh_aload_n dX11_feed_18 rfl ?_
    refine hh_getR dX11_feed_19 kf_X11_26 rf_0_3 ?_
    refine hh_iload_n dX11_feed_22 rfl ?_
    refine hh_cV1 dX11_feed_23 lk_X11_264 mo_X8_putFour rc_109 (Nat.le_of_ble_eq_true rfl) h (fun _ σ23 h => ?_)
    refine hh_aload_n dX11_feed_26 rfl ?_
    refine hh_getR dX11_feed_27 kf_X11_26 rf_0_3 ?_
    refine hh_iload_n dX11_feed_30 rfl ?_
    refine hh_cV1 dX11_feed_31 lk_X11_264 mo_X8_putFour rc_109 (Nat.le_of_ble_eq_true rfl) h (fun _ σ31 h => ?_)
    refine hh_aload_n dX11_feed_34 rfl ?_
    refine hh_getR dX11_feed_35 kf_X11_26 rf_0_3 ?_
    refine hh_iload_n dX11_feed_38 rfl ?_
    refine hh_cV1 dX11_feed_39 lk_X11_264 mo_X8_putFour rc_109 (Nat.le_of_ble_eq_true rfl) h (fun _ σ39 h => ?_)
    refine hh_aload_n dX11_feed_42 rfl ?_
    refine hh_getR dX11_feed_43 kf_X11_26 rf_0_3 ?_
    refine hh_getI dX11_feed_46 kf_X11_263 rf_109_1 rfl ?_
    exact hh_ireturn dX11_feed_49 rfl h
  · replace h := h.2 c
    refine hh_ldc (n := -1000000003) dX11_feed_15 kc_X11_84 (by decide) ?_
    exact hh_ireturn dX11_feed_17 rfl h
theorem wp_X11_feed {d : Nat} (a1 a2 a3 : Int) {σ : hh_S} {Q : Int → hh_S → Prop} (h : hh_cs σ → hh_can a1 → hh_can a2 → hh_can a3 → P_X11_feed d a1 a2 a3 σ Q) : hh_Sp (d + 1) hm_X11_feed [hh_R 0, hh_I a1, hh_I a2, hh_I a3] σ Q :=
  hh_entry rfl (Nat.le_of_ble_eq_true rfl) rfl (fun hs hc => w_X11_feed (h hs (hc _ (List.mem_of_getElem? (i := 1) rfl)) (hc _ (List.mem_of_getElem? (i := 2) rfl)) (hc _ (List.mem_of_getElem? (i := 3) rfl))))
def P_X11_trim (d : Nat) (a1 : Int) (σ : hh_S) (Q : Int → hh_S → Prop) : Prop :=
  hh_Sp d hm_X11_within [hh_I a1, hh_I 0, hh_I (σ 109 1)] σ (fun r9 σ9 => (¬ r9 = 0 → Q a1 (hh_up σ9 109 1 a1)) ∧ (r9 = 0 → Q (-1000000001) σ9))
set_option maxRecDepth 20000 in
theorem w_X11_trim {d : Nat} {a1 : Int} {σ : hh_S} {Q : Int → hh_S → Prop} (h : P_X11_trim d a1 σ Q) : hh_J (d + 1) hm_X11_trim 0 [some (hh_R 0), some (hh_I a1)] [] σ Q := by
  unfold P_X11_trim at h
  refine hh_iload_n dX11_trim_0 rfl ?_
  refine hh_iconst dX11_trim_1 (by decide) ?_
  refine hh_aload_n dX11_trim_2 rfl ?_
  refine hh_getR dX11_trim_3 kf_X11_26 rf_0_3 ?_
  refine hh_getI dX11_trim_6 kf_X11_263 rf_109_1 rfl ?_
  refine hh_cS3 dX11_trim_9 lk_X11_70 mo_X11_within (Nat.le_of_ble_eq_true rfl) h (fun r9 σ9 h => ?_)
  refine hh_if_ne (tgt := 18) dX11_trim_12 (by decide) (fun c => ?_) (fun c => ?_)
  · replace h := h.1 c
    refine hh_aload_n dX11_trim_18 rfl ?_
    refine hh_getR dX11_trim_19 kf_X11_26 rf_0_3 ?_
    refine hh_iload_n dX11_trim_22 rfl ?_
    refine hh_putI dX11_trim_23 kp_X11_263 rf_109_1 ?_
    refine hh_iload_n dX11_trim_26 rfl ?_
    exact hh_ireturn dX11_trim_27 rfl h
  · replace h := h.2 c
    refine hh_ldc (n := -1000000001) dX11_trim_15 kc_X11_74 (by decide) ?_
    exact hh_ireturn dX11_trim_17 rfl h
theorem wp_X11_trim {d : Nat} (a1 : Int) {σ : hh_S} {Q : Int → hh_S → Prop} (h : hh_cs σ → hh_can a1 → P_X11_trim d a1 σ Q) : hh_Sp (d + 1) hm_X11_trim [hh_R 0, hh_I a1] σ Q :=
  hh_entry rfl (Nat.le_of_ble_eq_true rfl) rfl (fun hs hc => w_X11_trim (h hs (hc _ (List.mem_of_getElem? (i := 1) rfl))))
def B_X11_terms_47 (d : Nat) (Q : Int → hh_S → Prop) (x1 x2 x3 s0 : Int) (σ : hh_S) : Prop :=
  (¬ x3 = 0 → (s0 = (-1000000005) → ((0 ≤ x1 ∧ x1 < 5)) ∧ ((σ 8 x1 < 3 → ((-2147483648 ≤ x1 * 3 ∧ x1 * 3 ≤ 2147483647) ∧ (0 ≤ x1 ∧ x1 < 5) ∧ (-2147483648 ≤ x1 * 3 + (σ 8 x1) ∧ x1 * 3 + (σ 8 x1) ≤ 2147483647) ∧ (0 ≤ x1 * 3 + (σ 8 x1) ∧ x1 * 3 + (σ 8 x1) < 15) ∧ (-2147483648 ≤ (x1 * 3 + (σ 8 x1)) * 120 ∧ (x1 * 3 + (σ 8 x1)) * 120 ≤ 2147483647) ∧ (0 ≤ (0 : Int) ∧ 0 ≤ ((x1 * 3 + (σ 8 x1)) * 120 : Int) ∧ 0 ≤ (120 : Int) ∧ (0 : Int) + 120 ≤ 120 ∧ ((x1 * 3 + (σ 8 x1)) * 120 : Int) + 120 ≤ 1800) ∧ (-2147483648 ≤ σ 8 x1 + 1 ∧ σ 8 x1 + 1 ≤ 2147483647)) ∧ (Q (σ 109 5) (hh_up (hh_cpy (hh_up (hh_up (hh_up (hh_up σ 109 1 0) 9 (x1 * 3 + (σ 8 x1)) x2) 10 (x1 * 3 + (σ 8 x1)) (σ 109 4)) 11 (x1 * 3 + (σ 8 x1)) (σ 109 3)) 111 0 12 ((x1 * 3 + (σ 8 x1)) * 120) 120) 8 x1 (σ 8 x1 + 1)))) ∧ (¬ σ 8 x1 < 3 → Q (-1000000003) (hh_up σ 109 1 0)))) ∧ (¬ s0 = (-1000000005) → ((-2147483648 ≤ (-100) - s0 ∧ (-100) - s0 ≤ 2147483647)) ∧ (Q ((-100) - s0) (hh_up σ 109 1 0)))) ∧ (x3 = 0 → Q (-1000000001) (hh_up σ 109 1 0))
def B_X11_terms_30 (d : Nat) (Q : Int → hh_S → Prop) (x1 x2 s0 : Int) (σ : hh_S) : Prop :=
  (s0 = 0 → B_X11_terms_47 d Q x1 x2 s0 (-1000000005) σ) ∧ (¬ s0 = 0 → hh_Sp d hm_X8_readText [hh_R 109] σ (fun r39 σ39 => B_X11_terms_47 d Q x1 x2 s0 r39 σ39))
def B_X11_terms_29 (d : Nat) (Q : Int → hh_S → Prop) (x1 x2 : Int) (σ : hh_S) : Prop :=
  B_X11_terms_30 d Q x1 x2 0 σ
def P_X11_terms (d : Nat) (a1 a2 : Int) (σ : hh_S) (Q : Int → hh_S → Prop) : Prop :=
  hh_Sp d hm_X1_has [hh_R 6, hh_I a1] σ (fun r8 σ8 => (r8 = 0 → B_X11_terms_29 d Q a1 a2 σ8) ∧ (¬ r8 = 0 → hh_Sp d hm_X11_within [hh_I a2, hh_I 0, hh_I 900] σ8 (fun r19 σ19 => (r19 = 0 → B_X11_terms_29 d Q a1 a2 σ19) ∧ (¬ r19 = 0 → B_X11_terms_30 d Q a1 a2 1 σ19))))
set_option maxRecDepth 20000 in
theorem w_X11_terms_47 {d : Nat} {Q : Int → hh_S → Prop} (x1 x2 x3 s0 : Int) (σ : hh_S) (h : B_X11_terms_47 d Q x1 x2 x3 s0 σ) : hh_J (d + 1) hm_X11_terms 47 [some (hh_R 0), some (hh_I x1), some (hh_I x2), some (hh_I x3), none, none, none] [hh_I s0] σ Q := by
  unfold B_X11_terms_47 at h
  refine hh_istore dX11_terms_47 (by decide) rfl ?_
  refine hh_aload_n dX11_terms_49 rfl ?_
  refine hh_getR dX11_terms_50 kf_X11_26 rf_0_3 ?_
  refine hh_iconst dX11_terms_53 (by decide) ?_
  refine hh_putI dX11_terms_54 kp_X11_263 rf_109_1 ?_
  refine hh_iload_n dX11_terms_57 rfl ?_
  refine hh_if_ne (tgt := 64) dX11_terms_58 (by decide) (fun c => ?_) (fun c => ?_)
  · replace h := h.1 c
    refine hh_iload dX11_terms_64 rfl ?_
    refine hh_ldc (n := -1000000005) dX11_terms_66 kc_X11_133 (by decide) ?_
    refine hh_icmp_eq (tgt := 77) dX11_terms_68 (by decide) (fun c => ?_) (fun c => ?_)
    · replace h := h.1 c
      obtain ⟨q1, h⟩ := h
      refine hh_aload_n dX11_terms_77 rfl ?_
      refine hh_getR dX11_terms_78 kf_X11_10 rf_0_0 ?_
      refine hh_getR dX11_terms_81 kf_X11_102 rf_1_1 ?_
      refine hh_astore dX11_terms_84 (by decide) rfl ?_
      refine hh_aload dX11_terms_86 rfl ?_
      refine hh_getR dX11_terms_88 kf_X11_112 rf_6_2 ?_
      refine hh_iload_n dX11_terms_91 rfl ?_
      refine hh_iald dX11_terms_92 ra_8 q1 rfl ?_
      refine hh_iconst dX11_terms_93 (by decide) ?_
      refine hh_icmp_lt (tgt := 100) dX11_terms_94 (by decide) (fun c => ?_) (fun c => ?_)
      · replace h := h.1 c
        obtain ⟨⟨q1, q2, q3, q4, q5, q6, q7⟩, h⟩ := h
        refine hh_iload_n dX11_terms_100 rfl ?_
        refine hh_iconst dX11_terms_101 (by decide) ?_
        refine hh_imul dX11_terms_102 q1 ?_
        refine hh_aload dX11_terms_103 rfl ?_
        refine hh_getR dX11_terms_105 kf_X11_112 rf_6_2 ?_
        refine hh_iload_n dX11_terms_108 rfl ?_
        refine hh_iald dX11_terms_109 ra_8 q2 rfl ?_
        refine hh_iadd dX11_terms_110 q3 ?_
        refine hh_istore dX11_terms_111 (by decide) rfl ?_
        refine hh_aload dX11_terms_113 rfl ?_
        refine hh_getR dX11_terms_115 kf_X11_271 rf_6_3 ?_
        refine hh_iload dX11_terms_118 rfl ?_
        refine hh_iload_n dX11_terms_120 rfl ?_
        refine hh_iast dX11_terms_121 ra_9 q4 ?_
        refine hh_aload dX11_terms_122 rfl ?_
        refine hh_getR dX11_terms_124 kf_X11_274 rf_6_4 ?_
        refine hh_iload dX11_terms_127 rfl ?_
        refine hh_aload_n dX11_terms_129 rfl ?_
        refine hh_getR dX11_terms_130 kf_X11_26 rf_0_3 ?_
        refine hh_getI dX11_terms_133 kf_X11_277 rf_109_4 rfl ?_
        refine hh_iast dX11_terms_136 ra_10 q4 ?_
        refine hh_aload dX11_terms_137 rfl ?_
        refine hh_getR dX11_terms_139 kf_X11_280 rf_6_5 ?_
        refine hh_iload dX11_terms_142 rfl ?_
        refine hh_aload_n dX11_terms_144 rfl ?_
        refine hh_getR dX11_terms_145 kf_X11_26 rf_0_3 ?_
        refine hh_getI dX11_terms_148 kf_X11_283 rf_109_3 rfl ?_
        refine hh_iast dX11_terms_151 ra_11 q4 ?_
        refine hh_aload_n dX11_terms_152 rfl ?_
        refine hh_getR dX11_terms_153 kf_X11_26 rf_0_3 ?_
        refine hh_getR dX11_terms_156 kf_X11_286 rf_109_2 ?_
        refine hh_iconst dX11_terms_159 (by decide) ?_
        refine hh_aload dX11_terms_160 rfl ?_
        refine hh_getR dX11_terms_162 kf_X11_289 rf_6_6 ?_
        refine hh_iload dX11_terms_165 rfl ?_
        refine hh_bipush dX11_terms_167 (by decide) ?_
        refine hh_imul dX11_terms_169 q5 ?_
        refine hh_bipush dX11_terms_170 (by decide) ?_
        refine hh_copy dX11_terms_172 kcp_X11_290 (by decide) ra_111 ra_12 q6 (fun _ _ _ => rfl) (Nat.le_of_ble_eq_true rfl) ?_
        refine hh_aload dX11_terms_175 rfl ?_
        refine hh_getR dX11_terms_177 kf_X11_112 rf_6_2 ?_
        refine hh_iload_n dX11_terms_180 rfl ?_
        refine hh_dup2 dX11_terms_181 (fun _ => rfl) (fun _ => rfl) ?_
        refine hh_iald dX11_terms_182 ra_8 q2 rfl ?_
        refine hh_iconst dX11_terms_183 (by decide) ?_
        refine hh_iadd dX11_terms_184 q7 ?_
        refine hh_iast dX11_terms_185 ra_8 q2 ?_
        refine hh_aload_n dX11_terms_186 rfl ?_
        refine hh_getR dX11_terms_187 kf_X11_26 rf_0_3 ?_
        refine hh_getI dX11_terms_190 kf_X11_296 rf_109_5 rfl ?_
        exact hh_ireturn dX11_terms_193 rfl h
      · replace h := h.2 c
        refine hh_ldc (n := -1000000003) dX11_terms_97 kc_X11_84 (by decide) ?_
        exact hh_ireturn dX11_terms_99 rfl h
    · replace h := h.2 c
      obtain ⟨q1, h⟩ := h
      refine hh_bipush dX11_terms_71 (by decide) ?_
      refine hh_iload dX11_terms_73 rfl ?_
      refine hh_isub dX11_terms_75 q1 ?_
      exact hh_ireturn dX11_terms_76 rfl h
  · replace h := h.2 c
    refine hh_ldc (n := -1000000001) dX11_terms_61 kc_X11_74 (by decide) ?_
    exact hh_ireturn dX11_terms_63 rfl h
set_option maxRecDepth 20000 in
theorem w_X11_terms_30 {d : Nat} {Q : Int → hh_S → Prop} (x1 x2 s0 : Int) (σ : hh_S) (h : B_X11_terms_30 d Q x1 x2 s0 σ) : hh_J (d + 1) hm_X11_terms 30 [some (hh_R 0), some (hh_I x1), some (hh_I x2), none, none, none, none] [hh_I s0] σ Q := by
  unfold B_X11_terms_30 at h
  refine hh_istore_n dX11_terms_30 (by decide) rfl ?_
  refine hh_iload_n dX11_terms_31 rfl ?_
  refine hh_if_eq (tgt := 45) dX11_terms_32 (by decide) (fun c => ?_) (fun c => ?_)
  · replace h := h.1 c
    refine hh_ldc (n := -1000000005) dX11_terms_45 kc_X11_133 (by decide) ?_
    exact hh_forget [true, true, true, true, false, false, false] (w_X11_terms_47 _ _ _ _ _ h)
  · replace h := h.2 c
    refine hh_aload_n dX11_terms_35 rfl ?_
    refine hh_getR dX11_terms_36 kf_X11_26 rf_0_3 ?_
    refine hh_cV0 dX11_terms_39 lk_X11_268 mo_X8_readText rc_109 (Nat.le_of_ble_eq_true rfl) h (fun r39 σ39 h => ?_)
    refine hh_goto (tgt := 47) dX11_terms_42 (by decide) ?_
    exact hh_forget [true, true, true, true, false, false, false] (w_X11_terms_47 _ _ _ _ _ h)
set_option maxRecDepth 20000 in
theorem w_X11_terms_29 {d : Nat} {Q : Int → hh_S → Prop} (x1 x2 : Int) (σ : hh_S) (h : B_X11_terms_29 d Q x1 x2 σ) : hh_J (d + 1) hm_X11_terms 29 [some (hh_R 0), some (hh_I x1), some (hh_I x2), none, none, none, none] [] σ Q := by
  unfold B_X11_terms_29 at h
  refine hh_iconst dX11_terms_29 (by decide) ?_
  exact hh_forget [true, true, true, false, false, false, false] (w_X11_terms_30 _ _ _ _ h)
set_option maxRecDepth 20000 in
theorem w_X11_terms {d : Nat} {a1 a2 : Int} {σ : hh_S} {Q : Int → hh_S → Prop} (h : P_X11_terms d a1 a2 σ Q) : hh_J (d + 1) hm_X11_terms 0 [some (hh_R 0), some (hh_I a1), some (hh_I a2), none, none, none, none] [] σ Q := by
  unfold P_X11_terms at h
  refine hh_aload_n dX11_terms_0 rfl ?_
  refine hh_getR dX11_terms_1 kf_X11_10 rf_0_0 ?_
  refine hh_getR dX11_terms_4 kf_X11_102 rf_1_1 ?_
  refine hh_iload_n dX11_terms_7 rfl ?_
  refine hh_cV1 dX11_terms_8 lk_X11_115 mo_X1_has rc_6 (Nat.le_of_ble_eq_true rfl) h (fun r8 σ8 h => ?_)
  refine hh_if_eq (tgt := 29) dX11_terms_11 (by decide) (fun c => ?_) (fun c => ?_)
  · replace h := h.1 c
    exact hh_forget [true, true, true, false, false, false, false] (w_X11_terms_29 _ _ _ h)
  · replace h := h.2 c
    refine hh_iload_n dX11_terms_14 rfl ?_
    refine hh_iconst dX11_terms_15 (by decide) ?_
    refine hh_sipush dX11_terms_16 (by decide) ?_
    refine hh_cS3 dX11_terms_19 lk_X11_70 mo_X11_within (Nat.le_of_ble_eq_true rfl) h (fun r19 σ19 h => ?_)
    refine hh_if_eq (tgt := 29) dX11_terms_22 (by decide) (fun c => ?_) (fun c => ?_)
    · replace h := h.1 c
      exact hh_forget [true, true, true, false, false, false, false] (w_X11_terms_29 _ _ _ h)
    · replace h := h.2 c
      refine hh_iconst dX11_terms_25 (by decide) ?_
      refine hh_goto (tgt := 30) dX11_terms_26 (by decide) ?_
      exact hh_forget [true, true, true, false, false, false, false] (w_X11_terms_30 _ _ _ _ h)
theorem wp_X11_terms {d : Nat} (a1 a2 : Int) {σ : hh_S} {Q : Int → hh_S → Prop} (h : hh_cs σ → hh_can a1 → hh_can a2 → P_X11_terms d a1 a2 σ Q) : hh_Sp (d + 1) hm_X11_terms [hh_R 0, hh_I a1, hh_I a2] σ Q :=
  hh_entry rfl (Nat.le_of_ble_eq_true rfl) rfl (fun hs hc => w_X11_terms (h hs (hc _ (List.mem_of_getElem? (i := 1) rfl)) (hc _ (List.mem_of_getElem? (i := 2) rfl))))
def B_X11_takeEntries_145 (d : Nat) (Q : Int → hh_S → Prop) (x1 x5 x6 : Int) (σ : hh_S) : Prop :=
  ((0 ≤ x1 ∧ x1 < 16)) ∧ (Q x5 (hh_up σ 48 x1 x6))
def B_X11_takeEntries_139 (d : Nat) (Q : Int → hh_S → Prop) (k18 : Int → Int → Int → Int → Int → Int → hh_S → Prop) (x1 x2 x3 x5 x6 x7 : Int) (σ : hh_S) : Prop :=
  ((-2147483648 ≤ x7 + 1 ∧ x7 + 1 ≤ 2147483647)) ∧ (k18 x1 x2 x3 x5 x6 (x7 + 1) σ)
def B_X11_takeEntries_70 (d : Nat) (Q : Int → hh_S → Prop) (k18 : Int → Int → Int → Int → Int → Int → hh_S → Prop) (x1 x2 x3 x5 x6 x7 s0 : Int) (σ : hh_S) : Prop :=
  (s0 = 0 → B_X11_takeEntries_139 d Q k18 x1 x2 x3 x5 x6 x7 σ) ∧ (¬ s0 = 0 → hh_Sp d hm_X3_isKnown [hh_R 24, hh_I x7, hh_I (σ 1 8)] σ (fun r88 σ88 => (r88 = 0 → B_X11_takeEntries_139 d Q k18 x1 x2 x3 x5 x6 x7 σ88) ∧ (¬ r88 = 0 → ((0 ≤ x7 ∧ x7 < 90) ∧ (-2147483648 ≤ x5 + (σ88 116 x7) ∧ x5 + (σ88 116 x7) ≤ 2147483647) ∧ (-2147483648 ≤ x6 + 1 ∧ x6 + 1 ≤ 2147483647)) ∧ (B_X11_takeEntries_139 d Q k18 x1 x2 x3 (x5 + (σ88 116 x7)) (x6 + 1) x7 (hh_up (hh_up σ88 33 x7 x1) 34 x7 (σ88 116 x7))))))
def B_X11_takeEntries_69 (d : Nat) (Q : Int → hh_S → Prop) (k18 : Int → Int → Int → Int → Int → Int → hh_S → Prop) (x1 x2 x3 x5 x6 x7 : Int) (σ : hh_S) : Prop :=
  B_X11_takeEntries_70 d Q k18 x1 x2 x3 x5 x6 x7 0 σ
def B_X11_takeEntries_18 (d : Nat) (Q : Int → hh_S → Prop) (k18 : Int → Int → Int → Int → Int → Int → hh_S → Prop) (x1 x2 x3 x5 x6 x7 : Int) (σ : hh_S) : Prop :=
  (σ 24 0 ≤ x7 → B_X11_takeEntries_145 d Q x1 x5 x6 σ) ∧ (¬ σ 24 0 ≤ x7 → ((0 ≤ x7 ∧ x7 < 90)) ∧ ((¬ σ 26 x7 = x2 → B_X11_takeEntries_69 d Q k18 x1 x2 x3 x5 x6 x7 σ) ∧ (σ 26 x7 = x2 → ((0 ≤ x7 ∧ x7 < 90)) ∧ ((x3 < σ 27 x7 → B_X11_takeEntries_69 d Q k18 x1 x2 x3 x5 x6 x7 σ) ∧ (¬ x3 < σ 27 x7 → ((0 ≤ x7 ∧ x7 < 90)) ∧ ((¬ σ 33 x7 = (-1000000005) → B_X11_takeEntries_69 d Q k18 x1 x2 x3 x5 x6 x7 σ) ∧ (σ 33 x7 = (-1000000005) → B_X11_takeEntries_70 d Q k18 x1 x2 x3 x5 x6 x7 1 σ)))))))
def P_X11_takeEntries (d : Nat) (a1 a2 a3 : Int) (σ : hh_S) (Q : Int → hh_S → Prop) : Prop :=
  ∃ n, hh_lp6 (B_X11_takeEntries_18 d Q) n a1 a2 a3 0 0 0 σ
set_option maxRecDepth 20000 in
theorem w_X11_takeEntries_145 {d : Nat} {Q : Int → hh_S → Prop} (x1 x5 x6 : Int) (σ : hh_S) (h : B_X11_takeEntries_145 d Q x1 x5 x6 σ) : hh_J (d + 1) hm_X11_takeEntries 145 [some (hh_R 0), some (hh_I x1), none, none, none, some (hh_I x5), some (hh_I x6), none, none] [] σ Q := by
  unfold B_X11_takeEntries_145 at h
  obtain ⟨q1, h⟩ := h
  refine hh_aload_n dX11_takeEntries_145 rfl ?_
  refine hh_getR dX11_takeEntries_146 kf_X11_10 rf_0_0 ?_
  refine hh_getR dX11_takeEntries_149 kf_X11_134 rf_1_5 ?_
  refine hh_getR dX11_takeEntries_152 kf_X11_334 rf_42_6 ?_
  refine hh_iload_n dX11_takeEntries_155 rfl ?_
  refine hh_iload dX11_takeEntries_156 rfl ?_
  refine hh_iast dX11_takeEntries_158 ra_48 q1 ?_
  refine hh_iload dX11_takeEntries_159 rfl ?_
  exact hh_ireturn dX11_takeEntries_161 rfl h
set_option maxRecDepth 20000 in
theorem w_X11_takeEntries_139 {d : Nat} {Q : Int → hh_S → Prop} {k18 : Int → Int → Int → Int → Int → Int → hh_S → Prop} (hk18 : ∀ (x1 x2 x3 x5 x6 x7 : Int) (σ : hh_S), k18 x1 x2 x3 x5 x6 x7 σ → hh_J (d + 1) hm_X11_takeEntries 18 [some (hh_R 0), some (hh_I x1), some (hh_I x2), some (hh_I x3), some (hh_R 24), some (hh_I x5), some (hh_I x6), some (hh_I x7), none] [] σ Q) (x1 x2 x3 x5 x6 x7 : Int) (σ : hh_S) (h : B_X11_takeEntries_139 d Q k18 x1 x2 x3 x5 x6 x7 σ) : hh_J (d + 1) hm_X11_takeEntries 139 [some (hh_R 0), some (hh_I x1), some (hh_I x2), some (hh_I x3), some (hh_R 24), some (hh_I x5), some (hh_I x6), some (hh_I x7), none] [] σ Q := by
  unfold B_X11_takeEntries_139 at h
  obtain ⟨q1, h⟩ := h
  refine hh_iinc dX11_takeEntries_139 (by decide) rfl rfl q1 ?_
  refine hh_goto (tgt := 18) dX11_takeEntries_142 (by decide) ?_
  exact hh_forget [true, true, true, true, true, true, true, true, false] (hk18 _ _ _ _ _ _ _ h)
set_option maxRecDepth 20000 in
theorem w_X11_takeEntries_70 {d : Nat} {Q : Int → hh_S → Prop} {k18 : Int → Int → Int → Int → Int → Int → hh_S → Prop} (hk18 : ∀ (x1 x2 x3 x5 x6 x7 : Int) (σ : hh_S), k18 x1 x2 x3 x5 x6 x7 σ → hh_J (d + 1) hm_X11_takeEntries 18 [some (hh_R 0), some (hh_I x1), some (hh_I x2), some (hh_I x3), some (hh_R 24), some (hh_I x5), some (hh_I x6), some (hh_I x7), none] [] σ Q) (x1 x2 x3 x5 x6 x7 s0 : Int) (σ : hh_S) (h : B_X11_takeEntries_70 d Q k18 x1 x2 x3 x5 x6 x7 s0 σ) : hh_J (d + 1) hm_X11_takeEntries 70 [some (hh_R 0), some (hh_I x1), some (hh_I x2), some (hh_I x3), some (hh_R 24), some (hh_I x5), some (hh_I x6), some (hh_I x7), none] [hh_I s0] σ Q := by
  unfold B_X11_takeEntries_70 at h
  refine hh_istore dX11_takeEntries_70 (by decide) rfl ?_
  refine hh_iload dX11_takeEntries_72 rfl ?_
  refine hh_if_eq (tgt := 139) dX11_takeEntries_74 (by decide) (fun c => ?_) (fun c => ?_)
  · replace h := h.1 c
    exact hh_forget [true, true, true, true, true, true, true, true, false] (w_X11_takeEntries_139 hk18 _ _ _ _ _ _ _ h)
  · replace h := h.2 c
    refine hh_aload dX11_takeEntries_77 rfl ?_
    refine hh_iload dX11_takeEntries_79 rfl ?_
    refine hh_aload_n dX11_takeEntries_81 rfl ?_
    refine hh_getR dX11_takeEntries_82 kf_X11_10 rf_0_0 ?_
    refine hh_getI dX11_takeEntries_85 kf_X11_154 rf_1_8 rfl ?_
    refine hh_cV2 dX11_takeEntries_88 lk_X11_247 mo_X3_isKnown rc_24 (Nat.le_of_ble_eq_true rfl) h (fun r88 σ88 h => ?_)
    refine hh_if_eq (tgt := 139) dX11_takeEntries_91 (by decide) (fun c => ?_) (fun c => ?_)
    · replace h := h.1 c
      exact hh_forget [true, true, true, true, true, true, true, true, false] (w_X11_takeEntries_139 hk18 _ _ _ _ _ _ _ h)
    · replace h := h.2 c
      obtain ⟨⟨q1, q2, q3⟩, h⟩ := h
      refine hh_aload dX11_takeEntries_94 rfl ?_
      refine hh_getR dX11_takeEntries_96 kf_X11_203 rf_24_9 ?_
      refine hh_iload dX11_takeEntries_99 rfl ?_
      refine hh_iload_n dX11_takeEntries_101 rfl ?_
      refine hh_iast dX11_takeEntries_102 ra_33 q1 ?_
      refine hh_aload dX11_takeEntries_103 rfl ?_
      refine hh_getR dX11_takeEntries_105 kf_X11_205 rf_24_10 ?_
      refine hh_iload dX11_takeEntries_108 rfl ?_
      refine hh_aload_n dX11_takeEntries_110 rfl ?_
      refine hh_getR dX11_takeEntries_111 kf_X11_35 rf_0_4 ?_
      refine hh_getR dX11_takeEntries_114 kf_X11_262 rf_112_4 ?_
      refine hh_iload dX11_takeEntries_117 rfl ?_
      refine hh_iald dX11_takeEntries_119 ra_116 q1 rfl ?_
      refine hh_iast dX11_takeEntries_120 ra_34 q1 ?_
      refine hh_iload dX11_takeEntries_121 rfl ?_
      refine hh_aload_n dX11_takeEntries_123 rfl ?_
      refine hh_getR dX11_takeEntries_124 kf_X11_35 rf_0_4 ?_
      refine hh_getR dX11_takeEntries_127 kf_X11_262 rf_112_4 ?_
      refine hh_iload dX11_takeEntries_130 rfl ?_
      refine hh_iald dX11_takeEntries_132 ra_116 q1 rfl ?_
      refine hh_iadd dX11_takeEntries_133 q2 ?_
      refine hh_istore dX11_takeEntries_134 (by decide) rfl ?_
      refine hh_iinc dX11_takeEntries_136 (by decide) rfl rfl q3 ?_
      exact hh_forget [true, true, true, true, true, true, true, true, false] (w_X11_takeEntries_139 hk18 _ _ _ _ _ _ _ h)
set_option maxRecDepth 20000 in
theorem w_X11_takeEntries_69 {d : Nat} {Q : Int → hh_S → Prop} {k18 : Int → Int → Int → Int → Int → Int → hh_S → Prop} (hk18 : ∀ (x1 x2 x3 x5 x6 x7 : Int) (σ : hh_S), k18 x1 x2 x3 x5 x6 x7 σ → hh_J (d + 1) hm_X11_takeEntries 18 [some (hh_R 0), some (hh_I x1), some (hh_I x2), some (hh_I x3), some (hh_R 24), some (hh_I x5), some (hh_I x6), some (hh_I x7), none] [] σ Q) (x1 x2 x3 x5 x6 x7 : Int) (σ : hh_S) (h : B_X11_takeEntries_69 d Q k18 x1 x2 x3 x5 x6 x7 σ) : hh_J (d + 1) hm_X11_takeEntries 69 [some (hh_R 0), some (hh_I x1), some (hh_I x2), some (hh_I x3), some (hh_R 24), some (hh_I x5), some (hh_I x6), some (hh_I x7), none] [] σ Q := by
  unfold B_X11_takeEntries_69 at h
  refine hh_iconst dX11_takeEntries_69 (by decide) ?_
  exact hh_forget [true, true, true, true, true, true, true, true, false] (w_X11_takeEntries_70 hk18 _ _ _ _ _ _ _ _ h)
set_option maxRecDepth 20000 in
theorem w_X11_takeEntries_18 {d : Nat} {Q : Int → hh_S → Prop} {k18 : Int → Int → Int → Int → Int → Int → hh_S → Prop} (hk18 : ∀ (x1 x2 x3 x5 x6 x7 : Int) (σ : hh_S), k18 x1 x2 x3 x5 x6 x7 σ → hh_J (d + 1) hm_X11_takeEntries 18 [some (hh_R 0), some (hh_I x1), some (hh_I x2), some (hh_I x3), some (hh_R 24), some (hh_I x5), some (hh_I x6), some (hh_I x7), none] [] σ Q) (x1 x2 x3 x5 x6 x7 : Int) (σ : hh_S) (h : B_X11_takeEntries_18 d Q k18 x1 x2 x3 x5 x6 x7 σ) : hh_J (d + 1) hm_X11_takeEntries 18 [some (hh_R 0), some (hh_I x1), some (hh_I x2), some (hh_I x3), some (hh_R 24), some (hh_I x5), some (hh_I x6), some (hh_I x7), none] [] σ Q := by
  unfold B_X11_takeEntries_18 at h
  refine hh_iload dX11_takeEntries_18 rfl ?_
  refine hh_aload dX11_takeEntries_20 rfl ?_
  refine hh_getI dX11_takeEntries_22 kf_X11_177 rf_24_0 rfl ?_
  refine hh_icmp_ge (tgt := 145) dX11_takeEntries_25 (by decide) (fun c => ?_) (fun c => ?_)
  · replace h := h.1 c
    exact hh_forget [true, true, false, false, false, true, true, false, false] (w_X11_takeEntries_145 _ _ _ _ h)
  · replace h := h.2 c
    obtain ⟨q1, h⟩ := h
    refine hh_aload dX11_takeEntries_28 rfl ?_
    refine hh_getR dX11_takeEntries_30 kf_X11_183 rf_24_2 ?_
    refine hh_iload dX11_takeEntries_33 rfl ?_
    refine hh_iald dX11_takeEntries_35 ra_26 q1 rfl ?_
    refine hh_iload_n dX11_takeEntries_36 rfl ?_
    refine hh_icmp_ne (tgt := 69) dX11_takeEntries_37 (by decide) (fun c => ?_) (fun c => ?_)
    · replace h := h.1 c
      exact hh_forget [true, true, true, true, true, true, true, true, false] (w_X11_takeEntries_69 hk18 _ _ _ _ _ _ _ h)
    · replace h := h.2 c
      obtain ⟨q1, h⟩ := h
      refine hh_aload dX11_takeEntries_40 rfl ?_
      refine hh_getR dX11_takeEntries_42 kf_X11_185 rf_24_3 ?_
      refine hh_iload dX11_takeEntries_45 rfl ?_
      refine hh_iald dX11_takeEntries_47 ra_27 q1 rfl ?_
      refine hh_iload_n dX11_takeEntries_48 rfl ?_
      refine hh_icmp_gt (tgt := 69) dX11_takeEntries_49 (by decide) (fun c => ?_) (fun c => ?_)
      · replace h := h.1 c
        exact hh_forget [true, true, true, true, true, true, true, true, false] (w_X11_takeEntries_69 hk18 _ _ _ _ _ _ _ h)
      · replace h := h.2 c
        obtain ⟨q1, h⟩ := h
        refine hh_aload dX11_takeEntries_52 rfl ?_
        refine hh_getR dX11_takeEntries_54 kf_X11_203 rf_24_9 ?_
        refine hh_iload dX11_takeEntries_57 rfl ?_
        refine hh_iald dX11_takeEntries_59 ra_33 q1 rfl ?_
        refine hh_ldc (n := -1000000005) dX11_takeEntries_60 kc_X11_133 (by decide) ?_
        refine hh_icmp_ne (tgt := 69) dX11_takeEntries_62 (by decide) (fun c => ?_) (fun c => ?_)
        · replace h := h.1 c
          exact hh_forget [true, true, true, true, true, true, true, true, false] (w_X11_takeEntries_69 hk18 _ _ _ _ _ _ _ h)
        · replace h := h.2 c
          refine hh_iconst dX11_takeEntries_65 (by decide) ?_
          refine hh_goto (tgt := 70) dX11_takeEntries_66 (by decide) ?_
          exact hh_forget [true, true, true, true, true, true, true, true, false] (w_X11_takeEntries_70 hk18 _ _ _ _ _ _ _ _ h)
theorem l_X11_takeEntries_18 {d : Nat} {Q : Int → hh_S → Prop} : ∀ (n : Nat) (x1 x2 x3 x5 x6 x7 : Int) (σ : hh_S), hh_lp6 (B_X11_takeEntries_18 d Q) n x1 x2 x3 x5 x6 x7 σ → hh_J (d + 1) hm_X11_takeEntries 18 [some (hh_R 0), some (hh_I x1), some (hh_I x2), some (hh_I x3), some (hh_R 24), some (hh_I x5), some (hh_I x6), some (hh_I x7), none] [] σ Q := by
  intro n
  induction n with
  | zero => intro _ _ _ _ _ _ _ h; exact h.elim
  | succ n ih => intro x1 x2 x3 x5 x6 x7 σ h; exact w_X11_takeEntries_18 ih x1 x2 x3 x5 x6 x7 σ h
set_option maxRecDepth 20000 in
theorem w_X11_takeEntries {d : Nat} {a1 a2 a3 : Int} {σ : hh_S} {Q : Int → hh_S → Prop} (h : P_X11_takeEntries d a1 a2 a3 σ Q) : hh_J (d + 1) hm_X11_takeEntries 0 [some (hh_R 0), some (hh_I a1), some (hh_I a2), some (hh_I a3), none, none, none, none, none] [] σ Q := by
  unfold P_X11_takeEntries at h
  refine hh_aload_n dX11_takeEntries_0 rfl ?_
  refine hh_getR dX11_takeEntries_1 kf_X11_10 rf_0_0 ?_
  refine hh_getR dX11_takeEntries_4 kf_X11_173 rf_1_3 ?_
  refine hh_astore dX11_takeEntries_7 (by decide) rfl ?_
  refine hh_iconst dX11_takeEntries_9 (by decide) ?_
  refine hh_istore dX11_takeEntries_10 (by decide) rfl ?_
  refine hh_iconst dX11_takeEntries_12 (by decide) ?_
  refine hh_istore dX11_takeEntries_13 (by decide) rfl ?_
  refine hh_iconst dX11_takeEntries_15 (by decide) ?_
  refine hh_istore dX11_takeEntries_16 (by decide) rfl ?_
  obtain ⟨n, h⟩ := h
  exact hh_forget [true, true, true, true, true, true, true, true, false] (l_X11_takeEntries_18 n _ _ _ _ _ _ _ h)
theorem wp_X11_takeEntries {d : Nat} (a1 a2 a3 : Int) {σ : hh_S} {Q : Int → hh_S → Prop} (h : hh_cs σ → hh_can a1 → hh_can a2 → hh_can a3 → P_X11_takeEntries d a1 a2 a3 σ Q) : hh_Sp (d + 1) hm_X11_takeEntries [hh_R 0, hh_I a1, hh_I a2, hh_I a3] σ Q :=
  hh_entry rfl (Nat.le_of_ble_eq_true rfl) rfl (fun hs hc => w_X11_takeEntries (h hs (hc _ (List.mem_of_getElem? (i := 1) rfl)) (hc _ (List.mem_of_getElem? (i := 2) rfl)) (hc _ (List.mem_of_getElem? (i := 3) rfl))))
def B_X11_bill_306 (d : Nat) (Q : Int → hh_S → Prop) (x5 : Int) (σ : hh_S) : Prop :=
  ((-2147483648 ≤ x5 + 1 ∧ x5 + 1 ≤ 2147483647)) ∧ (Q x5 (hh_up σ 42 0 (x5 + 1)))
def B_X11_bill_274 (d : Nat) (Q : Int → hh_S → Prop) (k274 : Int → Int → hh_S → Prop) (x5 x10 : Int) (σ : hh_S) : Prop :=
  (3 ≤ x10 → B_X11_bill_306 d Q x5 σ) ∧ (¬ 3 ≤ x10 → ((-2147483648 ≤ x5 * 3 ∧ x5 * 3 ≤ 2147483647) ∧ (-2147483648 ≤ x5 * 3 + x10 ∧ x5 * 3 + x10 ≤ 2147483647) ∧ (0 ≤ x10 ∧ x10 < 3) ∧ (0 ≤ x5 * 3 + x10 ∧ x5 * 3 + x10 < 48) ∧ (-2147483648 ≤ x10 + 1 ∧ x10 + 1 ≤ 2147483647)) ∧ (k274 x5 (x10 + 1) (hh_up σ 49 (x5 * 3 + x10) (σ 127 x10))))
def B_X11_bill_169 (d : Nat) (Q : Int → hh_S → Prop) (x1 x3 x5 x7 : Int) (σ : hh_S) : Prop :=
  ((-9223372036854775808 ≤ x7 * x3 ∧ x7 * x3 ≤ 9223372036854775807) ∧ 0 ≤ x7 * x3 ∧ (-2147483648 ≤ (x7 * x3) / 100 ∧ (x7 * x3) / 100 ≤ 2147483647) ∧ (-2147483648 ≤ x7 - ((x7 * x3) / 100) ∧ x7 - ((x7 * x3) / 100) ≤ 2147483647) ∧ (0 ≤ x1 ∧ x1 < 10) ∧ (-2147483648 ≤ σ 21 x1 - (hh_min (x7 - ((x7 * x3) / 100)) (σ 21 x1)) ∧ σ 21 x1 - (hh_min (x7 - ((x7 * x3) / 100)) (σ 21 x1)) ≤ 2147483647) ∧ (0 ≤ x5 ∧ x5 < 16) ∧ (-2147483648 ≤ (x7 - ((x7 * x3) / 100)) - (hh_min (x7 - ((x7 * x3) / 100)) (σ 21 x1)) ∧ (x7 - ((x7 * x3) / 100)) - (hh_min (x7 - ((x7 * x3) / 100)) (σ 21 x1)) ≤ 2147483647)) ∧ (hh_Sp d hm_X5_split [hh_R 13, hh_I x1, hh_I ((x7 - ((x7 * x3) / 100)) - (hh_min (x7 - ((x7 * x3) / 100)) (σ 21 x1))), hh_R 127] (hh_up (hh_up (hh_up (hh_up σ 21 x1 (σ 21 x1 - (hh_min (x7 - ((x7 * x3) / 100)) (σ 21 x1)))) 45 x5 x7) 46 x5 (x7 - ((x7 * x3) / 100))) 47 x5 (hh_min (x7 - ((x7 * x3) / 100)) (σ 21 x1))) (fun _ σ268 => ∃ n, hh_lp2 (B_X11_bill_274 d Q) n x5 0 σ268))
def B_X11_bill_167 (d : Nat) (Q : Int → hh_S → Prop) (x1 x3 x5 s0 : Int) (σ : hh_S) : Prop :=
  B_X11_bill_169 d Q x1 x3 x5 s0 σ
def B_X11_bill_78 (d : Nat) (Q : Int → hh_S → Prop) (x1 x2 x3 x5 s0 : Int) (σ : hh_S) : Prop :=
  ((0 ≤ x5 ∧ x5 < 16)) ∧ (hh_Sp d hm_X10_chargeMatter [hh_R 112, hh_I x1, hh_I (σ 1 8)] (hh_up (hh_up σ 43 x5 x1) 44 x5 (σ 1 8)) (fun r116 σ116 => hh_Sp d hm_X11_takeEntries [hh_R 0, hh_I x5, hh_I x1, hh_I x2] σ116 (fun r125 σ125 => ((0 ≤ x1 ∧ x1 < 10)) ∧ ((¬ σ125 14 x1 = 1 → B_X11_bill_169 d Q x1 x3 x5 r125 σ125) ∧ (σ125 14 x1 = 1 → (s0 = 0 → B_X11_bill_167 d Q x1 x3 x5 0 σ125) ∧ (¬ s0 = 0 → ((0 ≤ x1 ∧ x1 < 10)) ∧ (B_X11_bill_167 d Q x1 x3 x5 (σ125 16 x1) σ125)))))))
def P_X11_bill (d : Nat) (a1 a2 a3 : Int) (σ : hh_S) (Q : Int → hh_S → Prop) : Prop :=
  hh_Sp d hm_X5_has [hh_R 13, hh_I a1] σ (fun r8 σ8 => (r8 = 0 → Q (-1000000001) σ8) ∧ (¬ r8 = 0 → hh_Sp d hm_X11_isPast [hh_R 0, hh_I a2] σ8 (fun r16 σ16 => (r16 = 0 → Q (-1000000001) σ16) ∧ (¬ r16 = 0 → hh_Sp d hm_X11_within [hh_I a3, hh_I 0, hh_I 100] σ16 (fun r26 σ26 => (¬ r26 = 0 → (σ26 42 0 < 16 → hh_Sp d hm_X0_isAnyOf [hh_R 42, hh_I a1] σ26 (fun r67 σ67 => (¬ r67 = 0 → B_X11_bill_78 d Q a1 a2 a3 (σ26 42 0) 0 σ67) ∧ (r67 = 0 → B_X11_bill_78 d Q a1 a2 a3 (σ26 42 0) 1 σ67))) ∧ (¬ σ26 42 0 < 16 → Q (-1000000003) σ26)) ∧ (r26 = 0 → Q (-1000000001) σ26))))))
set_option maxRecDepth 20000 in
theorem w_X11_bill_306 {d : Nat} {Q : Int → hh_S → Prop} (x5 : Int) (σ : hh_S) (h : B_X11_bill_306 d Q x5 σ) : hh_J (d + 1) hm_X11_bill 306 [none, none, none, none, some (hh_R 42), some (hh_I x5), none, none, none, none, none] [] σ Q := by
  unfold B_X11_bill_306 at h
  obtain ⟨q1, h⟩ := h
  refine hh_aload dX11_bill_306 rfl ?_
  refine hh_iload dX11_bill_308 rfl ?_
  refine hh_iconst dX11_bill_310 (by decide) ?_
  refine hh_iadd dX11_bill_311 q1 ?_
  refine hh_putI dX11_bill_312 kp_X11_299 rf_42_0 ?_
  refine hh_iload dX11_bill_315 rfl ?_
  exact hh_ireturn dX11_bill_317 rfl h
set_option maxRecDepth 20000 in
theorem w_X11_bill_274 {d : Nat} {Q : Int → hh_S → Prop} {k274 : Int → Int → hh_S → Prop} (hk274 : ∀ (x5 x10 : Int) (σ : hh_S), k274 x5 x10 σ → hh_J (d + 1) hm_X11_bill 274 [some (hh_R 0), none, none, none, some (hh_R 42), some (hh_I x5), none, none, none, none, some (hh_I x10)] [] σ Q) (x5 x10 : Int) (σ : hh_S) (h : B_X11_bill_274 d Q k274 x5 x10 σ) : hh_J (d + 1) hm_X11_bill 274 [some (hh_R 0), none, none, none, some (hh_R 42), some (hh_I x5), none, none, none, none, some (hh_I x10)] [] σ Q := by
  unfold B_X11_bill_274 at h
  refine hh_iload dX11_bill_274 rfl ?_
  refine hh_iconst dX11_bill_276 (by decide) ?_
  refine hh_icmp_ge (tgt := 306) dX11_bill_277 (by decide) (fun c => ?_) (fun c => ?_)
  · replace h := h.1 c
    exact hh_forget [false, false, false, false, true, true, false, false, false, false, false] (w_X11_bill_306 _ _ h)
  · replace h := h.2 c
    obtain ⟨⟨q1, q2, q3, q4, q5⟩, h⟩ := h
    refine hh_aload dX11_bill_280 rfl ?_
    refine hh_getR dX11_bill_282 kf_X11_330 rf_42_7 ?_
    refine hh_iload dX11_bill_285 rfl ?_
    refine hh_iconst dX11_bill_287 (by decide) ?_
    refine hh_imul dX11_bill_288 q1 ?_
    refine hh_iload dX11_bill_289 rfl ?_
    refine hh_iadd dX11_bill_291 q2 ?_
    refine hh_aload_n dX11_bill_292 rfl ?_
    refine hh_getR dX11_bill_293 kf_X11_67 rf_0_12 ?_
    refine hh_iload dX11_bill_296 rfl ?_
    refine hh_iald dX11_bill_298 ra_127 q3 rfl ?_
    refine hh_iast dX11_bill_299 ra_49 q4 ?_
    refine hh_iinc dX11_bill_300 (by decide) rfl rfl q5 ?_
    refine hh_goto (tgt := 274) dX11_bill_303 (by decide) ?_
    exact hh_forget [true, false, false, false, true, true, false, false, false, false, true] (hk274 _ _ _ h)
theorem l_X11_bill_274 {d : Nat} {Q : Int → hh_S → Prop} : ∀ (n : Nat) (x5 x10 : Int) (σ : hh_S), hh_lp2 (B_X11_bill_274 d Q) n x5 x10 σ → hh_J (d + 1) hm_X11_bill 274 [some (hh_R 0), none, none, none, some (hh_R 42), some (hh_I x5), none, none, none, none, some (hh_I x10)] [] σ Q := by
  intro n
  induction n with
  | zero => intro _ _ _ h; exact h.elim
  | succ n ih => intro x5 x10 σ h; exact w_X11_bill_274 ih x5 x10 σ h
set_option maxRecDepth 20000 in
theorem w_X11_bill_169 {d : Nat} {Q : Int → hh_S → Prop} (x1 x3 x5 x7 : Int) (σ : hh_S) (h : B_X11_bill_169 d Q x1 x3 x5 x7 σ) : hh_J (d + 1) hm_X11_bill 169 [some (hh_R 0), some (hh_I x1), none, some (hh_I x3), some (hh_R 42), some (hh_I x5), none, some (hh_I x7), none, none, none] [] σ Q := by
  unfold B_X11_bill_169 at h
  obtain ⟨⟨q1, q2, q3, q4, q5, q6, q7, q8⟩, h⟩ := h
  refine hh_iload dX11_bill_169 rfl ?_
  refine hh_iload dX11_bill_171 rfl ?_
  refine hh_i2l dX11_bill_173 ?_
  refine hh_iload_n dX11_bill_174 rfl ?_
  refine hh_i2l dX11_bill_175 ?_
  refine hh_lmul dX11_bill_176 q1 ?_
  refine hh_ldc2 (n := 100) dX11_bill_177 kc_X11_309 (by decide) ?_
  refine hh_ldiv dX11_bill_180 q2 (by decide) ?_
  refine hh_l2i dX11_bill_181 q3 ?_
  refine hh_isub dX11_bill_182 q4 ?_
  refine hh_istore dX11_bill_183 (by decide) rfl ?_
  refine hh_iload dX11_bill_185 rfl ?_
  refine hh_aload_n dX11_bill_187 rfl ?_
  refine hh_getR dX11_bill_188 kf_X11_10 rf_0_0 ?_
  refine hh_getR dX11_bill_191 kf_X11_117 rf_1_2 ?_
  refine hh_getR dX11_bill_194 kf_X11_311 rf_13_8 ?_
  refine hh_iload_n dX11_bill_197 rfl ?_
  refine hh_iald dX11_bill_198 ra_21 q5 rfl ?_
  refine hh_mmin dX11_bill_199 km_X11_314 (Nat.le_of_ble_eq_true rfl) ?_
  refine hh_istore dX11_bill_202 (by decide) rfl ?_
  refine hh_aload_n dX11_bill_204 rfl ?_
  refine hh_getR dX11_bill_205 kf_X11_10 rf_0_0 ?_
  refine hh_getR dX11_bill_208 kf_X11_117 rf_1_2 ?_
  refine hh_getR dX11_bill_211 kf_X11_311 rf_13_8 ?_
  refine hh_iload_n dX11_bill_214 rfl ?_
  refine hh_dup2 dX11_bill_215 (fun _ => rfl) (fun _ => rfl) ?_
  refine hh_iald dX11_bill_216 ra_21 q5 rfl ?_
  refine hh_iload dX11_bill_217 rfl ?_
  refine hh_isub dX11_bill_219 q6 ?_
  refine hh_iast dX11_bill_220 ra_21 q5 ?_
  refine hh_aload dX11_bill_221 rfl ?_
  refine hh_getR dX11_bill_223 kf_X11_317 rf_42_3 ?_
  refine hh_iload dX11_bill_226 rfl ?_
  refine hh_iload dX11_bill_228 rfl ?_
  refine hh_iast dX11_bill_230 ra_45 q7 ?_
  refine hh_aload dX11_bill_231 rfl ?_
  refine hh_getR dX11_bill_233 kf_X11_320 rf_42_4 ?_
  refine hh_iload dX11_bill_236 rfl ?_
  refine hh_iload dX11_bill_238 rfl ?_
  refine hh_iast dX11_bill_240 ra_46 q7 ?_
  refine hh_aload dX11_bill_241 rfl ?_
  refine hh_getR dX11_bill_243 kf_X11_323 rf_42_5 ?_
  refine hh_iload dX11_bill_246 rfl ?_
  refine hh_iload dX11_bill_248 rfl ?_
  refine hh_iast dX11_bill_250 ra_47 q7 ?_
  refine hh_aload_n dX11_bill_251 rfl ?_
  refine hh_getR dX11_bill_252 kf_X11_10 rf_0_0 ?_
  refine hh_getR dX11_bill_255 kf_X11_117 rf_1_2 ?_
  refine hh_iload_n dX11_bill_258 rfl ?_
  refine hh_iload dX11_bill_259 rfl ?_
  refine hh_iload dX11_bill_261 rfl ?_
  refine hh_isub dX11_bill_263 q8 ?_
  refine hh_aload_n dX11_bill_264 rfl ?_
  refine hh_getR dX11_bill_265 kf_X11_67 rf_0_12 ?_
  refine hh_cV3 dX11_bill_268 lk_X11_326 mo_X5_split rc_13 (Nat.le_of_ble_eq_true rfl) h (fun _ σ268 h => ?_)
  refine hh_iconst dX11_bill_271 (by decide) ?_
  refine hh_istore dX11_bill_272 (by decide) rfl ?_
  obtain ⟨n, h⟩ := h
  exact hh_forget [true, false, false, false, true, true, false, false, false, false, true] (l_X11_bill_274 n _ _ _ h)
set_option maxRecDepth 20000 in
theorem w_X11_bill_167 {d : Nat} {Q : Int → hh_S → Prop} (x1 x3 x5 s0 : Int) (σ : hh_S) (h : B_X11_bill_167 d Q x1 x3 x5 s0 σ) : hh_J (d + 1) hm_X11_bill 167 [some (hh_R 0), some (hh_I x1), none, some (hh_I x3), some (hh_R 42), some (hh_I x5), none, none, none, none, none] [hh_I s0] σ Q := by
  unfold B_X11_bill_167 at h
  refine hh_istore dX11_bill_167 (by decide) rfl ?_
  exact hh_forget [true, true, false, true, true, true, false, true, false, false, false] (w_X11_bill_169 _ _ _ _ _ h)
set_option maxRecDepth 20000 in
theorem w_X11_bill_78 {d : Nat} {Q : Int → hh_S → Prop} (x1 x2 x3 x5 s0 : Int) (σ : hh_S) (h : B_X11_bill_78 d Q x1 x2 x3 x5 s0 σ) : hh_J (d + 1) hm_X11_bill 78 [some (hh_R 0), some (hh_I x1), some (hh_I x2), some (hh_I x3), some (hh_R 42), some (hh_I x5), none, none, none, none, none] [hh_I s0] σ Q := by
  unfold B_X11_bill_78 at h
  obtain ⟨q1, h⟩ := h
  refine hh_istore dX11_bill_78 (by decide) rfl ?_
  refine hh_aload dX11_bill_80 rfl ?_
  refine hh_getR dX11_bill_82 kf_X11_300 rf_42_1 ?_
  refine hh_iload dX11_bill_85 rfl ?_
  refine hh_iload_n dX11_bill_87 rfl ?_
  refine hh_iast dX11_bill_88 ra_43 q1 ?_
  refine hh_aload dX11_bill_89 rfl ?_
  refine hh_getR dX11_bill_91 kf_X11_301 rf_42_2 ?_
  refine hh_iload dX11_bill_94 rfl ?_
  refine hh_aload_n dX11_bill_96 rfl ?_
  refine hh_getR dX11_bill_97 kf_X11_10 rf_0_0 ?_
  refine hh_getI dX11_bill_100 kf_X11_154 rf_1_8 rfl ?_
  refine hh_iast dX11_bill_103 ra_44 q1 ?_
  refine hh_aload_n dX11_bill_104 rfl ?_
  refine hh_getR dX11_bill_105 kf_X11_35 rf_0_4 ?_
  refine hh_iload_n dX11_bill_108 rfl ?_
  refine hh_aload_n dX11_bill_109 rfl ?_
  refine hh_getR dX11_bill_110 kf_X11_10 rf_0_0 ?_
  refine hh_getI dX11_bill_113 kf_X11_154 rf_1_8 rfl ?_
  refine hh_cV2 dX11_bill_116 lk_X11_259 mo_X10_chargeMatter rc_112 (Nat.le_of_ble_eq_true rfl) h (fun r116 σ116 h => ?_)
  refine hh_pop dX11_bill_119 (fun _ => rfl) ?_
  refine hh_aload_n dX11_bill_120 rfl ?_
  refine hh_iload dX11_bill_121 rfl ?_
  refine hh_iload_n dX11_bill_123 rfl ?_
  refine hh_iload_n dX11_bill_124 rfl ?_
  refine hh_cV3 dX11_bill_125 lk_X11_302 mo_X11_takeEntries rc_0 (Nat.le_of_ble_eq_true rfl) h (fun r125 σ125 h => ?_)
  obtain ⟨q1, h⟩ := h
  refine hh_istore dX11_bill_128 (by decide) rfl ?_
  refine hh_aload_n dX11_bill_130 rfl ?_
  refine hh_getR dX11_bill_131 kf_X11_10 rf_0_0 ?_
  refine hh_getR dX11_bill_134 kf_X11_117 rf_1_2 ?_
  refine hh_getR dX11_bill_137 kf_X11_305 rf_13_1 ?_
  refine hh_iload_n dX11_bill_140 rfl ?_
  refine hh_iald dX11_bill_141 ra_14 q1 rfl ?_
  refine hh_iconst dX11_bill_142 (by decide) ?_
  refine hh_icmp_ne (tgt := 169) dX11_bill_143 (by decide) (fun c => ?_) (fun c => ?_)
  · replace h := h.1 c
    exact hh_forget [true, true, false, true, true, true, false, true, false, false, false] (w_X11_bill_169 _ _ _ _ _ h)
  · replace h := h.2 c
    refine hh_iload dX11_bill_146 rfl ?_
    refine hh_if_eq (tgt := 166) dX11_bill_148 (by decide) (fun c => ?_) (fun c => ?_)
    · replace h := h.1 c
      refine hh_iconst dX11_bill_166 (by decide) ?_
      exact hh_forget [true, true, false, true, true, true, false, false, false, false, false] (w_X11_bill_167 _ _ _ _ _ h)
    · replace h := h.2 c
      obtain ⟨q1, h⟩ := h
      refine hh_aload_n dX11_bill_151 rfl ?_
      refine hh_getR dX11_bill_152 kf_X11_10 rf_0_0 ?_
      refine hh_getR dX11_bill_155 kf_X11_117 rf_1_2 ?_
      refine hh_getR dX11_bill_158 kf_X11_306 rf_13_3 ?_
      refine hh_iload_n dX11_bill_161 rfl ?_
      refine hh_iald dX11_bill_162 ra_16 q1 rfl ?_
      refine hh_goto (tgt := 167) dX11_bill_163 (by decide) ?_
      exact hh_forget [true, true, false, true, true, true, false, false, false, false, false] (w_X11_bill_167 _ _ _ _ _ h)
set_option maxRecDepth 20000 in
theorem w_X11_bill {d : Nat} {a1 a2 a3 : Int} {σ : hh_S} {Q : Int → hh_S → Prop} (h : P_X11_bill d a1 a2 a3 σ Q) : hh_J (d + 1) hm_X11_bill 0 [some (hh_R 0), some (hh_I a1), some (hh_I a2), some (hh_I a3), none, none, none, none, none, none, none] [] σ Q := by
  unfold P_X11_bill at h
  refine hh_aload_n dX11_bill_0 rfl ?_
  refine hh_getR dX11_bill_1 kf_X11_10 rf_0_0 ?_
  refine hh_getR dX11_bill_4 kf_X11_117 rf_1_2 ?_
  refine hh_iload_n dX11_bill_7 rfl ?_
  refine hh_cV1 dX11_bill_8 lk_X11_128 mo_X5_has rc_13 (Nat.le_of_ble_eq_true rfl) h (fun r8 σ8 h => ?_)
  refine hh_if_eq (tgt := 32) dX11_bill_11 (by decide) (fun c => ?_) (fun c => ?_)
  · replace h := h.1 c
    refine hh_ldc (n := -1000000001) dX11_bill_32 kc_X11_74 (by decide) ?_
    exact hh_ireturn dX11_bill_34 rfl h
  · replace h := h.2 c
    refine hh_aload_n dX11_bill_14 rfl ?_
    refine hh_iload_n dX11_bill_15 rfl ?_
    refine hh_cV1 dX11_bill_16 lk_X11_164 mo_X11_isPast rc_0 (Nat.le_of_ble_eq_true rfl) h (fun r16 σ16 h => ?_)
    refine hh_if_eq (tgt := 32) dX11_bill_19 (by decide) (fun c => ?_) (fun c => ?_)
    · replace h := h.1 c
      refine hh_ldc (n := -1000000001) dX11_bill_32 kc_X11_74 (by decide) ?_
      exact hh_ireturn dX11_bill_34 rfl h
    · replace h := h.2 c
      refine hh_iload_n dX11_bill_22 rfl ?_
      refine hh_iconst dX11_bill_23 (by decide) ?_
      refine hh_bipush dX11_bill_24 (by decide) ?_
      refine hh_cS3 dX11_bill_26 lk_X11_70 mo_X11_within (Nat.le_of_ble_eq_true rfl) h (fun r26 σ26 h => ?_)
      refine hh_if_ne (tgt := 35) dX11_bill_29 (by decide) (fun c => ?_) (fun c => ?_)
      · replace h := h.1 c
        refine hh_aload_n dX11_bill_35 rfl ?_
        refine hh_getR dX11_bill_36 kf_X11_10 rf_0_0 ?_
        refine hh_getR dX11_bill_39 kf_X11_134 rf_1_5 ?_
        refine hh_astore dX11_bill_42 (by decide) rfl ?_
        refine hh_aload dX11_bill_44 rfl ?_
        refine hh_getI dX11_bill_46 kf_X11_299 rf_42_0 rfl ?_
        refine hh_bipush dX11_bill_49 (by decide) ?_
        refine hh_icmp_lt (tgt := 57) dX11_bill_51 (by decide) (fun c => ?_) (fun c => ?_)
        · replace h := h.1 c
          refine hh_aload dX11_bill_57 rfl ?_
          refine hh_getI dX11_bill_59 kf_X11_299 rf_42_0 rfl ?_
          refine hh_istore dX11_bill_62 (by decide) rfl ?_
          refine hh_aload dX11_bill_64 rfl ?_
          refine hh_iload_n dX11_bill_66 rfl ?_
          refine hh_cV1 dX11_bill_67 lk_X11_138 mo_X0_isAnyOf rc_42 (Nat.le_of_ble_eq_true rfl) h (fun r67 σ67 h => ?_)
          refine hh_if_ne (tgt := 77) dX11_bill_70 (by decide) (fun c => ?_) (fun c => ?_)
          · replace h := h.1 c
            refine hh_iconst dX11_bill_77 (by decide) ?_
            exact hh_forget [true, true, true, true, true, true, false, false, false, false, false] (w_X11_bill_78 _ _ _ _ _ _ h)
          · replace h := h.2 c
            refine hh_iconst dX11_bill_73 (by decide) ?_
            refine hh_goto (tgt := 78) dX11_bill_74 (by decide) ?_
            exact hh_forget [true, true, true, true, true, true, false, false, false, false, false] (w_X11_bill_78 _ _ _ _ _ _ h)
        · replace h := h.2 c
          refine hh_ldc (n := -1000000003) dX11_bill_54 kc_X11_84 (by decide) ?_
          exact hh_ireturn dX11_bill_56 rfl h
      · replace h := h.2 c
        refine hh_ldc (n := -1000000001) dX11_bill_32 kc_X11_74 (by decide) ?_
        exact hh_ireturn dX11_bill_34 rfl h
theorem wp_X11_bill {d : Nat} (a1 a2 a3 : Int) {σ : hh_S} {Q : Int → hh_S → Prop} (h : hh_cs σ → hh_can a1 → hh_can a2 → hh_can a3 → P_X11_bill d a1 a2 a3 σ Q) : hh_Sp (d + 1) hm_X11_bill [hh_R 0, hh_I a1, hh_I a2, hh_I a3] σ Q :=
  hh_entry rfl (Nat.le_of_ble_eq_true rfl) rfl (fun hs hc => w_X11_bill (h hs (hc _ (List.mem_of_getElem? (i := 1) rfl)) (hc _ (List.mem_of_getElem? (i := 2) rfl)) (hc _ (List.mem_of_getElem? (i := 3) rfl))))
def P_X11_about (d : Nat) (a1 a2 : Int) (σ : hh_S) (Q : Int → hh_S → Prop) : Prop :=
  hh_Sp d hm_X0_has [hh_R 42, hh_I a1] σ (fun r10 σ10 => (¬ r10 = 0 → (a2 < 0 ∨ 6 < a2 → Q (-1000000001) σ10) ∧ (a2 = 0 → ((0 ≤ a1 ∧ a1 < 16)) ∧ (Q (σ10 43 a1) σ10)) ∧ (a2 = 1 → ((0 ≤ a1 ∧ a1 < 16)) ∧ (Q (σ10 44 a1) σ10)) ∧ (a2 = 2 → ((0 ≤ a1 ∧ a1 < 16)) ∧ (Q (σ10 45 a1) σ10)) ∧ (a2 = 3 → ((0 ≤ a1 ∧ a1 < 16)) ∧ (Q (σ10 46 a1) σ10)) ∧ (a2 = 4 → ((0 ≤ a1 ∧ a1 < 16)) ∧ (Q (σ10 47 a1) σ10)) ∧ (a2 = 5 → ((0 ≤ a1 ∧ a1 < 16)) ∧ (Q (σ10 48 a1) σ10)) ∧ (a2 = 6 → hh_Sp d hm_X0_owedByAll [hh_R 42, hh_I a1] σ10 (fun r108 σ108 => Q r108 σ108))) ∧ (r10 = 0 → Q (-1000000001) σ10))
set_option maxRecDepth 20000 in
theorem w_X11_about {d : Nat} {a1 a2 : Int} {σ : hh_S} {Q : Int → hh_S → Prop} (h : P_X11_about d a1 a2 σ Q) : hh_J (d + 1) hm_X11_about 0 [some (hh_R 0), some (hh_I a1), some (hh_I a2), none] [] σ Q := by
  unfold P_X11_about at h
  refine hh_aload_n dX11_about_0 rfl ?_
  refine hh_getR dX11_about_1 kf_X11_10 rf_0_0 ?_
  refine hh_getR dX11_about_4 kf_X11_134 rf_1_5 ?_
  refine hh_astore_n dX11_about_7 (by decide) rfl ?_
  refine hh_aload_n dX11_about_8 rfl ?_
  refine hh_iload_n dX11_about_9 rfl ?_
  refine hh_cV1 dX11_about_10 lk_X11_333 mo_X0_has rc_42 (Nat.le_of_ble_eq_true rfl) h (fun r10 σ10 h => ?_)
  refine hh_if_ne (tgt := 19) dX11_about_13 (by decide) (fun c => ?_) (fun c => ?_)
  · replace h := h.1 c
    refine hh_iload_n dX11_about_19 rfl ?_
    refine hh_table dX11_about_20 (fun tgt ht c => ?_) ⟨112, by decide⟩ (fun c1 c2 => ?_)
    · obtain rfl : tgt = 112 := by omega
      replace h := h.1 c
      refine hh_ldc (n := -1000000001) dX11_about_112 kc_X11_74 (by decide) ?_
      exact hh_ireturn dX11_about_114 rfl h
    · rcases (show a2 = 0 ∨ a2 = 1 ∨ a2 = 2 ∨ a2 = 3 ∨ a2 = 4 ∨ a2 = 5 ∨ a2 = 6 by omega) with c | c | c | c | c | c | c
      · refine ⟨44, 64, by rw [c]; rfl, by decide, ?_⟩
        replace h := h.2.1 c
        obtain ⟨q1, h⟩ := h
        refine hh_aload_n dX11_about_64 rfl ?_
        refine hh_getR dX11_about_65 kf_X11_300 rf_42_1 ?_
        refine hh_iload_n dX11_about_68 rfl ?_
        refine hh_iald dX11_about_69 ra_43 q1 rfl ?_
        exact hh_ireturn dX11_about_70 rfl h
      · refine ⟨51, 71, by rw [c]; rfl, by decide, ?_⟩
        replace h := h.2.2.1 c
        obtain ⟨q1, h⟩ := h
        refine hh_aload_n dX11_about_71 rfl ?_
        refine hh_getR dX11_about_72 kf_X11_301 rf_42_2 ?_
        refine hh_iload_n dX11_about_75 rfl ?_
        refine hh_iald dX11_about_76 ra_44 q1 rfl ?_
        exact hh_ireturn dX11_about_77 rfl h
      · refine ⟨58, 78, by rw [c]; rfl, by decide, ?_⟩
        replace h := h.2.2.2.1 c
        obtain ⟨q1, h⟩ := h
        refine hh_aload_n dX11_about_78 rfl ?_
        refine hh_getR dX11_about_79 kf_X11_317 rf_42_3 ?_
        refine hh_iload_n dX11_about_82 rfl ?_
        refine hh_iald dX11_about_83 ra_45 q1 rfl ?_
        exact hh_ireturn dX11_about_84 rfl h
      · refine ⟨65, 85, by rw [c]; rfl, by decide, ?_⟩
        replace h := h.2.2.2.2.1 c
        obtain ⟨q1, h⟩ := h
        refine hh_aload_n dX11_about_85 rfl ?_
        refine hh_getR dX11_about_86 kf_X11_320 rf_42_4 ?_
        refine hh_iload_n dX11_about_89 rfl ?_
        refine hh_iald dX11_about_90 ra_46 q1 rfl ?_
        exact hh_ireturn dX11_about_91 rfl h
      · refine ⟨72, 92, by rw [c]; rfl, by decide, ?_⟩
        replace h := h.2.2.2.2.2.1 c
        obtain ⟨q1, h⟩ := h
        refine hh_aload_n dX11_about_92 rfl ?_
        refine hh_getR dX11_about_93 kf_X11_323 rf_42_5 ?_
        refine hh_iload_n dX11_about_96 rfl ?_
        refine hh_iald dX11_about_97 ra_47 q1 rfl ?_
        exact hh_ireturn dX11_about_98 rfl h
      · refine ⟨79, 99, by rw [c]; rfl, by decide, ?_⟩
        replace h := h.2.2.2.2.2.2.1 c
        obtain ⟨q1, h⟩ := h
        refine hh_aload_n dX11_about_99 rfl ?_
        refine hh_getR dX11_about_100 kf_X11_334 rf_42_6 ?_
        refine hh_iload_n dX11_about_103 rfl ?_
        refine hh_iald dX11_about_104 ra_48 q1 rfl ?_
        exact hh_ireturn dX11_about_105 rfl h
      · refine ⟨86, 106, by rw [c]; rfl, by decide, ?_⟩
        replace h := h.2.2.2.2.2.2.2 c
        refine hh_aload_n dX11_about_106 rfl ?_
        refine hh_iload_n dX11_about_107 rfl ?_
        refine hh_cV1 dX11_about_108 lk_X11_337 mo_X0_owedByAll rc_42 (Nat.le_of_ble_eq_true rfl) h (fun r108 σ108 h => ?_)
        exact hh_ireturn dX11_about_111 rfl h
  · replace h := h.2 c
    refine hh_ldc (n := -1000000001) dX11_about_16 kc_X11_74 (by decide) ?_
    exact hh_ireturn dX11_about_18 rfl h
theorem wp_X11_about {d : Nat} (a1 a2 : Int) {σ : hh_S} {Q : Int → hh_S → Prop} (h : hh_cs σ → hh_can a1 → hh_can a2 → P_X11_about d a1 a2 σ Q) : hh_Sp (d + 1) hm_X11_about [hh_R 0, hh_I a1, hh_I a2] σ Q :=
  hh_entry rfl (Nat.le_of_ble_eq_true rfl) rfl (fun hs hc => w_X11_about (h hs (hc _ (List.mem_of_getElem? (i := 1) rfl)) (hc _ (List.mem_of_getElem? (i := 2) rfl))))
def P_X11_interestOf (d : Nat) (a1 a2 : Int) (σ : hh_S) (Q : Int → hh_S → Prop) : Prop :=
  ((-2147483648 ≤ σ 1 8 - a2 ∧ σ 1 8 - a2 ≤ 2147483647) ∧ (-2147483648 ≤ σ 1 8 - a2 - (σ 54 2) ∧ σ 1 8 - a2 - (σ 54 2) ≤ 2147483647) ∧ (-9223372036854775808 ≤ a1 * (σ 54 1) ∧ a1 * (σ 54 1) ≤ 9223372036854775807) ∧ (-9223372036854775808 ≤ (a1 * (σ 54 1)) * (hh_max 0 (σ 1 8 - a2 - (σ 54 2))) ∧ (a1 * (σ 54 1)) * (hh_max 0 (σ 1 8 - a2 - (σ 54 2))) ≤ 9223372036854775807) ∧ 0 ≤ (a1 * (σ 54 1)) * (hh_max 0 (σ 1 8 - a2 - (σ 54 2))) ∧ (-2147483648 ≤ ((a1 * (σ 54 1)) * (hh_max 0 (σ 1 8 - a2 - (σ 54 2)))) / 36500 ∧ ((a1 * (σ 54 1)) * (hh_max 0 (σ 1 8 - a2 - (σ 54 2)))) / 36500 ≤ 2147483647)) ∧ (Q (((a1 * (σ 54 1)) * (hh_max 0 (σ 1 8 - a2 - (σ 54 2)))) / 36500) σ)
set_option maxRecDepth 20000 in
theorem w_X11_interestOf {d : Nat} {a1 a2 : Int} {σ : hh_S} {Q : Int → hh_S → Prop} (h : P_X11_interestOf d a1 a2 σ Q) : hh_J (d + 1) hm_X11_interestOf 0 [some (hh_R 0), some (hh_I a1), some (hh_I a2), none] [] σ Q := by
  unfold P_X11_interestOf at h
  obtain ⟨⟨q1, q2, q3, q4, q5, q6⟩, h⟩ := h
  refine hh_iconst dX11_interestOf_0 (by decide) ?_
  refine hh_aload_n dX11_interestOf_1 rfl ?_
  refine hh_getR dX11_interestOf_2 kf_X11_10 rf_0_0 ?_
  refine hh_getI dX11_interestOf_5 kf_X11_154 rf_1_8 rfl ?_
  refine hh_iload_n dX11_interestOf_8 rfl ?_
  refine hh_isub dX11_interestOf_9 q1 ?_
  refine hh_aload_n dX11_interestOf_10 rfl ?_
  refine hh_getR dX11_interestOf_11 kf_X11_10 rf_0_0 ?_
  refine hh_getR dX11_interestOf_14 kf_X11_161 rf_1_7 ?_
  refine hh_iconst dX11_interestOf_17 (by decide) ?_
  refine hh_iald dX11_interestOf_18 ra_54 (by decide) rfl ?_
  refine hh_isub dX11_interestOf_19 q2 ?_
  refine hh_mmax dX11_interestOf_20 km_X11_234 (Nat.le_of_ble_eq_true rfl) ?_
  refine hh_istore_n dX11_interestOf_23 (by decide) rfl ?_
  refine hh_iload_n dX11_interestOf_24 rfl ?_
  refine hh_i2l dX11_interestOf_25 ?_
  refine hh_aload_n dX11_interestOf_26 rfl ?_
  refine hh_getR dX11_interestOf_27 kf_X11_10 rf_0_0 ?_
  refine hh_getR dX11_interestOf_30 kf_X11_161 rf_1_7 ?_
  refine hh_iconst dX11_interestOf_33 (by decide) ?_
  refine hh_iald dX11_interestOf_34 ra_54 (by decide) rfl ?_
  refine hh_i2l dX11_interestOf_35 ?_
  refine hh_lmul dX11_interestOf_36 q3 ?_
  refine hh_iload_n dX11_interestOf_37 rfl ?_
  refine hh_i2l dX11_interestOf_38 ?_
  refine hh_lmul dX11_interestOf_39 q4 ?_
  refine hh_ldc2 (n := 36500) dX11_interestOf_40 kc_X11_408 (by decide) ?_
  refine hh_ldiv dX11_interestOf_43 q5 (by decide) ?_
  refine hh_l2i dX11_interestOf_44 q6 ?_
  exact hh_ireturn dX11_interestOf_45 rfl h
theorem wp_X11_interestOf {d : Nat} (a1 a2 : Int) {σ : hh_S} {Q : Int → hh_S → Prop} (h : hh_cs σ → hh_can a1 → hh_can a2 → P_X11_interestOf d a1 a2 σ Q) : hh_Sp (d + 1) hm_X11_interestOf [hh_R 0, hh_I a1, hh_I a2] σ Q :=
  hh_entry rfl (Nat.le_of_ble_eq_true rfl) rfl (fun hs hc => w_X11_interestOf (h hs (hc _ (List.mem_of_getElem? (i := 1) rfl)) (hc _ (List.mem_of_getElem? (i := 2) rfl))))
def P_X11_owedPlace (d : Nat) (a1 a2 : Int) (σ : hh_S) (Q : Int → hh_S → Prop) : Prop :=
  ((0 ≤ a1 ∧ a1 < 16)) ∧ (hh_Sp d hm_X5_payerPlace [hh_R 13, hh_I (σ 43 a1), hh_I a2] σ (fun r20 σ20 => (0 ≤ r20 → ((-2147483648 ≤ a1 * 3 ∧ a1 * 3 ≤ 2147483647) ∧ (-2147483648 ≤ a1 * 3 + r20 ∧ a1 * 3 + r20 ≤ 2147483647)) ∧ (Q (a1 * 3 + r20) σ20)) ∧ (¬ 0 ≤ r20 → Q (-1) σ20)))
set_option maxRecDepth 20000 in
theorem w_X11_owedPlace {d : Nat} {a1 a2 : Int} {σ : hh_S} {Q : Int → hh_S → Prop} (h : P_X11_owedPlace d a1 a2 σ Q) : hh_J (d + 1) hm_X11_owedPlace 0 [some (hh_R 0), some (hh_I a1), some (hh_I a2), none] [] σ Q := by
  unfold P_X11_owedPlace at h
  obtain ⟨q1, h⟩ := h
  refine hh_aload_n dX11_owedPlace_0 rfl ?_
  refine hh_getR dX11_owedPlace_1 kf_X11_10 rf_0_0 ?_
  refine hh_getR dX11_owedPlace_4 kf_X11_117 rf_1_2 ?_
  refine hh_aload_n dX11_owedPlace_7 rfl ?_
  refine hh_getR dX11_owedPlace_8 kf_X11_10 rf_0_0 ?_
  refine hh_getR dX11_owedPlace_11 kf_X11_134 rf_1_5 ?_
  refine hh_getR dX11_owedPlace_14 kf_X11_300 rf_42_1 ?_
  refine hh_iload_n dX11_owedPlace_17 rfl ?_
  refine hh_iald dX11_owedPlace_18 ra_43 q1 rfl ?_
  refine hh_iload_n dX11_owedPlace_19 rfl ?_
  refine hh_cV2 dX11_owedPlace_20 lk_X11_405 mo_X5_payerPlace rc_13 (Nat.le_of_ble_eq_true rfl) h (fun r20 σ20 h => ?_)
  refine hh_istore_n dX11_owedPlace_23 (by decide) rfl ?_
  refine hh_iload_n dX11_owedPlace_24 rfl ?_
  refine hh_if_ge (tgt := 32) dX11_owedPlace_25 (by decide) (fun c => ?_) (fun c => ?_)
  · replace h := h.1 c
    obtain ⟨⟨q1, q2⟩, h⟩ := h
    refine hh_iload_n dX11_owedPlace_32 rfl ?_
    refine hh_iconst dX11_owedPlace_33 (by decide) ?_
    refine hh_imul dX11_owedPlace_34 q1 ?_
    refine hh_iload_n dX11_owedPlace_35 rfl ?_
    refine hh_iadd dX11_owedPlace_36 q2 ?_
    exact hh_ireturn dX11_owedPlace_37 rfl h
  · replace h := h.2 c
    refine hh_iconst dX11_owedPlace_28 (by decide) ?_
    refine hh_goto (tgt := 37) dX11_owedPlace_29 (by decide) ?_
    exact hh_ireturn dX11_owedPlace_37 rfl h
theorem wp_X11_owedPlace {d : Nat} (a1 a2 : Int) {σ : hh_S} {Q : Int → hh_S → Prop} (h : hh_cs σ → hh_can a1 → hh_can a2 → P_X11_owedPlace d a1 a2 σ Q) : hh_Sp (d + 1) hm_X11_owedPlace [hh_R 0, hh_I a1, hh_I a2] σ Q :=
  hh_entry rfl (Nat.le_of_ble_eq_true rfl) rfl (fun hs hc => w_X11_owedPlace (h hs (hc _ (List.mem_of_getElem? (i := 1) rfl)) (hc _ (List.mem_of_getElem? (i := 2) rfl))))
def B_X11_owes_70 (d : Nat) (Q : Int → hh_S → Prop) (x1 x3 s0 : Int) (σ : hh_S) : Prop :=
  (¬ x3 = 0 → ((0 ≤ x1 ∧ x1 < 16)) ∧ (hh_Sp d hm_X11_interestOf [hh_R 0, hh_I s0, hh_I (σ 44 x1)] σ (fun r96 σ96 => Q r96 σ96))) ∧ (x3 = 0 → Q s0 σ)
def P_X11_owes (d : Nat) (a1 a2 a3 : Int) (σ : hh_S) (Q : Int → hh_S → Prop) : Prop :=
  hh_Sp d hm_X0_has [hh_R 42, hh_I a1] σ (fun r8 σ8 => (r8 = 0 → Q (-1000000001) σ8) ∧ (¬ r8 = 0 → hh_Sp d hm_X1_has [hh_R 6, hh_I a2] σ8 (fun r22 σ22 => (r22 = 0 → Q (-1000000001) σ22) ∧ (¬ r22 = 0 → hh_Sp d hm_X11_within [hh_I a3, hh_I 0, hh_I 1] σ22 (fun r31 σ31 => (¬ r31 = 0 → hh_Sp d hm_X11_owedPlace [hh_R 0, hh_I a1, hh_I a2] σ31 (fun r43 σ43 => (0 ≤ r43 → ((0 ≤ r43 ∧ r43 < 48)) ∧ (B_X11_owes_70 d Q a1 a3 (σ43 49 r43) σ43)) ∧ (¬ 0 ≤ r43 → B_X11_owes_70 d Q a1 a3 0 σ43))) ∧ (r31 = 0 → Q (-1000000001) σ31))))))
set_option maxRecDepth 20000 in
theorem w_X11_owes_70 {d : Nat} {Q : Int → hh_S → Prop} (x1 x3 s0 : Int) (σ : hh_S) (h : B_X11_owes_70 d Q x1 x3 s0 σ) : hh_J (d + 1) hm_X11_owes 70 [some (hh_R 0), some (hh_I x1), none, some (hh_I x3), none, none] [hh_I s0] σ Q := by
  unfold B_X11_owes_70 at h
  refine hh_istore dX11_owes_70 (by decide) rfl ?_
  refine hh_iload_n dX11_owes_72 rfl ?_
  refine hh_if_ne (tgt := 81) dX11_owes_73 (by decide) (fun c => ?_) (fun c => ?_)
  · replace h := h.1 c
    obtain ⟨q1, h⟩ := h
    refine hh_aload_n dX11_owes_81 rfl ?_
    refine hh_iload dX11_owes_82 rfl ?_
    refine hh_aload_n dX11_owes_84 rfl ?_
    refine hh_getR dX11_owes_85 kf_X11_10 rf_0_0 ?_
    refine hh_getR dX11_owes_88 kf_X11_134 rf_1_5 ?_
    refine hh_getR dX11_owes_91 kf_X11_301 rf_42_2 ?_
    refine hh_iload_n dX11_owes_94 rfl ?_
    refine hh_iald dX11_owes_95 ra_44 q1 rfl ?_
    refine hh_cV2 dX11_owes_96 lk_X11_343 mo_X11_interestOf rc_0 (Nat.le_of_ble_eq_true rfl) h (fun r96 σ96 h => ?_)
    exact hh_ireturn dX11_owes_99 rfl h
  · replace h := h.2 c
    refine hh_iload dX11_owes_76 rfl ?_
    refine hh_goto (tgt := 99) dX11_owes_78 (by decide) ?_
    exact hh_ireturn dX11_owes_99 rfl h
set_option maxRecDepth 20000 in
theorem w_X11_owes {d : Nat} {a1 a2 a3 : Int} {σ : hh_S} {Q : Int → hh_S → Prop} (h : P_X11_owes d a1 a2 a3 σ Q) : hh_J (d + 1) hm_X11_owes 0 [some (hh_R 0), some (hh_I a1), some (hh_I a2), some (hh_I a3), none, none] [] σ Q := by
  unfold P_X11_owes at h
  refine hh_aload_n dX11_owes_0 rfl ?_
  refine hh_getR dX11_owes_1 kf_X11_10 rf_0_0 ?_
  refine hh_getR dX11_owes_4 kf_X11_134 rf_1_5 ?_
  refine hh_iload_n dX11_owes_7 rfl ?_
  refine hh_cV1 dX11_owes_8 lk_X11_333 mo_X0_has rc_42 (Nat.le_of_ble_eq_true rfl) h (fun r8 σ8 h => ?_)
  refine hh_if_eq (tgt := 37) dX11_owes_11 (by decide) (fun c => ?_) (fun c => ?_)
  · replace h := h.1 c
    refine hh_ldc (n := -1000000001) dX11_owes_37 kc_X11_74 (by decide) ?_
    exact hh_ireturn dX11_owes_39 rfl h
  · replace h := h.2 c
    refine hh_aload_n dX11_owes_14 rfl ?_
    refine hh_getR dX11_owes_15 kf_X11_10 rf_0_0 ?_
    refine hh_getR dX11_owes_18 kf_X11_102 rf_1_1 ?_
    refine hh_iload_n dX11_owes_21 rfl ?_
    refine hh_cV1 dX11_owes_22 lk_X11_115 mo_X1_has rc_6 (Nat.le_of_ble_eq_true rfl) h (fun r22 σ22 h => ?_)
    refine hh_if_eq (tgt := 37) dX11_owes_25 (by decide) (fun c => ?_) (fun c => ?_)
    · replace h := h.1 c
      refine hh_ldc (n := -1000000001) dX11_owes_37 kc_X11_74 (by decide) ?_
      exact hh_ireturn dX11_owes_39 rfl h
    · replace h := h.2 c
      refine hh_iload_n dX11_owes_28 rfl ?_
      refine hh_iconst dX11_owes_29 (by decide) ?_
      refine hh_iconst dX11_owes_30 (by decide) ?_
      refine hh_cS3 dX11_owes_31 lk_X11_70 mo_X11_within (Nat.le_of_ble_eq_true rfl) h (fun r31 σ31 h => ?_)
      refine hh_if_ne (tgt := 40) dX11_owes_34 (by decide) (fun c => ?_) (fun c => ?_)
      · replace h := h.1 c
        refine hh_aload_n dX11_owes_40 rfl ?_
        refine hh_iload_n dX11_owes_41 rfl ?_
        refine hh_iload_n dX11_owes_42 rfl ?_
        refine hh_cV2 dX11_owes_43 lk_X11_340 mo_X11_owedPlace rc_0 (Nat.le_of_ble_eq_true rfl) h (fun r43 σ43 h => ?_)
        refine hh_istore dX11_owes_46 (by decide) rfl ?_
        refine hh_iload dX11_owes_48 rfl ?_
        refine hh_if_ge (tgt := 57) dX11_owes_50 (by decide) (fun c => ?_) (fun c => ?_)
        · replace h := h.1 c
          obtain ⟨q1, h⟩ := h
          refine hh_aload_n dX11_owes_57 rfl ?_
          refine hh_getR dX11_owes_58 kf_X11_10 rf_0_0 ?_
          refine hh_getR dX11_owes_61 kf_X11_134 rf_1_5 ?_
          refine hh_getR dX11_owes_64 kf_X11_330 rf_42_7 ?_
          refine hh_iload dX11_owes_67 rfl ?_
          refine hh_iald dX11_owes_69 ra_49 q1 rfl ?_
          exact hh_forget [true, true, false, true, false, false] (w_X11_owes_70 _ _ _ _ h)
        · replace h := h.2 c
          refine hh_iconst dX11_owes_53 (by decide) ?_
          refine hh_goto (tgt := 70) dX11_owes_54 (by decide) ?_
          exact hh_forget [true, true, false, true, false, false] (w_X11_owes_70 _ _ _ _ h)
      · replace h := h.2 c
        refine hh_ldc (n := -1000000001) dX11_owes_37 kc_X11_74 (by decide) ?_
        exact hh_ireturn dX11_owes_39 rfl h
theorem wp_X11_owes {d : Nat} (a1 a2 a3 : Int) {σ : hh_S} {Q : Int → hh_S → Prop} (h : hh_cs σ → hh_can a1 → hh_can a2 → hh_can a3 → P_X11_owes d a1 a2 a3 σ Q) : hh_Sp (d + 1) hm_X11_owes [hh_R 0, hh_I a1, hh_I a2, hh_I a3] σ Q :=
  hh_entry rfl (Nat.le_of_ble_eq_true rfl) rfl (fun hs hc => w_X11_owes (h hs (hc _ (List.mem_of_getElem? (i := 1) rfl)) (hc _ (List.mem_of_getElem? (i := 2) rfl)) (hc _ (List.mem_of_getElem? (i := 3) rfl))))
def P_X11_retain (d : Nat) (a1 a2 : Int) (σ : hh_S) (Q : Int → hh_S → Prop) : Prop :=
  hh_Sp d hm_X5_has [hh_R 13, hh_I a1] σ (fun r8 σ8 => (r8 = 0 → Q (-1000000001) σ8) ∧ (¬ r8 = 0 → hh_Sp d hm_X11_within [hh_I a2, hh_I 1, hh_I 99999] σ8 (fun r18 σ18 => (¬ r18 = 0 → ((0 ≤ a1 ∧ a1 < 10) ∧ (-2147483648 ≤ σ18 21 a1 + a2 ∧ σ18 21 a1 + a2 ≤ 2147483647)) ∧ ((σ18 21 a1 + a2 ≤ 999999 → ((0 ≤ a1 ∧ a1 < 10)) ∧ (Q (σ18 21 a1 + a2) (hh_up σ18 21 a1 (σ18 21 a1 + a2)))) ∧ (¬ σ18 21 a1 + a2 ≤ 999999 → Q (-1000000003) σ18))) ∧ (r18 = 0 → Q (-1000000001) σ18))))
set_option maxRecDepth 20000 in
theorem w_X11_retain {d : Nat} {a1 a2 : Int} {σ : hh_S} {Q : Int → hh_S → Prop} (h : P_X11_retain d a1 a2 σ Q) : hh_J (d + 1) hm_X11_retain 0 [some (hh_R 0), some (hh_I a1), some (hh_I a2), none] [] σ Q := by
  unfold P_X11_retain at h
  refine hh_aload_n dX11_retain_0 rfl ?_
  refine hh_getR dX11_retain_1 kf_X11_10 rf_0_0 ?_
  refine hh_getR dX11_retain_4 kf_X11_117 rf_1_2 ?_
  refine hh_iload_n dX11_retain_7 rfl ?_
  refine hh_cV1 dX11_retain_8 lk_X11_128 mo_X5_has rc_13 (Nat.le_of_ble_eq_true rfl) h (fun r8 σ8 h => ?_)
  refine hh_if_eq (tgt := 24) dX11_retain_11 (by decide) (fun c => ?_) (fun c => ?_)
  · replace h := h.1 c
    refine hh_ldc (n := -1000000001) dX11_retain_24 kc_X11_74 (by decide) ?_
    exact hh_ireturn dX11_retain_26 rfl h
  · replace h := h.2 c
    refine hh_iload_n dX11_retain_14 rfl ?_
    refine hh_iconst dX11_retain_15 (by decide) ?_
    refine hh_ldc (n := 99999) dX11_retain_16 kc_X11_116 (by decide) ?_
    refine hh_cS3 dX11_retain_18 lk_X11_70 mo_X11_within (Nat.le_of_ble_eq_true rfl) h (fun r18 σ18 h => ?_)
    refine hh_if_ne (tgt := 27) dX11_retain_21 (by decide) (fun c => ?_) (fun c => ?_)
    · replace h := h.1 c
      obtain ⟨⟨q1, q2⟩, h⟩ := h
      refine hh_aload_n dX11_retain_27 rfl ?_
      refine hh_getR dX11_retain_28 kf_X11_10 rf_0_0 ?_
      refine hh_getR dX11_retain_31 kf_X11_117 rf_1_2 ?_
      refine hh_getR dX11_retain_34 kf_X11_311 rf_13_8 ?_
      refine hh_iload_n dX11_retain_37 rfl ?_
      refine hh_iald dX11_retain_38 ra_21 q1 rfl ?_
      refine hh_iload_n dX11_retain_39 rfl ?_
      refine hh_iadd dX11_retain_40 q2 ?_
      refine hh_istore_n dX11_retain_41 (by decide) rfl ?_
      refine hh_iload_n dX11_retain_42 rfl ?_
      refine hh_ldc_w (n := 999999) dX11_retain_43 kc_X11_346 (by decide) ?_
      refine hh_icmp_le (tgt := 52) dX11_retain_46 (by decide) (fun c => ?_) (fun c => ?_)
      · replace h := h.1 c
        obtain ⟨q1, h⟩ := h
        refine hh_aload_n dX11_retain_52 rfl ?_
        refine hh_getR dX11_retain_53 kf_X11_10 rf_0_0 ?_
        refine hh_getR dX11_retain_56 kf_X11_117 rf_1_2 ?_
        refine hh_getR dX11_retain_59 kf_X11_311 rf_13_8 ?_
        refine hh_iload_n dX11_retain_62 rfl ?_
        refine hh_iload_n dX11_retain_63 rfl ?_
        refine hh_iast dX11_retain_64 ra_21 q1 ?_
        refine hh_iload_n dX11_retain_65 rfl ?_
        exact hh_ireturn dX11_retain_66 rfl h
      · replace h := h.2 c
        refine hh_ldc (n := -1000000003) dX11_retain_49 kc_X11_84 (by decide) ?_
        exact hh_ireturn dX11_retain_51 rfl h
    · replace h := h.2 c
      refine hh_ldc (n := -1000000001) dX11_retain_24 kc_X11_74 (by decide) ?_
      exact hh_ireturn dX11_retain_26 rfl h
theorem wp_X11_retain {d : Nat} (a1 a2 : Int) {σ : hh_S} {Q : Int → hh_S → Prop} (h : hh_cs σ → hh_can a1 → hh_can a2 → P_X11_retain d a1 a2 σ Q) : hh_Sp (d + 1) hm_X11_retain [hh_R 0, hh_I a1, hh_I a2] σ Q :=
  hh_entry rfl (Nat.le_of_ble_eq_true rfl) rfl (fun hs hc => w_X11_retain (h hs (hc _ (List.mem_of_getElem? (i := 1) rfl)) (hc _ (List.mem_of_getElem? (i := 2) rfl))))
def P_X11_trust (d : Nat) (a1 a2 : Int) (σ : hh_S) (Q : Int → hh_S → Prop) : Prop :=
  hh_Sp d hm_X1_has [hh_R 6, hh_I a1] σ (fun r8 σ8 => (r8 = 0 → Q (-1000000001) σ8) ∧ (¬ r8 = 0 → hh_Sp d hm_X11_within [hh_I a2, hh_I 0, hh_I 99999] σ8 (fun r18 σ18 => (¬ r18 = 0 → ((0 ≤ a1 ∧ a1 < 5) ∧ (-2147483648 ≤ σ18 7 a1 + a2 ∧ σ18 7 a1 + a2 ≤ 2147483647)) ∧ ((σ18 7 a1 + a2 ≤ 9999999 → ((0 ≤ a1 ∧ a1 < 5)) ∧ (Q (σ18 7 a1 + a2) (hh_up σ18 7 a1 (σ18 7 a1 + a2)))) ∧ (¬ σ18 7 a1 + a2 ≤ 9999999 → Q (-1000000003) σ18))) ∧ (r18 = 0 → Q (-1000000001) σ18))))
set_option maxRecDepth 20000 in
theorem w_X11_trust {d : Nat} {a1 a2 : Int} {σ : hh_S} {Q : Int → hh_S → Prop} (h : P_X11_trust d a1 a2 σ Q) : hh_J (d + 1) hm_X11_trust 0 [some (hh_R 0), some (hh_I a1), some (hh_I a2), none] [] σ Q := by
  unfold P_X11_trust at h
  refine hh_aload_n dX11_trust_0 rfl ?_
  refine hh_getR dX11_trust_1 kf_X11_10 rf_0_0 ?_
  refine hh_getR dX11_trust_4 kf_X11_102 rf_1_1 ?_
  refine hh_iload_n dX11_trust_7 rfl ?_
  refine hh_cV1 dX11_trust_8 lk_X11_115 mo_X1_has rc_6 (Nat.le_of_ble_eq_true rfl) h (fun r8 σ8 h => ?_)
  refine hh_if_eq (tgt := 24) dX11_trust_11 (by decide) (fun c => ?_) (fun c => ?_)
  · replace h := h.1 c
    refine hh_ldc (n := -1000000001) dX11_trust_24 kc_X11_74 (by decide) ?_
    exact hh_ireturn dX11_trust_26 rfl h
  · replace h := h.2 c
    refine hh_iload_n dX11_trust_14 rfl ?_
    refine hh_iconst dX11_trust_15 (by decide) ?_
    refine hh_ldc (n := 99999) dX11_trust_16 kc_X11_116 (by decide) ?_
    refine hh_cS3 dX11_trust_18 lk_X11_70 mo_X11_within (Nat.le_of_ble_eq_true rfl) h (fun r18 σ18 h => ?_)
    refine hh_if_ne (tgt := 27) dX11_trust_21 (by decide) (fun c => ?_) (fun c => ?_)
    · replace h := h.1 c
      obtain ⟨⟨q1, q2⟩, h⟩ := h
      refine hh_aload_n dX11_trust_27 rfl ?_
      refine hh_getR dX11_trust_28 kf_X11_10 rf_0_0 ?_
      refine hh_getR dX11_trust_31 kf_X11_102 rf_1_1 ?_
      refine hh_getR dX11_trust_34 kf_X11_109 rf_6_1 ?_
      refine hh_iload_n dX11_trust_37 rfl ?_
      refine hh_iald dX11_trust_38 ra_7 q1 rfl ?_
      refine hh_iload_n dX11_trust_39 rfl ?_
      refine hh_iadd dX11_trust_40 q2 ?_
      refine hh_istore_n dX11_trust_41 (by decide) rfl ?_
      refine hh_iload_n dX11_trust_42 rfl ?_
      refine hh_ldc_w (n := 9999999) dX11_trust_43 kc_X11_347 (by decide) ?_
      refine hh_icmp_le (tgt := 52) dX11_trust_46 (by decide) (fun c => ?_) (fun c => ?_)
      · replace h := h.1 c
        obtain ⟨q1, h⟩ := h
        refine hh_aload_n dX11_trust_52 rfl ?_
        refine hh_getR dX11_trust_53 kf_X11_10 rf_0_0 ?_
        refine hh_getR dX11_trust_56 kf_X11_102 rf_1_1 ?_
        refine hh_getR dX11_trust_59 kf_X11_109 rf_6_1 ?_
        refine hh_iload_n dX11_trust_62 rfl ?_
        refine hh_iload_n dX11_trust_63 rfl ?_
        refine hh_iast dX11_trust_64 ra_7 q1 ?_
        refine hh_iload_n dX11_trust_65 rfl ?_
        exact hh_ireturn dX11_trust_66 rfl h
      · replace h := h.2 c
        refine hh_ldc (n := -1000000003) dX11_trust_49 kc_X11_84 (by decide) ?_
        exact hh_ireturn dX11_trust_51 rfl h
    · replace h := h.2 c
      refine hh_ldc (n := -1000000001) dX11_trust_24 kc_X11_74 (by decide) ?_
      exact hh_ireturn dX11_trust_26 rfl h
theorem wp_X11_trust {d : Nat} (a1 a2 : Int) {σ : hh_S} {Q : Int → hh_S → Prop} (h : hh_cs σ → hh_can a1 → hh_can a2 → P_X11_trust d a1 a2 σ Q) : hh_Sp (d + 1) hm_X11_trust [hh_R 0, hh_I a1, hh_I a2] σ Q :=
  hh_entry rfl (Nat.le_of_ble_eq_true rfl) rfl (fun hs hc => w_X11_trust (h hs (hc _ (List.mem_of_getElem? (i := 1) rfl)) (hc _ (List.mem_of_getElem? (i := 2) rfl))))
def P_X11_draw (d : Nat) (a1 a2 : Int) (σ : hh_S) (Q : Int → hh_S → Prop) : Prop :=
  hh_Sp d hm_X0_has [hh_R 42, hh_I a1] σ (fun r8 σ8 => (r8 = 0 → Q (-1000000001) σ8) ∧ (¬ r8 = 0 → hh_Sp d hm_X1_has [hh_R 6, hh_I a2] σ8 (fun r22 σ22 => (¬ r22 = 0 → hh_Sp d hm_X11_owedPlace [hh_R 0, hh_I a1, hh_I a2] σ22 (fun r34 σ34 => (0 ≤ r34 → ((0 ≤ r34 ∧ r34 < 48) ∧ (0 ≤ a2 ∧ a2 < 5) ∧ (-2147483648 ≤ σ34 49 r34 - (hh_min (σ34 49 r34) (σ34 7 a2)) ∧ σ34 49 r34 - (hh_min (σ34 49 r34) (σ34 7 a2)) ≤ 2147483647) ∧ (-2147483648 ≤ σ34 7 a2 - (hh_min (σ34 49 r34) (σ34 7 a2)) ∧ σ34 7 a2 - (hh_min (σ34 49 r34) (σ34 7 a2)) ≤ 2147483647)) ∧ (Q (hh_min (σ34 49 r34) (σ34 7 a2)) (hh_up (hh_up σ34 49 r34 (σ34 49 r34 - (hh_min (σ34 49 r34) (σ34 7 a2)))) 7 a2 (σ34 7 a2 - (hh_min (σ34 49 r34) (σ34 7 a2)))))) ∧ (¬ 0 ≤ r34 → Q 0 σ34))) ∧ (r22 = 0 → Q (-1000000001) σ22))))
set_option maxRecDepth 20000 in
theorem w_X11_draw {d : Nat} {a1 a2 : Int} {σ : hh_S} {Q : Int → hh_S → Prop} (h : P_X11_draw d a1 a2 σ Q) : hh_J (d + 1) hm_X11_draw 0 [some (hh_R 0), some (hh_I a1), some (hh_I a2), none, none] [] σ Q := by
  unfold P_X11_draw at h
  refine hh_aload_n dX11_draw_0 rfl ?_
  refine hh_getR dX11_draw_1 kf_X11_10 rf_0_0 ?_
  refine hh_getR dX11_draw_4 kf_X11_134 rf_1_5 ?_
  refine hh_iload_n dX11_draw_7 rfl ?_
  refine hh_cV1 dX11_draw_8 lk_X11_333 mo_X0_has rc_42 (Nat.le_of_ble_eq_true rfl) h (fun r8 σ8 h => ?_)
  refine hh_if_eq (tgt := 28) dX11_draw_11 (by decide) (fun c => ?_) (fun c => ?_)
  · replace h := h.1 c
    refine hh_ldc (n := -1000000001) dX11_draw_28 kc_X11_74 (by decide) ?_
    exact hh_ireturn dX11_draw_30 rfl h
  · replace h := h.2 c
    refine hh_aload_n dX11_draw_14 rfl ?_
    refine hh_getR dX11_draw_15 kf_X11_10 rf_0_0 ?_
    refine hh_getR dX11_draw_18 kf_X11_102 rf_1_1 ?_
    refine hh_iload_n dX11_draw_21 rfl ?_
    refine hh_cV1 dX11_draw_22 lk_X11_115 mo_X1_has rc_6 (Nat.le_of_ble_eq_true rfl) h (fun r22 σ22 h => ?_)
    refine hh_if_ne (tgt := 31) dX11_draw_25 (by decide) (fun c => ?_) (fun c => ?_)
    · replace h := h.1 c
      refine hh_aload_n dX11_draw_31 rfl ?_
      refine hh_iload_n dX11_draw_32 rfl ?_
      refine hh_iload_n dX11_draw_33 rfl ?_
      refine hh_cV2 dX11_draw_34 lk_X11_340 mo_X11_owedPlace rc_0 (Nat.le_of_ble_eq_true rfl) h (fun r34 σ34 h => ?_)
      refine hh_istore_n dX11_draw_37 (by decide) rfl ?_
      refine hh_iload_n dX11_draw_38 rfl ?_
      refine hh_if_ge (tgt := 44) dX11_draw_39 (by decide) (fun c => ?_) (fun c => ?_)
      · replace h := h.1 c
        obtain ⟨⟨q1, q2, q3, q4⟩, h⟩ := h
        refine hh_aload_n dX11_draw_44 rfl ?_
        refine hh_getR dX11_draw_45 kf_X11_10 rf_0_0 ?_
        refine hh_getR dX11_draw_48 kf_X11_134 rf_1_5 ?_
        refine hh_getR dX11_draw_51 kf_X11_330 rf_42_7 ?_
        refine hh_iload_n dX11_draw_54 rfl ?_
        refine hh_iald dX11_draw_55 ra_49 q1 rfl ?_
        refine hh_aload_n dX11_draw_56 rfl ?_
        refine hh_getR dX11_draw_57 kf_X11_10 rf_0_0 ?_
        refine hh_getR dX11_draw_60 kf_X11_102 rf_1_1 ?_
        refine hh_getR dX11_draw_63 kf_X11_109 rf_6_1 ?_
        refine hh_iload_n dX11_draw_66 rfl ?_
        refine hh_iald dX11_draw_67 ra_7 q2 rfl ?_
        refine hh_mmin dX11_draw_68 km_X11_314 (Nat.le_of_ble_eq_true rfl) ?_
        refine hh_istore dX11_draw_71 (by decide) rfl ?_
        refine hh_aload_n dX11_draw_73 rfl ?_
        refine hh_getR dX11_draw_74 kf_X11_10 rf_0_0 ?_
        refine hh_getR dX11_draw_77 kf_X11_134 rf_1_5 ?_
        refine hh_getR dX11_draw_80 kf_X11_330 rf_42_7 ?_
        refine hh_iload_n dX11_draw_83 rfl ?_
        refine hh_dup2 dX11_draw_84 (fun _ => rfl) (fun _ => rfl) ?_
        refine hh_iald dX11_draw_85 ra_49 q1 rfl ?_
        refine hh_iload dX11_draw_86 rfl ?_
        refine hh_isub dX11_draw_88 q3 ?_
        refine hh_iast dX11_draw_89 ra_49 q1 ?_
        refine hh_aload_n dX11_draw_90 rfl ?_
        refine hh_getR dX11_draw_91 kf_X11_10 rf_0_0 ?_
        refine hh_getR dX11_draw_94 kf_X11_102 rf_1_1 ?_
        refine hh_getR dX11_draw_97 kf_X11_109 rf_6_1 ?_
        refine hh_iload_n dX11_draw_100 rfl ?_
        refine hh_dup2 dX11_draw_101 (fun _ => rfl) (fun _ => rfl) ?_
        refine hh_iald dX11_draw_102 ra_7 q2 rfl ?_
        refine hh_iload dX11_draw_103 rfl ?_
        refine hh_isub dX11_draw_105 q4 ?_
        refine hh_iast dX11_draw_106 ra_7 q2 ?_
        refine hh_iload dX11_draw_107 rfl ?_
        exact hh_ireturn dX11_draw_109 rfl h
      · replace h := h.2 c
        refine hh_iconst dX11_draw_42 (by decide) ?_
        exact hh_ireturn dX11_draw_43 rfl h
    · replace h := h.2 c
      refine hh_ldc (n := -1000000001) dX11_draw_28 kc_X11_74 (by decide) ?_
      exact hh_ireturn dX11_draw_30 rfl h
theorem wp_X11_draw {d : Nat} (a1 a2 : Int) {σ : hh_S} {Q : Int → hh_S → Prop} (h : hh_cs σ → hh_can a1 → hh_can a2 → P_X11_draw d a1 a2 σ Q) : hh_Sp (d + 1) hm_X11_draw [hh_R 0, hh_I a1, hh_I a2] σ Q :=
  hh_entry rfl (Nat.le_of_ble_eq_true rfl) rfl (fun hs hc => w_X11_draw (h hs (hc _ (List.mem_of_getElem? (i := 1) rfl)) (hc _ (List.mem_of_getElem? (i := 2) rfl))))
def P_X11_pay (d : Nat) (a1 a2 a3 : Int) (σ : hh_S) (Q : Int → hh_S → Prop) : Prop :=
  hh_Sp d hm_X0_has [hh_R 42, hh_I a1] σ (fun r8 σ8 => (r8 = 0 → Q (-1000000001) σ8) ∧ (¬ r8 = 0 → hh_Sp d hm_X1_has [hh_R 6, hh_I a2] σ8 (fun r22 σ22 => (r22 = 0 → Q (-1000000001) σ22) ∧ (¬ r22 = 0 → hh_Sp d hm_X11_within [hh_I a3, hh_I 1, hh_I 99999] σ22 (fun r32 σ32 => (¬ r32 = 0 → hh_Sp d hm_X11_owedPlace [hh_R 0, hh_I a1, hh_I a2] σ32 (fun r44 σ44 => (0 ≤ r44 → ((0 ≤ r44 ∧ r44 < 48) ∧ (-2147483648 ≤ a3 - (hh_min (σ44 49 r44) a3) ∧ a3 - (hh_min (σ44 49 r44) a3) ≤ 2147483647) ∧ (0 ≤ a2 ∧ a2 < 5) ∧ (-2147483648 ≤ σ44 7 a2 + (a3 - (hh_min (σ44 49 r44) a3)) ∧ σ44 7 a2 + (a3 - (hh_min (σ44 49 r44) a3)) ≤ 2147483647)) ∧ ((σ44 7 a2 + (a3 - (hh_min (σ44 49 r44) a3)) ≤ 9999999 → ((0 ≤ r44 ∧ r44 < 48) ∧ (-2147483648 ≤ σ44 49 r44 - (hh_min (σ44 49 r44) a3) ∧ σ44 49 r44 - (hh_min (σ44 49 r44) a3) ≤ 2147483647) ∧ (0 ≤ a2 ∧ a2 < 5) ∧ (-2147483648 ≤ σ44 7 a2 + (a3 - (hh_min (σ44 49 r44) a3)) ∧ σ44 7 a2 + (a3 - (hh_min (σ44 49 r44) a3)) ≤ 2147483647)) ∧ (Q (a3 - (hh_min (σ44 49 r44) a3)) (hh_up (hh_up σ44 49 r44 (σ44 49 r44 - (hh_min (σ44 49 r44) a3))) 7 a2 (σ44 7 a2 + (a3 - (hh_min (σ44 49 r44) a3)))))) ∧ (¬ σ44 7 a2 + (a3 - (hh_min (σ44 49 r44) a3)) ≤ 9999999 → Q (-1000000003) σ44))) ∧ (¬ 0 ≤ r44 → Q (-1000000002) σ44))) ∧ (r32 = 0 → Q (-1000000001) σ32))))))
set_option maxRecDepth 20000 in
theorem w_X11_pay {d : Nat} {a1 a2 a3 : Int} {σ : hh_S} {Q : Int → hh_S → Prop} (h : P_X11_pay d a1 a2 a3 σ Q) : hh_J (d + 1) hm_X11_pay 0 [some (hh_R 0), some (hh_I a1), some (hh_I a2), some (hh_I a3), none, none, none] [] σ Q := by
  unfold P_X11_pay at h
  refine hh_aload_n dX11_pay_0 rfl ?_
  refine hh_getR dX11_pay_1 kf_X11_10 rf_0_0 ?_
  refine hh_getR dX11_pay_4 kf_X11_134 rf_1_5 ?_
  refine hh_iload_n dX11_pay_7 rfl ?_
  refine hh_cV1 dX11_pay_8 lk_X11_333 mo_X0_has rc_42 (Nat.le_of_ble_eq_true rfl) h (fun r8 σ8 h => ?_)
  refine hh_if_eq (tgt := 38) dX11_pay_11 (by decide) (fun c => ?_) (fun c => ?_)
  · replace h := h.1 c
    refine hh_ldc (n := -1000000001) dX11_pay_38 kc_X11_74 (by decide) ?_
    exact hh_ireturn dX11_pay_40 rfl h
  · replace h := h.2 c
    refine hh_aload_n dX11_pay_14 rfl ?_
    refine hh_getR dX11_pay_15 kf_X11_10 rf_0_0 ?_
    refine hh_getR dX11_pay_18 kf_X11_102 rf_1_1 ?_
    refine hh_iload_n dX11_pay_21 rfl ?_
    refine hh_cV1 dX11_pay_22 lk_X11_115 mo_X1_has rc_6 (Nat.le_of_ble_eq_true rfl) h (fun r22 σ22 h => ?_)
    refine hh_if_eq (tgt := 38) dX11_pay_25 (by decide) (fun c => ?_) (fun c => ?_)
    · replace h := h.1 c
      refine hh_ldc (n := -1000000001) dX11_pay_38 kc_X11_74 (by decide) ?_
      exact hh_ireturn dX11_pay_40 rfl h
    · replace h := h.2 c
      refine hh_iload_n dX11_pay_28 rfl ?_
      refine hh_iconst dX11_pay_29 (by decide) ?_
      refine hh_ldc (n := 99999) dX11_pay_30 kc_X11_116 (by decide) ?_
      refine hh_cS3 dX11_pay_32 lk_X11_70 mo_X11_within (Nat.le_of_ble_eq_true rfl) h (fun r32 σ32 h => ?_)
      refine hh_if_ne (tgt := 41) dX11_pay_35 (by decide) (fun c => ?_) (fun c => ?_)
      · replace h := h.1 c
        refine hh_aload_n dX11_pay_41 rfl ?_
        refine hh_iload_n dX11_pay_42 rfl ?_
        refine hh_iload_n dX11_pay_43 rfl ?_
        refine hh_cV2 dX11_pay_44 lk_X11_340 mo_X11_owedPlace rc_0 (Nat.le_of_ble_eq_true rfl) h (fun r44 σ44 h => ?_)
        refine hh_istore dX11_pay_47 (by decide) rfl ?_
        refine hh_iload dX11_pay_49 rfl ?_
        refine hh_if_ge (tgt := 57) dX11_pay_51 (by decide) (fun c => ?_) (fun c => ?_)
        · replace h := h.1 c
          obtain ⟨⟨q1, q2, q3, q4⟩, h⟩ := h
          refine hh_aload_n dX11_pay_57 rfl ?_
          refine hh_getR dX11_pay_58 kf_X11_10 rf_0_0 ?_
          refine hh_getR dX11_pay_61 kf_X11_134 rf_1_5 ?_
          refine hh_getR dX11_pay_64 kf_X11_330 rf_42_7 ?_
          refine hh_iload dX11_pay_67 rfl ?_
          refine hh_iald dX11_pay_69 ra_49 q1 rfl ?_
          refine hh_iload_n dX11_pay_70 rfl ?_
          refine hh_mmin dX11_pay_71 km_X11_314 (Nat.le_of_ble_eq_true rfl) ?_
          refine hh_istore dX11_pay_74 (by decide) rfl ?_
          refine hh_iload_n dX11_pay_76 rfl ?_
          refine hh_iload dX11_pay_77 rfl ?_
          refine hh_isub dX11_pay_79 q2 ?_
          refine hh_istore dX11_pay_80 (by decide) rfl ?_
          refine hh_aload_n dX11_pay_82 rfl ?_
          refine hh_getR dX11_pay_83 kf_X11_10 rf_0_0 ?_
          refine hh_getR dX11_pay_86 kf_X11_102 rf_1_1 ?_
          refine hh_getR dX11_pay_89 kf_X11_109 rf_6_1 ?_
          refine hh_iload_n dX11_pay_92 rfl ?_
          refine hh_iald dX11_pay_93 ra_7 q3 rfl ?_
          refine hh_iload dX11_pay_94 rfl ?_
          refine hh_iadd dX11_pay_96 q4 ?_
          refine hh_ldc_w (n := 9999999) dX11_pay_97 kc_X11_347 (by decide) ?_
          refine hh_icmp_le (tgt := 106) dX11_pay_100 (by decide) (fun c => ?_) (fun c => ?_)
          · replace h := h.1 c
            obtain ⟨⟨q1, q2, q3, q4⟩, h⟩ := h
            refine hh_aload_n dX11_pay_106 rfl ?_
            refine hh_getR dX11_pay_107 kf_X11_10 rf_0_0 ?_
            refine hh_getR dX11_pay_110 kf_X11_134 rf_1_5 ?_
            refine hh_getR dX11_pay_113 kf_X11_330 rf_42_7 ?_
            refine hh_iload dX11_pay_116 rfl ?_
            refine hh_dup2 dX11_pay_118 (fun _ => rfl) (fun _ => rfl) ?_
            refine hh_iald dX11_pay_119 ra_49 q1 rfl ?_
            refine hh_iload dX11_pay_120 rfl ?_
            refine hh_isub dX11_pay_122 q2 ?_
            refine hh_iast dX11_pay_123 ra_49 q1 ?_
            refine hh_aload_n dX11_pay_124 rfl ?_
            refine hh_getR dX11_pay_125 kf_X11_10 rf_0_0 ?_
            refine hh_getR dX11_pay_128 kf_X11_102 rf_1_1 ?_
            refine hh_getR dX11_pay_131 kf_X11_109 rf_6_1 ?_
            refine hh_iload_n dX11_pay_134 rfl ?_
            refine hh_dup2 dX11_pay_135 (fun _ => rfl) (fun _ => rfl) ?_
            refine hh_iald dX11_pay_136 ra_7 q3 rfl ?_
            refine hh_iload dX11_pay_137 rfl ?_
            refine hh_iadd dX11_pay_139 q4 ?_
            refine hh_iast dX11_pay_140 ra_7 q3 ?_
            refine hh_iload dX11_pay_141 rfl ?_
            exact hh_ireturn dX11_pay_143 rfl h
          · replace h := h.2 c
            refine hh_ldc (n := -1000000003) dX11_pay_103 kc_X11_84 (by decide) ?_
            exact hh_ireturn dX11_pay_105 rfl h
        · replace h := h.2 c
          refine hh_ldc (n := -1000000002) dX11_pay_54 kc_X11_143 (by decide) ?_
          exact hh_ireturn dX11_pay_56 rfl h
      · replace h := h.2 c
        refine hh_ldc (n := -1000000001) dX11_pay_38 kc_X11_74 (by decide) ?_
        exact hh_ireturn dX11_pay_40 rfl h
theorem wp_X11_pay {d : Nat} (a1 a2 a3 : Int) {σ : hh_S} {Q : Int → hh_S → Prop} (h : hh_cs σ → hh_can a1 → hh_can a2 → hh_can a3 → P_X11_pay d a1 a2 a3 σ Q) : hh_Sp (d + 1) hm_X11_pay [hh_R 0, hh_I a1, hh_I a2, hh_I a3] σ Q :=
  hh_entry rfl (Nat.le_of_ble_eq_true rfl) rfl (fun hs hc => w_X11_pay (h hs (hc _ (List.mem_of_getElem? (i := 1) rfl)) (hc _ (List.mem_of_getElem? (i := 2) rfl)) (hc _ (List.mem_of_getElem? (i := 3) rfl))))
def B_X11_canGiveBack_15 (d : Nat) (Q : Int → hh_S → Prop) (k15 : Int → Int → Int → hh_S → Prop) (x1 x2 x3 : Int) (σ : hh_S) : Prop :=
  ((0 ≤ x2 ∧ x2 < 10)) ∧ ((σ 17 x2 ≤ x3 → Q 1 σ) ∧ (¬ σ 17 x2 ≤ x3 → ((0 ≤ x3 ∧ x3 < 3) ∧ (-2147483648 ≤ x1 * 3 ∧ x1 * 3 ≤ 2147483647) ∧ (-2147483648 ≤ x1 * 3 + x3 ∧ x1 * 3 + x3 ≤ 2147483647) ∧ (0 ≤ x1 * 3 + x3 ∧ x1 * 3 + x3 < 48) ∧ (-2147483648 ≤ σ 127 x3 - (σ 49 (x1 * 3 + x3)) ∧ σ 127 x3 - (σ 49 (x1 * 3 + x3)) ≤ 2147483647) ∧ (-2147483648 ≤ x2 * 3 ∧ x2 * 3 ≤ 2147483647) ∧ (-2147483648 ≤ x2 * 3 + x3 ∧ x2 * 3 + x3 ≤ 2147483647) ∧ (0 ≤ x2 * 3 + x3 ∧ x2 * 3 + x3 < 30) ∧ (0 ≤ σ 18 (x2 * 3 + x3) ∧ σ 18 (x2 * 3 + x3) < 5) ∧ (-2147483648 ≤ σ 7 (σ 18 (x2 * 3 + x3)) + (hh_max 0 (σ 127 x3 - (σ 49 (x1 * 3 + x3)))) ∧ σ 7 (σ 18 (x2 * 3 + x3)) + (hh_max 0 (σ 127 x3 - (σ 49 (x1 * 3 + x3)))) ≤ 2147483647)) ∧ ((σ 7 (σ 18 (x2 * 3 + x3)) + (hh_max 0 (σ 127 x3 - (σ 49 (x1 * 3 + x3)))) ≤ 9999999 → ((-2147483648 ≤ x3 + 1 ∧ x3 + 1 ≤ 2147483647)) ∧ (k15 x1 x2 (x3 + 1) σ)) ∧ (¬ σ 7 (σ 18 (x2 * 3 + x3)) + (hh_max 0 (σ 127 x3 - (σ 49 (x1 * 3 + x3)))) ≤ 9999999 → Q 0 σ))))
def P_X11_canGiveBack (d : Nat) (a1 : Int) (σ : hh_S) (Q : Int → hh_S → Prop) : Prop :=
  ((0 ≤ a1 ∧ a1 < 16)) ∧ (∃ n, hh_lp3 (B_X11_canGiveBack_15 d Q) n a1 (σ 43 a1) 0 σ)
set_option maxRecDepth 20000 in
theorem w_X11_canGiveBack_15 {d : Nat} {Q : Int → hh_S → Prop} {k15 : Int → Int → Int → hh_S → Prop} (hk15 : ∀ (x1 x2 x3 : Int) (σ : hh_S), k15 x1 x2 x3 σ → hh_J (d + 1) hm_X11_canGiveBack 15 [some (hh_R 0), some (hh_I x1), some (hh_I x2), some (hh_I x3), none, none] [] σ Q) (x1 x2 x3 : Int) (σ : hh_S) (h : B_X11_canGiveBack_15 d Q k15 x1 x2 x3 σ) : hh_J (d + 1) hm_X11_canGiveBack 15 [some (hh_R 0), some (hh_I x1), some (hh_I x2), some (hh_I x3), none, none] [] σ Q := by
  unfold B_X11_canGiveBack_15 at h
  obtain ⟨q1, h⟩ := h
  refine hh_iload_n dX11_canGiveBack_15 rfl ?_
  refine hh_aload_n dX11_canGiveBack_16 rfl ?_
  refine hh_getR dX11_canGiveBack_17 kf_X11_10 rf_0_0 ?_
  refine hh_getR dX11_canGiveBack_20 kf_X11_117 rf_1_2 ?_
  refine hh_getR dX11_canGiveBack_23 kf_X11_148 rf_13_4 ?_
  refine hh_iload_n dX11_canGiveBack_26 rfl ?_
  refine hh_iald dX11_canGiveBack_27 ra_17 q1 rfl ?_
  refine hh_icmp_ge (tgt := 108) dX11_canGiveBack_28 (by decide) (fun c => ?_) (fun c => ?_)
  · replace h := h.1 c
    refine hh_iconst dX11_canGiveBack_108 (by decide) ?_
    exact hh_zreturn dX11_canGiveBack_109 rfl (by decide) h
  · replace h := h.2 c
    obtain ⟨⟨q1, q2, q3, q4, q5, q6, q7, q8, q9, q10⟩, h⟩ := h
    refine hh_iconst dX11_canGiveBack_31 (by decide) ?_
    refine hh_aload_n dX11_canGiveBack_32 rfl ?_
    refine hh_getR dX11_canGiveBack_33 kf_X11_67 rf_0_12 ?_
    refine hh_iload_n dX11_canGiveBack_36 rfl ?_
    refine hh_iald dX11_canGiveBack_37 ra_127 q1 rfl ?_
    refine hh_aload_n dX11_canGiveBack_38 rfl ?_
    refine hh_getR dX11_canGiveBack_39 kf_X11_10 rf_0_0 ?_
    refine hh_getR dX11_canGiveBack_42 kf_X11_134 rf_1_5 ?_
    refine hh_getR dX11_canGiveBack_45 kf_X11_330 rf_42_7 ?_
    refine hh_iload_n dX11_canGiveBack_48 rfl ?_
    refine hh_iconst dX11_canGiveBack_49 (by decide) ?_
    refine hh_imul dX11_canGiveBack_50 q2 ?_
    refine hh_iload_n dX11_canGiveBack_51 rfl ?_
    refine hh_iadd dX11_canGiveBack_52 q3 ?_
    refine hh_iald dX11_canGiveBack_53 ra_49 q4 rfl ?_
    refine hh_isub dX11_canGiveBack_54 q5 ?_
    refine hh_mmax dX11_canGiveBack_55 km_X11_234 (Nat.le_of_ble_eq_true rfl) ?_
    refine hh_istore dX11_canGiveBack_58 (by decide) rfl ?_
    refine hh_aload_n dX11_canGiveBack_60 rfl ?_
    refine hh_getR dX11_canGiveBack_61 kf_X11_10 rf_0_0 ?_
    refine hh_getR dX11_canGiveBack_64 kf_X11_117 rf_1_2 ?_
    refine hh_getR dX11_canGiveBack_67 kf_X11_410 rf_13_5 ?_
    refine hh_iload_n dX11_canGiveBack_70 rfl ?_
    refine hh_iconst dX11_canGiveBack_71 (by decide) ?_
    refine hh_imul dX11_canGiveBack_72 q6 ?_
    refine hh_iload_n dX11_canGiveBack_73 rfl ?_
    refine hh_iadd dX11_canGiveBack_74 q7 ?_
    refine hh_iald dX11_canGiveBack_75 ra_18 q8 rfl ?_
    refine hh_istore dX11_canGiveBack_76 (by decide) rfl ?_
    refine hh_aload_n dX11_canGiveBack_78 rfl ?_
    refine hh_getR dX11_canGiveBack_79 kf_X11_10 rf_0_0 ?_
    refine hh_getR dX11_canGiveBack_82 kf_X11_102 rf_1_1 ?_
    refine hh_getR dX11_canGiveBack_85 kf_X11_109 rf_6_1 ?_
    refine hh_iload dX11_canGiveBack_88 rfl ?_
    refine hh_iald dX11_canGiveBack_90 ra_7 q9 rfl ?_
    refine hh_iload dX11_canGiveBack_91 rfl ?_
    refine hh_iadd dX11_canGiveBack_93 q10 ?_
    refine hh_ldc_w (n := 9999999) dX11_canGiveBack_94 kc_X11_347 (by decide) ?_
    refine hh_icmp_le (tgt := 102) dX11_canGiveBack_97 (by decide) (fun c => ?_) (fun c => ?_)
    · replace h := h.1 c
      obtain ⟨q1, h⟩ := h
      refine hh_iinc dX11_canGiveBack_102 (by decide) rfl rfl q1 ?_
      refine hh_goto (tgt := 15) dX11_canGiveBack_105 (by decide) ?_
      exact hh_forget [true, true, true, true, false, false] (hk15 _ _ _ _ h)
    · replace h := h.2 c
      refine hh_iconst dX11_canGiveBack_100 (by decide) ?_
      exact hh_zreturn dX11_canGiveBack_101 rfl (by decide) h
theorem l_X11_canGiveBack_15 {d : Nat} {Q : Int → hh_S → Prop} : ∀ (n : Nat) (x1 x2 x3 : Int) (σ : hh_S), hh_lp3 (B_X11_canGiveBack_15 d Q) n x1 x2 x3 σ → hh_J (d + 1) hm_X11_canGiveBack 15 [some (hh_R 0), some (hh_I x1), some (hh_I x2), some (hh_I x3), none, none] [] σ Q := by
  intro n
  induction n with
  | zero => intro _ _ _ _ h; exact h.elim
  | succ n ih => intro x1 x2 x3 σ h; exact w_X11_canGiveBack_15 ih x1 x2 x3 σ h
set_option maxRecDepth 20000 in
theorem w_X11_canGiveBack {d : Nat} {a1 : Int} {σ : hh_S} {Q : Int → hh_S → Prop} (h : P_X11_canGiveBack d a1 σ Q) : hh_J (d + 1) hm_X11_canGiveBack 0 [some (hh_R 0), some (hh_I a1), none, none, none, none] [] σ Q := by
  unfold P_X11_canGiveBack at h
  obtain ⟨q1, h⟩ := h
  refine hh_aload_n dX11_canGiveBack_0 rfl ?_
  refine hh_getR dX11_canGiveBack_1 kf_X11_10 rf_0_0 ?_
  refine hh_getR dX11_canGiveBack_4 kf_X11_134 rf_1_5 ?_
  refine hh_getR dX11_canGiveBack_7 kf_X11_300 rf_42_1 ?_
  refine hh_iload_n dX11_canGiveBack_10 rfl ?_
  refine hh_iald dX11_canGiveBack_11 ra_43 q1 rfl ?_
  refine hh_istore_n dX11_canGiveBack_12 (by decide) rfl ?_
  refine hh_iconst dX11_canGiveBack_13 (by decide) ?_
  refine hh_istore_n dX11_canGiveBack_14 (by decide) rfl ?_
  obtain ⟨n, h⟩ := h
  exact hh_forget [true, true, true, true, false, false] (l_X11_canGiveBack_15 n _ _ _ _ h)
theorem wp_X11_canGiveBack {d : Nat} (a1 : Int) {σ : hh_S} {Q : Int → hh_S → Prop} (h : hh_cs σ → hh_can a1 → P_X11_canGiveBack d a1 σ Q) : hh_Sp (d + 1) hm_X11_canGiveBack [hh_R 0, hh_I a1] σ Q :=
  hh_entry rfl (Nat.le_of_ble_eq_true rfl) rfl (fun hs hc => w_X11_canGiveBack (h hs (hc _ (List.mem_of_getElem? (i := 1) rfl))))
def B_X11_giveBack_15 (d : Nat) (Q : Int → hh_S → Prop) (k15 : Int → Int → Int → hh_S → Prop) (x1 x2 x3 : Int) (σ : hh_S) : Prop :=
  ((0 ≤ x2 ∧ x2 < 10)) ∧ ((σ 17 x2 ≤ x3 → Q 0 σ) ∧ (¬ σ 17 x2 ≤ x3 → ((-2147483648 ≤ x1 * 3 ∧ x1 * 3 ≤ 2147483647) ∧ (-2147483648 ≤ x1 * 3 + x3 ∧ x1 * 3 + x3 ≤ 2147483647) ∧ (0 ≤ x3 ∧ x3 < 3) ∧ (0 ≤ x1 * 3 + x3 ∧ x1 * 3 + x3 < 48) ∧ (-2147483648 ≤ x2 * 3 ∧ x2 * 3 ≤ 2147483647) ∧ (-2147483648 ≤ x2 * 3 + x3 ∧ x2 * 3 + x3 ≤ 2147483647) ∧ (0 ≤ x2 * 3 + x3 ∧ x2 * 3 + x3 < 30) ∧ (-2147483648 ≤ σ 49 (x1 * 3 + x3) - (hh_min (σ 127 x3) (σ 49 (x1 * 3 + x3))) ∧ σ 49 (x1 * 3 + x3) - (hh_min (σ 127 x3) (σ 49 (x1 * 3 + x3))) ≤ 2147483647) ∧ (0 ≤ σ 18 (x2 * 3 + x3) ∧ σ 18 (x2 * 3 + x3) < 5) ∧ (-2147483648 ≤ σ 127 x3 - (hh_min (σ 127 x3) (σ 49 (x1 * 3 + x3))) ∧ σ 127 x3 - (hh_min (σ 127 x3) (σ 49 (x1 * 3 + x3))) ≤ 2147483647) ∧ (-2147483648 ≤ σ 7 (σ 18 (x2 * 3 + x3)) + (σ 127 x3 - (hh_min (σ 127 x3) (σ 49 (x1 * 3 + x3)))) ∧ σ 7 (σ 18 (x2 * 3 + x3)) + (σ 127 x3 - (hh_min (σ 127 x3) (σ 49 (x1 * 3 + x3)))) ≤ 2147483647) ∧ (-2147483648 ≤ x3 + 1 ∧ x3 + 1 ≤ 2147483647)) ∧ (k15 x1 x2 (x3 + 1) (hh_up (hh_up σ 49 (x1 * 3 + x3) (σ 49 (x1 * 3 + x3) - (hh_min (σ 127 x3) (σ 49 (x1 * 3 + x3))))) 7 (σ 18 (x2 * 3 + x3)) (σ 7 (σ 18 (x2 * 3 + x3)) + (σ 127 x3 - (hh_min (σ 127 x3) (σ 49 (x1 * 3 + x3)))))))))
def P_X11_giveBack (d : Nat) (a1 : Int) (σ : hh_S) (Q : Int → hh_S → Prop) : Prop :=
  ((0 ≤ a1 ∧ a1 < 16)) ∧ (∃ n, hh_lp3 (B_X11_giveBack_15 d Q) n a1 (σ 43 a1) 0 σ)
set_option maxRecDepth 20000 in
theorem w_X11_giveBack_15 {d : Nat} {Q : Int → hh_S → Prop} {k15 : Int → Int → Int → hh_S → Prop} (hk15 : ∀ (x1 x2 x3 : Int) (σ : hh_S), k15 x1 x2 x3 σ → hh_J (d + 1) hm_X11_giveBack 15 [some (hh_R 0), some (hh_I x1), some (hh_I x2), some (hh_I x3), none, none, none] [] σ Q) (x1 x2 x3 : Int) (σ : hh_S) (h : B_X11_giveBack_15 d Q k15 x1 x2 x3 σ) : hh_J (d + 1) hm_X11_giveBack 15 [some (hh_R 0), some (hh_I x1), some (hh_I x2), some (hh_I x3), none, none, none] [] σ Q := by
  unfold B_X11_giveBack_15 at h
  obtain ⟨q1, h⟩ := h
  refine hh_iload_n dX11_giveBack_15 rfl ?_
  refine hh_aload_n dX11_giveBack_16 rfl ?_
  refine hh_getR dX11_giveBack_17 kf_X11_10 rf_0_0 ?_
  refine hh_getR dX11_giveBack_20 kf_X11_117 rf_1_2 ?_
  refine hh_getR dX11_giveBack_23 kf_X11_148 rf_13_4 ?_
  refine hh_iload_n dX11_giveBack_26 rfl ?_
  refine hh_iald dX11_giveBack_27 ra_17 q1 rfl ?_
  refine hh_icmp_ge (tgt := 129) dX11_giveBack_28 (by decide) (fun c => ?_) (fun c => ?_)
  · replace h := h.1 c
    exact hh_vreturn dX11_giveBack_129 rfl h
  · replace h := h.2 c
    obtain ⟨⟨q1, q2, q3, q4, q5, q6, q7, q8, q9, q10, q11, q12⟩, h⟩ := h
    refine hh_iload_n dX11_giveBack_31 rfl ?_
    refine hh_iconst dX11_giveBack_32 (by decide) ?_
    refine hh_imul dX11_giveBack_33 q1 ?_
    refine hh_iload_n dX11_giveBack_34 rfl ?_
    refine hh_iadd dX11_giveBack_35 q2 ?_
    refine hh_istore dX11_giveBack_36 (by decide) rfl ?_
    refine hh_aload_n dX11_giveBack_38 rfl ?_
    refine hh_getR dX11_giveBack_39 kf_X11_67 rf_0_12 ?_
    refine hh_iload_n dX11_giveBack_42 rfl ?_
    refine hh_iald dX11_giveBack_43 ra_127 q3 rfl ?_
    refine hh_aload_n dX11_giveBack_44 rfl ?_
    refine hh_getR dX11_giveBack_45 kf_X11_10 rf_0_0 ?_
    refine hh_getR dX11_giveBack_48 kf_X11_134 rf_1_5 ?_
    refine hh_getR dX11_giveBack_51 kf_X11_330 rf_42_7 ?_
    refine hh_iload dX11_giveBack_54 rfl ?_
    refine hh_iald dX11_giveBack_56 ra_49 q4 rfl ?_
    refine hh_mmin dX11_giveBack_57 km_X11_314 (Nat.le_of_ble_eq_true rfl) ?_
    refine hh_istore dX11_giveBack_60 (by decide) rfl ?_
    refine hh_aload_n dX11_giveBack_62 rfl ?_
    refine hh_getR dX11_giveBack_63 kf_X11_10 rf_0_0 ?_
    refine hh_getR dX11_giveBack_66 kf_X11_117 rf_1_2 ?_
    refine hh_getR dX11_giveBack_69 kf_X11_410 rf_13_5 ?_
    refine hh_iload_n dX11_giveBack_72 rfl ?_
    refine hh_iconst dX11_giveBack_73 (by decide) ?_
    refine hh_imul dX11_giveBack_74 q5 ?_
    refine hh_iload_n dX11_giveBack_75 rfl ?_
    refine hh_iadd dX11_giveBack_76 q6 ?_
    refine hh_iald dX11_giveBack_77 ra_18 q7 rfl ?_
    refine hh_istore dX11_giveBack_78 (by decide) rfl ?_
    refine hh_aload_n dX11_giveBack_80 rfl ?_
    refine hh_getR dX11_giveBack_81 kf_X11_10 rf_0_0 ?_
    refine hh_getR dX11_giveBack_84 kf_X11_134 rf_1_5 ?_
    refine hh_getR dX11_giveBack_87 kf_X11_330 rf_42_7 ?_
    refine hh_iload dX11_giveBack_90 rfl ?_
    refine hh_dup2 dX11_giveBack_92 (fun _ => rfl) (fun _ => rfl) ?_
    refine hh_iald dX11_giveBack_93 ra_49 q4 rfl ?_
    refine hh_iload dX11_giveBack_94 rfl ?_
    refine hh_isub dX11_giveBack_96 q8 ?_
    refine hh_iast dX11_giveBack_97 ra_49 q4 ?_
    refine hh_aload_n dX11_giveBack_98 rfl ?_
    refine hh_getR dX11_giveBack_99 kf_X11_10 rf_0_0 ?_
    refine hh_getR dX11_giveBack_102 kf_X11_102 rf_1_1 ?_
    refine hh_getR dX11_giveBack_105 kf_X11_109 rf_6_1 ?_
    refine hh_iload dX11_giveBack_108 rfl ?_
    refine hh_dup2 dX11_giveBack_110 (fun _ => rfl) (fun _ => rfl) ?_
    refine hh_iald dX11_giveBack_111 ra_7 q9 rfl ?_
    refine hh_aload_n dX11_giveBack_112 rfl ?_
    refine hh_getR dX11_giveBack_113 kf_X11_67 rf_0_12 ?_
    refine hh_iload_n dX11_giveBack_116 rfl ?_
    refine hh_iald dX11_giveBack_117 ra_127 q3 rfl ?_
    refine hh_iload dX11_giveBack_118 rfl ?_
    refine hh_isub dX11_giveBack_120 q10 ?_
    refine hh_iadd dX11_giveBack_121 q11 ?_
    refine hh_iast dX11_giveBack_122 ra_7 q9 ?_
    refine hh_iinc dX11_giveBack_123 (by decide) rfl rfl q12 ?_
    refine hh_goto (tgt := 15) dX11_giveBack_126 (by decide) ?_
    exact hh_forget [true, true, true, true, false, false, false] (hk15 _ _ _ _ h)
theorem l_X11_giveBack_15 {d : Nat} {Q : Int → hh_S → Prop} : ∀ (n : Nat) (x1 x2 x3 : Int) (σ : hh_S), hh_lp3 (B_X11_giveBack_15 d Q) n x1 x2 x3 σ → hh_J (d + 1) hm_X11_giveBack 15 [some (hh_R 0), some (hh_I x1), some (hh_I x2), some (hh_I x3), none, none, none] [] σ Q := by
  intro n
  induction n with
  | zero => intro _ _ _ _ h; exact h.elim
  | succ n ih => intro x1 x2 x3 σ h; exact w_X11_giveBack_15 ih x1 x2 x3 σ h
set_option maxRecDepth 20000 in
theorem w_X11_giveBack {d : Nat} {a1 : Int} {σ : hh_S} {Q : Int → hh_S → Prop} (h : P_X11_giveBack d a1 σ Q) : hh_J (d + 1) hm_X11_giveBack 0 [some (hh_R 0), some (hh_I a1), none, none, none, none, none] [] σ Q := by
  unfold P_X11_giveBack at h
  obtain ⟨q1, h⟩ := h
  refine hh_aload_n dX11_giveBack_0 rfl ?_
  refine hh_getR dX11_giveBack_1 kf_X11_10 rf_0_0 ?_
  refine hh_getR dX11_giveBack_4 kf_X11_134 rf_1_5 ?_
  refine hh_getR dX11_giveBack_7 kf_X11_300 rf_42_1 ?_
  refine hh_iload_n dX11_giveBack_10 rfl ?_
  refine hh_iald dX11_giveBack_11 ra_43 q1 rfl ?_
  refine hh_istore_n dX11_giveBack_12 (by decide) rfl ?_
  refine hh_iconst dX11_giveBack_13 (by decide) ?_
  refine hh_istore_n dX11_giveBack_14 (by decide) rfl ?_
  obtain ⟨n, h⟩ := h
  exact hh_forget [true, true, true, true, false, false, false] (l_X11_giveBack_15 n _ _ _ _ h)
theorem wp_X11_giveBack {d : Nat} (a1 : Int) {σ : hh_S} {Q : Int → hh_S → Prop} (h : hh_cs σ → hh_can a1 → P_X11_giveBack d a1 σ Q) : hh_Sp (d + 1) hm_X11_giveBack [hh_R 0, hh_I a1] σ Q :=
  hh_entry rfl (Nat.le_of_ble_eq_true rfl) rfl (fun hs hc => w_X11_giveBack (h hs (hc _ (List.mem_of_getElem? (i := 1) rfl))))
def B_X11_contest_117 (d : Nat) (Q : Int → hh_S → Prop) (x1 x6 : Int) (σ : hh_S) : Prop :=
  ((0 ≤ x1 ∧ x1 < 90)) ∧ (hh_Sp d hm_X5_split [hh_R 13, hh_I (σ 26 x1), hh_I x6, hh_R 127] σ (fun _ σ136 => ((0 ≤ x1 ∧ x1 < 90)) ∧ (hh_Sp d hm_X11_canGiveBack [hh_R 0, hh_I (σ136 33 x1)] σ136 (fun r146 σ146 => (¬ r146 = 0 → ((0 ≤ x1 ∧ x1 < 90)) ∧ (hh_Sp d hm_X11_giveBack [hh_R 0, hh_I (σ146 33 x1)] σ146 (fun _ σ162 => ((0 ≤ x1 ∧ x1 < 90)) ∧ (Q x6 (hh_up σ162 35 x1 x6))))) ∧ (r146 = 0 → Q (-1000000003) σ146)))))
def P_X11_contest (d : Nat) (a1 : Int) (σ : hh_S) (Q : Int → hh_S → Prop) : Prop :=
  hh_Sp d hm_X3_has [hh_R 24, hh_I a1] σ (fun r10 σ10 => (¬ r10 = 0 → ((0 ≤ a1 ∧ a1 < 90)) ∧ ((σ10 33 a1 = (-1000000005) → Q (-1000000002) σ10) ∧ (¬ σ10 33 a1 = (-1000000005) → ((0 ≤ a1 ∧ a1 < 90)) ∧ ((σ10 35 a1 = (-1000000005) → hh_Sp d hm_X10_middleFor [hh_R 112, hh_I a1] σ10 (fun r49 σ49 => (¬ r49 = (-1000000005) → hh_Sp d hm_X10_countedOf [hh_R 112, hh_I a1, hh_I (σ49 1 8)] σ49 (fun r74 σ74 => ((0 ≤ a1 ∧ a1 < 90)) ∧ ((r74 ≤ 0 → B_X11_contest_117 d Q a1 0 σ74) ∧ (¬ r74 ≤ 0 → (r74 ≤ r49 → B_X11_contest_117 d Q a1 0 σ74) ∧ (¬ r74 ≤ r49 → ((-9223372036854775808 ≤ (σ74 34 a1) * r49 ∧ (σ74 34 a1) * r49 ≤ 9223372036854775807) ∧ 0 ≤ (σ74 34 a1) * r49 ∧ 0 < r74 ∧ (-2147483648 ≤ ((σ74 34 a1) * r49) / r74 ∧ ((σ74 34 a1) * r49) / r74 ≤ 2147483647) ∧ (-2147483648 ≤ σ74 34 a1 - (((σ74 34 a1) * r49) / r74) ∧ σ74 34 a1 - (((σ74 34 a1) * r49) / r74) ≤ 2147483647)) ∧ (B_X11_contest_117 d Q a1 (σ74 34 a1 - (((σ74 34 a1) * r49) / r74)) σ74)))))) ∧ (r49 = (-1000000005) → Q (-1000000002) σ49))) ∧ (¬ σ10 35 a1 = (-1000000005) → Q (-1000000002) σ10))))) ∧ (r10 = 0 → Q (-1000000001) σ10))
set_option maxRecDepth 20000 in
theorem w_X11_contest_117 {d : Nat} {Q : Int → hh_S → Prop} (x1 x6 : Int) (σ : hh_S) (h : B_X11_contest_117 d Q x1 x6 σ) : hh_J (d + 1) hm_X11_contest 117 [some (hh_R 0), some (hh_I x1), some (hh_R 24), none, none, none, some (hh_I x6)] [] σ Q := by
  unfold B_X11_contest_117 at h
  obtain ⟨q1, h⟩ := h
  refine hh_aload_n dX11_contest_117 rfl ?_
  refine hh_getR dX11_contest_118 kf_X11_10 rf_0_0 ?_
  refine hh_getR dX11_contest_121 kf_X11_117 rf_1_2 ?_
  refine hh_aload_n dX11_contest_124 rfl ?_
  refine hh_getR dX11_contest_125 kf_X11_183 rf_24_2 ?_
  refine hh_iload_n dX11_contest_128 rfl ?_
  refine hh_iald dX11_contest_129 ra_26 q1 rfl ?_
  refine hh_iload dX11_contest_130 rfl ?_
  refine hh_aload_n dX11_contest_132 rfl ?_
  refine hh_getR dX11_contest_133 kf_X11_67 rf_0_12 ?_
  refine hh_cV3 dX11_contest_136 lk_X11_326 mo_X5_split rc_13 (Nat.le_of_ble_eq_true rfl) h (fun _ σ136 h => ?_)
  obtain ⟨q1, h⟩ := h
  refine hh_aload_n dX11_contest_139 rfl ?_
  refine hh_aload_n dX11_contest_140 rfl ?_
  refine hh_getR dX11_contest_141 kf_X11_203 rf_24_9 ?_
  refine hh_iload_n dX11_contest_144 rfl ?_
  refine hh_iald dX11_contest_145 ra_33 q1 rfl ?_
  refine hh_cV1 dX11_contest_146 lk_X11_351 mo_X11_canGiveBack rc_0 (Nat.le_of_ble_eq_true rfl) h (fun r146 σ146 h => ?_)
  refine hh_if_ne (tgt := 155) dX11_contest_149 (by decide) (fun c => ?_) (fun c => ?_)
  · replace h := h.1 c
    obtain ⟨q1, h⟩ := h
    refine hh_aload_n dX11_contest_155 rfl ?_
    refine hh_aload_n dX11_contest_156 rfl ?_
    refine hh_getR dX11_contest_157 kf_X11_203 rf_24_9 ?_
    refine hh_iload_n dX11_contest_160 rfl ?_
    refine hh_iald dX11_contest_161 ra_33 q1 rfl ?_
    refine hh_cV1 dX11_contest_162 lk_X11_354 mo_X11_giveBack rc_0 (Nat.le_of_ble_eq_true rfl) h (fun _ σ162 h => ?_)
    obtain ⟨q1, h⟩ := h
    refine hh_aload_n dX11_contest_165 rfl ?_
    refine hh_getR dX11_contest_166 kf_X11_208 rf_24_11 ?_
    refine hh_iload_n dX11_contest_169 rfl ?_
    refine hh_iload dX11_contest_170 rfl ?_
    refine hh_iast dX11_contest_172 ra_35 q1 ?_
    refine hh_iload dX11_contest_173 rfl ?_
    exact hh_ireturn dX11_contest_175 rfl h
  · replace h := h.2 c
    refine hh_ldc (n := -1000000003) dX11_contest_152 kc_X11_84 (by decide) ?_
    exact hh_ireturn dX11_contest_154 rfl h
set_option maxRecDepth 20000 in
theorem w_X11_contest {d : Nat} {a1 : Int} {σ : hh_S} {Q : Int → hh_S → Prop} (h : P_X11_contest d a1 σ Q) : hh_J (d + 1) hm_X11_contest 0 [some (hh_R 0), some (hh_I a1), none, none, none, none, none] [] σ Q := by
  unfold P_X11_contest at h
  refine hh_aload_n dX11_contest_0 rfl ?_
  refine hh_getR dX11_contest_1 kf_X11_10 rf_0_0 ?_
  refine hh_getR dX11_contest_4 kf_X11_173 rf_1_3 ?_
  refine hh_astore_n dX11_contest_7 (by decide) rfl ?_
  refine hh_aload_n dX11_contest_8 rfl ?_
  refine hh_iload_n dX11_contest_9 rfl ?_
  refine hh_cV1 dX11_contest_10 lk_X11_211 mo_X3_has rc_24 (Nat.le_of_ble_eq_true rfl) h (fun r10 σ10 h => ?_)
  refine hh_if_ne (tgt := 19) dX11_contest_13 (by decide) (fun c => ?_) (fun c => ?_)
  · replace h := h.1 c
    obtain ⟨q1, h⟩ := h
    refine hh_aload_n dX11_contest_19 rfl ?_
    refine hh_getR dX11_contest_20 kf_X11_203 rf_24_9 ?_
    refine hh_iload_n dX11_contest_23 rfl ?_
    refine hh_iald dX11_contest_24 ra_33 q1 rfl ?_
    refine hh_ldc (n := -1000000005) dX11_contest_25 kc_X11_133 (by decide) ?_
    refine hh_icmp_eq (tgt := 41) dX11_contest_27 (by decide) (fun c => ?_) (fun c => ?_)
    · replace h := h.1 c
      refine hh_ldc (n := -1000000002) dX11_contest_41 kc_X11_143 (by decide) ?_
      exact hh_ireturn dX11_contest_43 rfl h
    · replace h := h.2 c
      obtain ⟨q1, h⟩ := h
      refine hh_aload_n dX11_contest_30 rfl ?_
      refine hh_getR dX11_contest_31 kf_X11_208 rf_24_11 ?_
      refine hh_iload_n dX11_contest_34 rfl ?_
      refine hh_iald dX11_contest_35 ra_35 q1 rfl ?_
      refine hh_ldc (n := -1000000005) dX11_contest_36 kc_X11_133 (by decide) ?_
      refine hh_icmp_eq (tgt := 44) dX11_contest_38 (by decide) (fun c => ?_) (fun c => ?_)
      · replace h := h.1 c
        refine hh_aload_n dX11_contest_44 rfl ?_
        refine hh_getR dX11_contest_45 kf_X11_35 rf_0_4 ?_
        refine hh_iload_n dX11_contest_48 rfl ?_
        refine hh_cV1 dX11_contest_49 lk_X11_348 mo_X10_middleFor rc_112 (Nat.le_of_ble_eq_true rfl) h (fun r49 σ49 h => ?_)
        refine hh_istore_n dX11_contest_52 (by decide) rfl ?_
        refine hh_iload_n dX11_contest_53 rfl ?_
        refine hh_ldc (n := -1000000005) dX11_contest_54 kc_X11_133 (by decide) ?_
        refine hh_icmp_ne (tgt := 62) dX11_contest_56 (by decide) (fun c => ?_) (fun c => ?_)
        · replace h := h.1 c
          refine hh_aload_n dX11_contest_62 rfl ?_
          refine hh_getR dX11_contest_63 kf_X11_35 rf_0_4 ?_
          refine hh_iload_n dX11_contest_66 rfl ?_
          refine hh_aload_n dX11_contest_67 rfl ?_
          refine hh_getR dX11_contest_68 kf_X11_10 rf_0_0 ?_
          refine hh_getI dX11_contest_71 kf_X11_154 rf_1_8 rfl ?_
          refine hh_cV2 dX11_contest_74 lk_X11_250 mo_X10_countedOf rc_112 (Nat.le_of_ble_eq_true rfl) h (fun r74 σ74 h => ?_)
          obtain ⟨q1, h⟩ := h
          refine hh_istore dX11_contest_77 (by decide) rfl ?_
          refine hh_aload_n dX11_contest_79 rfl ?_
          refine hh_getR dX11_contest_80 kf_X11_205 rf_24_10 ?_
          refine hh_iload_n dX11_contest_83 rfl ?_
          refine hh_iald dX11_contest_84 ra_34 q1 rfl ?_
          refine hh_istore dX11_contest_85 (by decide) rfl ?_
          refine hh_iconst dX11_contest_87 (by decide) ?_
          refine hh_istore dX11_contest_88 (by decide) rfl ?_
          refine hh_iload dX11_contest_90 rfl ?_
          refine hh_if_le (tgt := 117) dX11_contest_92 (by decide) (fun c => ?_) (fun c => ?_)
          · replace h := h.1 c
            exact hh_forget [true, true, true, false, false, false, true] (w_X11_contest_117 _ _ _ h)
          · replace h := h.2 c
            refine hh_iload dX11_contest_95 rfl ?_
            refine hh_iload_n dX11_contest_97 rfl ?_
            refine hh_icmp_le (tgt := 117) dX11_contest_98 (by decide) (fun c => ?_) (fun c => ?_)
            · replace h := h.1 c
              exact hh_forget [true, true, true, false, false, false, true] (w_X11_contest_117 _ _ _ h)
            · replace h := h.2 c
              obtain ⟨⟨q1, q2, q3, q4, q5⟩, h⟩ := h
              refine hh_iload dX11_contest_101 rfl ?_
              refine hh_iload dX11_contest_103 rfl ?_
              refine hh_i2l dX11_contest_105 ?_
              refine hh_iload_n dX11_contest_106 rfl ?_
              refine hh_i2l dX11_contest_107 ?_
              refine hh_lmul dX11_contest_108 q1 ?_
              refine hh_iload dX11_contest_109 rfl ?_
              refine hh_i2l dX11_contest_111 ?_
              refine hh_ldiv dX11_contest_112 q2 q3 ?_
              refine hh_l2i dX11_contest_113 q4 ?_
              refine hh_isub dX11_contest_114 q5 ?_
              refine hh_istore dX11_contest_115 (by decide) rfl ?_
              exact hh_forget [true, true, true, false, false, false, true] (w_X11_contest_117 _ _ _ h)
        · replace h := h.2 c
          refine hh_ldc (n := -1000000002) dX11_contest_59 kc_X11_143 (by decide) ?_
          exact hh_ireturn dX11_contest_61 rfl h
      · replace h := h.2 c
        refine hh_ldc (n := -1000000002) dX11_contest_41 kc_X11_143 (by decide) ?_
        exact hh_ireturn dX11_contest_43 rfl h
  · replace h := h.2 c
    refine hh_ldc (n := -1000000001) dX11_contest_16 kc_X11_74 (by decide) ?_
    exact hh_ireturn dX11_contest_18 rfl h
theorem wp_X11_contest {d : Nat} (a1 : Int) {σ : hh_S} {Q : Int → hh_S → Prop} (h : hh_cs σ → hh_can a1 → P_X11_contest d a1 σ Q) : hh_Sp (d + 1) hm_X11_contest [hh_R 0, hh_I a1] σ Q :=
  hh_entry rfl (Nat.le_of_ble_eq_true rfl) rfl (fun hs hc => w_X11_contest (h hs (hc _ (List.mem_of_getElem? (i := 1) rfl))))
def P_X11_middle (d : Nat) (a1 : Int) (σ : hh_S) (Q : Int → hh_S → Prop) : Prop :=
  hh_Sp d hm_X3_has [hh_R 24, hh_I a1] σ (fun r8 σ8 => (¬ r8 = 0 → ((0 ≤ a1 ∧ a1 < 90)) ∧ ((¬ σ8 33 a1 = (-1000000005) → hh_Sp d hm_X10_middleFor [hh_R 112, hh_I a1] σ8 (fun r42 σ42 => (¬ r42 = (-1000000005) → Q r42 σ42) ∧ (r42 = (-1000000005) → Q (-1000000002) σ42))) ∧ (σ8 33 a1 = (-1000000005) → Q (-1000000002) σ8))) ∧ (r8 = 0 → Q (-1000000001) σ8))
set_option maxRecDepth 20000 in
theorem w_X11_middle {d : Nat} {a1 : Int} {σ : hh_S} {Q : Int → hh_S → Prop} (h : P_X11_middle d a1 σ Q) : hh_J (d + 1) hm_X11_middle 0 [some (hh_R 0), some (hh_I a1), none] [] σ Q := by
  unfold P_X11_middle at h
  refine hh_aload_n dX11_middle_0 rfl ?_
  refine hh_getR dX11_middle_1 kf_X11_10 rf_0_0 ?_
  refine hh_getR dX11_middle_4 kf_X11_173 rf_1_3 ?_
  refine hh_iload_n dX11_middle_7 rfl ?_
  refine hh_cV1 dX11_middle_8 lk_X11_211 mo_X3_has rc_24 (Nat.le_of_ble_eq_true rfl) h (fun r8 σ8 h => ?_)
  refine hh_if_ne (tgt := 17) dX11_middle_11 (by decide) (fun c => ?_) (fun c => ?_)
  · replace h := h.1 c
    obtain ⟨q1, h⟩ := h
    refine hh_aload_n dX11_middle_17 rfl ?_
    refine hh_getR dX11_middle_18 kf_X11_10 rf_0_0 ?_
    refine hh_getR dX11_middle_21 kf_X11_173 rf_1_3 ?_
    refine hh_getR dX11_middle_24 kf_X11_203 rf_24_9 ?_
    refine hh_iload_n dX11_middle_27 rfl ?_
    refine hh_iald dX11_middle_28 ra_33 q1 rfl ?_
    refine hh_ldc (n := -1000000005) dX11_middle_29 kc_X11_133 (by decide) ?_
    refine hh_icmp_ne (tgt := 37) dX11_middle_31 (by decide) (fun c => ?_) (fun c => ?_)
    · replace h := h.1 c
      refine hh_aload_n dX11_middle_37 rfl ?_
      refine hh_getR dX11_middle_38 kf_X11_35 rf_0_4 ?_
      refine hh_iload_n dX11_middle_41 rfl ?_
      refine hh_cV1 dX11_middle_42 lk_X11_348 mo_X10_middleFor rc_112 (Nat.le_of_ble_eq_true rfl) h (fun r42 σ42 h => ?_)
      refine hh_istore_n dX11_middle_45 (by decide) rfl ?_
      refine hh_iload_n dX11_middle_46 rfl ?_
      refine hh_ldc (n := -1000000005) dX11_middle_47 kc_X11_133 (by decide) ?_
      refine hh_icmp_ne (tgt := 57) dX11_middle_49 (by decide) (fun c => ?_) (fun c => ?_)
      · replace h := h.1 c
        refine hh_iload_n dX11_middle_57 rfl ?_
        exact hh_ireturn dX11_middle_58 rfl h
      · replace h := h.2 c
        refine hh_ldc (n := -1000000002) dX11_middle_52 kc_X11_143 (by decide) ?_
        refine hh_goto (tgt := 58) dX11_middle_54 (by decide) ?_
        exact hh_ireturn dX11_middle_58 rfl h
    · replace h := h.2 c
      refine hh_ldc (n := -1000000002) dX11_middle_34 kc_X11_143 (by decide) ?_
      exact hh_ireturn dX11_middle_36 rfl h
  · replace h := h.2 c
    refine hh_ldc (n := -1000000001) dX11_middle_14 kc_X11_74 (by decide) ?_
    exact hh_ireturn dX11_middle_16 rfl h
theorem wp_X11_middle {d : Nat} (a1 : Int) {σ : hh_S} {Q : Int → hh_S → Prop} (h : hh_cs σ → hh_can a1 → P_X11_middle d a1 σ Q) : hh_Sp (d + 1) hm_X11_middle [hh_R 0, hh_I a1] σ Q :=
  hh_entry rfl (Nat.le_of_ble_eq_true rfl) rfl (fun hs hc => w_X11_middle (h hs (hc _ (List.mem_of_getElem? (i := 1) rfl))))
def P_X11_stage (d : Nat) (a1 a2 : Int) (σ : hh_S) (Q : Int → hh_S → Prop) : Prop :=
  hh_Sp d hm_X5_has [hh_R 13, hh_I a1] σ (fun r8 σ8 => (r8 = 0 → Q (-1000000001) σ8) ∧ (¬ r8 = 0 → hh_Sp d hm_X11_within [hh_I a2, hh_I 1, hh_I 5] σ8 (fun r17 σ17 => (¬ r17 = 0 → ((0 ≤ a1 ∧ a1 < 10)) ∧ ((σ17 22 a1 < a2 → hh_Sp d hm_X10_chargeMatter [hh_R 112, hh_I a1, hh_I (σ17 1 8)] σ17 (fun r57 σ57 => ((0 ≤ a1 ∧ a1 < 10) ∧ (-2147483648 ≤ a1 * 6 ∧ a1 * 6 ≤ 2147483647) ∧ (-2147483648 ≤ a1 * 6 + a2 ∧ a1 * 6 + a2 ≤ 2147483647) ∧ (0 ≤ a1 * 6 + a2 ∧ a1 * 6 + a2 < 60)) ∧ (Q r57 (hh_up (hh_up σ57 22 a1 a2) 23 (a1 * 6 + a2) r57)))) ∧ (¬ σ17 22 a1 < a2 → Q (-1000000002) σ17))) ∧ (r17 = 0 → Q (-1000000001) σ17))))
set_option maxRecDepth 20000 in
theorem w_X11_stage {d : Nat} {a1 a2 : Int} {σ : hh_S} {Q : Int → hh_S → Prop} (h : P_X11_stage d a1 a2 σ Q) : hh_J (d + 1) hm_X11_stage 0 [some (hh_R 0), some (hh_I a1), some (hh_I a2), none] [] σ Q := by
  unfold P_X11_stage at h
  refine hh_aload_n dX11_stage_0 rfl ?_
  refine hh_getR dX11_stage_1 kf_X11_10 rf_0_0 ?_
  refine hh_getR dX11_stage_4 kf_X11_117 rf_1_2 ?_
  refine hh_iload_n dX11_stage_7 rfl ?_
  refine hh_cV1 dX11_stage_8 lk_X11_128 mo_X5_has rc_13 (Nat.le_of_ble_eq_true rfl) h (fun r8 σ8 h => ?_)
  refine hh_if_eq (tgt := 23) dX11_stage_11 (by decide) (fun c => ?_) (fun c => ?_)
  · replace h := h.1 c
    refine hh_ldc (n := -1000000001) dX11_stage_23 kc_X11_74 (by decide) ?_
    exact hh_ireturn dX11_stage_25 rfl h
  · replace h := h.2 c
    refine hh_iload_n dX11_stage_14 rfl ?_
    refine hh_iconst dX11_stage_15 (by decide) ?_
    refine hh_iconst dX11_stage_16 (by decide) ?_
    refine hh_cS3 dX11_stage_17 lk_X11_70 mo_X11_within (Nat.le_of_ble_eq_true rfl) h (fun r17 σ17 h => ?_)
    refine hh_if_ne (tgt := 26) dX11_stage_20 (by decide) (fun c => ?_) (fun c => ?_)
    · replace h := h.1 c
      obtain ⟨q1, h⟩ := h
      refine hh_iload_n dX11_stage_26 rfl ?_
      refine hh_aload_n dX11_stage_27 rfl ?_
      refine hh_getR dX11_stage_28 kf_X11_10 rf_0_0 ?_
      refine hh_getR dX11_stage_31 kf_X11_117 rf_1_2 ?_
      refine hh_getR dX11_stage_34 kf_X11_357 rf_13_9 ?_
      refine hh_iload_n dX11_stage_37 rfl ?_
      refine hh_iald dX11_stage_38 ra_22 q1 rfl ?_
      refine hh_icmp_gt (tgt := 45) dX11_stage_39 (by decide) (fun c => ?_) (fun c => ?_)
      · replace h := h.1 c
        refine hh_aload_n dX11_stage_45 rfl ?_
        refine hh_getR dX11_stage_46 kf_X11_35 rf_0_4 ?_
        refine hh_iload_n dX11_stage_49 rfl ?_
        refine hh_aload_n dX11_stage_50 rfl ?_
        refine hh_getR dX11_stage_51 kf_X11_10 rf_0_0 ?_
        refine hh_getI dX11_stage_54 kf_X11_154 rf_1_8 rfl ?_
        refine hh_cV2 dX11_stage_57 lk_X11_259 mo_X10_chargeMatter rc_112 (Nat.le_of_ble_eq_true rfl) h (fun r57 σ57 h => ?_)
        obtain ⟨⟨q1, q2, q3, q4⟩, h⟩ := h
        refine hh_istore_n dX11_stage_60 (by decide) rfl ?_
        refine hh_aload_n dX11_stage_61 rfl ?_
        refine hh_getR dX11_stage_62 kf_X11_10 rf_0_0 ?_
        refine hh_getR dX11_stage_65 kf_X11_117 rf_1_2 ?_
        refine hh_getR dX11_stage_68 kf_X11_357 rf_13_9 ?_
        refine hh_iload_n dX11_stage_71 rfl ?_
        refine hh_iload_n dX11_stage_72 rfl ?_
        refine hh_iast dX11_stage_73 ra_22 q1 ?_
        refine hh_aload_n dX11_stage_74 rfl ?_
        refine hh_getR dX11_stage_75 kf_X11_10 rf_0_0 ?_
        refine hh_getR dX11_stage_78 kf_X11_117 rf_1_2 ?_
        refine hh_getR dX11_stage_81 kf_X11_360 rf_13_10 ?_
        refine hh_iload_n dX11_stage_84 rfl ?_
        refine hh_bipush dX11_stage_85 (by decide) ?_
        refine hh_imul dX11_stage_87 q2 ?_
        refine hh_iload_n dX11_stage_88 rfl ?_
        refine hh_iadd dX11_stage_89 q3 ?_
        refine hh_iload_n dX11_stage_90 rfl ?_
        refine hh_iast dX11_stage_91 ra_23 q4 ?_
        refine hh_iload_n dX11_stage_92 rfl ?_
        exact hh_ireturn dX11_stage_93 rfl h
      · replace h := h.2 c
        refine hh_ldc (n := -1000000002) dX11_stage_42 kc_X11_143 (by decide) ?_
        exact hh_ireturn dX11_stage_44 rfl h
    · replace h := h.2 c
      refine hh_ldc (n := -1000000001) dX11_stage_23 kc_X11_74 (by decide) ?_
      exact hh_ireturn dX11_stage_25 rfl h
theorem wp_X11_stage {d : Nat} (a1 a2 : Int) {σ : hh_S} {Q : Int → hh_S → Prop} (h : hh_cs σ → hh_can a1 → hh_can a2 → P_X11_stage d a1 a2 σ Q) : hh_Sp (d + 1) hm_X11_stage [hh_R 0, hh_I a1, hh_I a2] σ Q :=
  hh_entry rfl (Nat.le_of_ble_eq_true rfl) rfl (fun hs hc => w_X11_stage (h hs (hc _ (List.mem_of_getElem? (i := 1) rfl)) (hc _ (List.mem_of_getElem? (i := 2) rfl))))
def B_X11_foretold_198 (d : Nat) (Q : Int → hh_S → Prop) (k57 : Int → Int → Int → Int → Int → hh_S → Prop) (x1 x2 x4 x5 x6 : Int) (σ : hh_S) : Prop :=
  ((-2147483648 ≤ x6 + 1 ∧ x6 + 1 ≤ 2147483647)) ∧ (k57 x1 x2 x4 x5 (x6 + 1) σ)
def B_X11_foretold_194 (d : Nat) (Q : Int → hh_S → Prop) (k57 : Int → Int → Int → Int → Int → hh_S → Prop) (x1 x2 x4 x6 x10 : Int) (σ : hh_S) : Prop :=
  B_X11_foretold_198 d Q k57 x1 x2 x4 x10 x6 σ
def B_X11_foretold_57 (d : Nat) (Q : Int → hh_S → Prop) (k57 : Int → Int → Int → Int → Int → hh_S → Prop) (x1 x2 x4 x5 x6 : Int) (σ : hh_S) : Prop :=
  (σ 13 0 ≤ x6 → Q x5 σ) ∧ (¬ σ 13 0 ≤ x6 → (x6 = x1 → B_X11_foretold_198 d Q k57 x1 x2 x4 x5 x6 σ) ∧ (¬ x6 = x1 → ((0 ≤ x6 ∧ x6 < 10) ∧ (0 ≤ x1 ∧ x1 < 10)) ∧ ((¬ σ 14 x6 = σ 14 x1 → B_X11_foretold_198 d Q k57 x1 x2 x4 x5 x6 σ) ∧ (σ 14 x6 = σ 14 x1 → ((0 ≤ x6 ∧ x6 < 10)) ∧ ((σ 22 x6 = 5 → ((-2147483648 ≤ x6 * 6 ∧ x6 * 6 ≤ 2147483647) ∧ (-2147483648 ≤ x6 * 6 + x4 ∧ x6 * 6 + x4 ≤ 2147483647) ∧ (0 ≤ x6 * 6 + x4 ∧ x6 * 6 + x4 < 60)) ∧ ((σ 23 (x6 * 6 + x4) ≤ 0 → B_X11_foretold_198 d Q k57 x1 x2 x4 x5 x6 σ) ∧ (¬ σ 23 (x6 * 6 + x4) ≤ 0 → ((-2147483648 ≤ x1 * 6 ∧ x1 * 6 ≤ 2147483647) ∧ (-2147483648 ≤ x1 * 6 + x4 ∧ x1 * 6 + x4 ≤ 2147483647) ∧ (0 ≤ x1 * 6 + x4 ∧ x1 * 6 + x4 < 60) ∧ (-2147483648 ≤ x6 * 6 ∧ x6 * 6 ≤ 2147483647) ∧ (-2147483648 ≤ x6 * 6 + 5 ∧ x6 * 6 + 5 ≤ 2147483647) ∧ (0 ≤ x6 * 6 + 5 ∧ x6 * 6 + 5 < 60) ∧ (-9223372036854775808 ≤ (σ 23 (x1 * 6 + x4)) * (σ 23 (x6 * 6 + 5)) ∧ (σ 23 (x1 * 6 + x4)) * (σ 23 (x6 * 6 + 5)) ≤ 9223372036854775807) ∧ 0 ≤ (σ 23 (x1 * 6 + x4)) * (σ 23 (x6 * 6 + 5)) ∧ 0 < σ 23 (x6 * 6 + x4) ∧ (-2147483648 ≤ hh_min 99999999 (((σ 23 (x1 * 6 + x4)) * (σ 23 (x6 * 6 + 5))) / (σ 23 (x6 * 6 + x4))) ∧ hh_min 99999999 (((σ 23 (x1 * 6 + x4)) * (σ 23 (x6 * 6 + 5))) / (σ 23 (x6 * 6 + x4))) ≤ 2147483647)) ∧ ((x5 = (-1000000005) → B_X11_foretold_194 d Q k57 x1 x2 x4 x6 (hh_min 99999999 (((σ 23 (x1 * 6 + x4)) * (σ 23 (x6 * 6 + 5))) / (σ 23 (x6 * 6 + x4)))) σ) ∧ (¬ x5 = (-1000000005) → (¬ x2 = 0 → (hh_min 99999999 (((σ 23 (x1 * 6 + x4)) * (σ 23 (x6 * 6 + 5))) / (σ 23 (x6 * 6 + x4))) ≤ x5 → B_X11_foretold_198 d Q k57 x1 x2 x4 x5 x6 σ) ∧ (¬ hh_min 99999999 (((σ 23 (x1 * 6 + x4)) * (σ 23 (x6 * 6 + 5))) / (σ 23 (x6 * 6 + x4))) ≤ x5 → B_X11_foretold_194 d Q k57 x1 x2 x4 x6 (hh_min 99999999 (((σ 23 (x1 * 6 + x4)) * (σ 23 (x6 * 6 + 5))) / (σ 23 (x6 * 6 + x4)))) σ)) ∧ (x2 = 0 → (x5 ≤ hh_min 99999999 (((σ 23 (x1 * 6 + x4)) * (σ 23 (x6 * 6 + 5))) / (σ 23 (x6 * 6 + x4))) → B_X11_foretold_198 d Q k57 x1 x2 x4 x5 x6 σ) ∧ (¬ x5 ≤ hh_min 99999999 (((σ 23 (x1 * 6 + x4)) * (σ 23 (x6 * 6 + 5))) / (σ 23 (x6 * 6 + x4))) → B_X11_foretold_194 d Q k57 x1 x2 x4 x6 (hh_min 99999999 (((σ 23 (x1 * 6 + x4)) * (σ 23 (x6 * 6 + 5))) / (σ 23 (x6 * 6 + x4)))) σ))))))) ∧ (¬ σ 22 x6 = 5 → B_X11_foretold_198 d Q k57 x1 x2 x4 x5 x6 σ))))))
def P_X11_foretold (d : Nat) (a1 a2 : Int) (σ : hh_S) (Q : Int → hh_S → Prop) : Prop :=
  hh_Sp d hm_X5_has [hh_R 13, hh_I a1] σ (fun r10 σ10 => (r10 = 0 → Q (-1000000001) σ10) ∧ (¬ r10 = 0 → hh_Sp d hm_X11_within [hh_I a2, hh_I 0, hh_I 1] σ10 (fun r19 σ19 => (¬ r19 = 0 → ((0 ≤ a1 ∧ a1 < 10)) ∧ ((σ19 22 a1 = 0 → Q (-1000000002) σ19) ∧ (¬ σ19 22 a1 = 0 → (¬ σ19 22 a1 = 5 → ∃ n, hh_lp5 (B_X11_foretold_57 d Q) n a1 a2 (σ19 22 a1) (-1000000005) 0 σ19) ∧ (σ19 22 a1 = 5 → Q (-1000000002) σ19)))) ∧ (r19 = 0 → Q (-1000000001) σ19))))
set_option maxRecDepth 20000 in
theorem w_X11_foretold_198 {d : Nat} {Q : Int → hh_S → Prop} {k57 : Int → Int → Int → Int → Int → hh_S → Prop} (hk57 : ∀ (x1 x2 x4 x5 x6 : Int) (σ : hh_S), k57 x1 x2 x4 x5 x6 σ → hh_J (d + 1) hm_X11_foretold 57 [none, some (hh_I x1), some (hh_I x2), some (hh_R 13), some (hh_I x4), some (hh_I x5), some (hh_I x6), none, none, none, none] [] σ Q) (x1 x2 x4 x5 x6 : Int) (σ : hh_S) (h : B_X11_foretold_198 d Q k57 x1 x2 x4 x5 x6 σ) : hh_J (d + 1) hm_X11_foretold 198 [none, some (hh_I x1), some (hh_I x2), some (hh_R 13), some (hh_I x4), some (hh_I x5), some (hh_I x6), none, none, none, none] [] σ Q := by
  unfold B_X11_foretold_198 at h
  obtain ⟨q1, h⟩ := h
  refine hh_iinc dX11_foretold_198 (by decide) rfl rfl q1 ?_
  refine hh_goto (tgt := 57) dX11_foretold_201 (by decide) ?_
  exact hh_forget [false, true, true, true, true, true, true, false, false, false, false] (hk57 _ _ _ _ _ _ h)
set_option maxRecDepth 20000 in
theorem w_X11_foretold_194 {d : Nat} {Q : Int → hh_S → Prop} {k57 : Int → Int → Int → Int → Int → hh_S → Prop} (hk57 : ∀ (x1 x2 x4 x5 x6 : Int) (σ : hh_S), k57 x1 x2 x4 x5 x6 σ → hh_J (d + 1) hm_X11_foretold 57 [none, some (hh_I x1), some (hh_I x2), some (hh_R 13), some (hh_I x4), some (hh_I x5), some (hh_I x6), none, none, none, none] [] σ Q) (x1 x2 x4 x6 x10 : Int) (σ : hh_S) (h : B_X11_foretold_194 d Q k57 x1 x2 x4 x6 x10 σ) : hh_J (d + 1) hm_X11_foretold 194 [none, some (hh_I x1), some (hh_I x2), some (hh_R 13), some (hh_I x4), none, some (hh_I x6), none, none, none, some (hh_I x10)] [] σ Q := by
  unfold B_X11_foretold_194 at h
  refine hh_iload dX11_foretold_194 rfl ?_
  refine hh_istore dX11_foretold_196 (by decide) rfl ?_
  exact hh_forget [false, true, true, true, true, true, true, false, false, false, false] (w_X11_foretold_198 hk57 _ _ _ _ _ _ h)
set_option maxRecDepth 20000 in
theorem w_X11_foretold_57 {d : Nat} {Q : Int → hh_S → Prop} {k57 : Int → Int → Int → Int → Int → hh_S → Prop} (hk57 : ∀ (x1 x2 x4 x5 x6 : Int) (σ : hh_S), k57 x1 x2 x4 x5 x6 σ → hh_J (d + 1) hm_X11_foretold 57 [none, some (hh_I x1), some (hh_I x2), some (hh_R 13), some (hh_I x4), some (hh_I x5), some (hh_I x6), none, none, none, none] [] σ Q) (x1 x2 x4 x5 x6 : Int) (σ : hh_S) (h : B_X11_foretold_57 d Q k57 x1 x2 x4 x5 x6 σ) : hh_J (d + 1) hm_X11_foretold 57 [none, some (hh_I x1), some (hh_I x2), some (hh_R 13), some (hh_I x4), some (hh_I x5), some (hh_I x6), none, none, none, none] [] σ Q := by
  unfold B_X11_foretold_57 at h
  refine hh_iload dX11_foretold_57 rfl ?_
  refine hh_aload_n dX11_foretold_59 rfl ?_
  refine hh_getI dX11_foretold_60 kf_X11_121 rf_13_0 rfl ?_
  refine hh_icmp_ge (tgt := 204) dX11_foretold_63 (by decide) (fun c => ?_) (fun c => ?_)
  · replace h := h.1 c
    refine hh_iload dX11_foretold_204 rfl ?_
    exact hh_ireturn dX11_foretold_206 rfl h
  · replace h := h.2 c
    refine hh_iload dX11_foretold_66 rfl ?_
    refine hh_iload_n dX11_foretold_68 rfl ?_
    refine hh_icmp_eq (tgt := 198) dX11_foretold_69 (by decide) (fun c => ?_) (fun c => ?_)
    · replace h := h.1 c
      exact hh_forget [false, true, true, true, true, true, true, false, false, false, false] (w_X11_foretold_198 hk57 _ _ _ _ _ _ h)
    · replace h := h.2 c
      obtain ⟨⟨q1, q2⟩, h⟩ := h
      refine hh_aload_n dX11_foretold_72 rfl ?_
      refine hh_getR dX11_foretold_73 kf_X11_305 rf_13_1 ?_
      refine hh_iload dX11_foretold_76 rfl ?_
      refine hh_iald dX11_foretold_78 ra_14 q1 rfl ?_
      refine hh_aload_n dX11_foretold_79 rfl ?_
      refine hh_getR dX11_foretold_80 kf_X11_305 rf_13_1 ?_
      refine hh_iload_n dX11_foretold_83 rfl ?_
      refine hh_iald dX11_foretold_84 ra_14 q2 rfl ?_
      refine hh_icmp_ne (tgt := 198) dX11_foretold_85 (by decide) (fun c => ?_) (fun c => ?_)
      · replace h := h.1 c
        exact hh_forget [false, true, true, true, true, true, true, false, false, false, false] (w_X11_foretold_198 hk57 _ _ _ _ _ _ h)
      · replace h := h.2 c
        obtain ⟨q1, h⟩ := h
        refine hh_aload_n dX11_foretold_88 rfl ?_
        refine hh_getR dX11_foretold_89 kf_X11_357 rf_13_9 ?_
        refine hh_iload dX11_foretold_92 rfl ?_
        refine hh_iald dX11_foretold_94 ra_22 q1 rfl ?_
        refine hh_iconst dX11_foretold_95 (by decide) ?_
        refine hh_icmp_eq (tgt := 102) dX11_foretold_96 (by decide) (fun c => ?_) (fun c => ?_)
        · replace h := h.1 c
          obtain ⟨⟨q1, q2, q3⟩, h⟩ := h
          refine hh_aload_n dX11_foretold_102 rfl ?_
          refine hh_getR dX11_foretold_103 kf_X11_360 rf_13_10 ?_
          refine hh_iload dX11_foretold_106 rfl ?_
          refine hh_bipush dX11_foretold_108 (by decide) ?_
          refine hh_imul dX11_foretold_110 q1 ?_
          refine hh_iload dX11_foretold_111 rfl ?_
          refine hh_iadd dX11_foretold_113 q2 ?_
          refine hh_iald dX11_foretold_114 ra_23 q3 rfl ?_
          refine hh_istore dX11_foretold_115 (by decide) rfl ?_
          refine hh_iload dX11_foretold_117 rfl ?_
          refine hh_if_le (tgt := 198) dX11_foretold_119 (by decide) (fun c => ?_) (fun c => ?_)
          · replace h := h.1 c
            exact hh_forget [false, true, true, true, true, true, true, false, false, false, false] (w_X11_foretold_198 hk57 _ _ _ _ _ _ h)
          · replace h := h.2 c
            obtain ⟨⟨q1, q2, q3, q4, q5, q6, q7, q8, q9, q10⟩, h⟩ := h
            refine hh_aload_n dX11_foretold_122 rfl ?_
            refine hh_getR dX11_foretold_123 kf_X11_360 rf_13_10 ?_
            refine hh_iload_n dX11_foretold_126 rfl ?_
            refine hh_bipush dX11_foretold_127 (by decide) ?_
            refine hh_imul dX11_foretold_129 q1 ?_
            refine hh_iload dX11_foretold_130 rfl ?_
            refine hh_iadd dX11_foretold_132 q2 ?_
            refine hh_iald dX11_foretold_133 ra_23 q3 rfl ?_
            refine hh_i2l dX11_foretold_134 ?_
            refine hh_aload_n dX11_foretold_135 rfl ?_
            refine hh_getR dX11_foretold_136 kf_X11_360 rf_13_10 ?_
            refine hh_iload dX11_foretold_139 rfl ?_
            refine hh_bipush dX11_foretold_141 (by decide) ?_
            refine hh_imul dX11_foretold_143 q4 ?_
            refine hh_iconst dX11_foretold_144 (by decide) ?_
            refine hh_iadd dX11_foretold_145 q5 ?_
            refine hh_iald dX11_foretold_146 ra_23 q6 rfl ?_
            refine hh_i2l dX11_foretold_147 ?_
            refine hh_lmul dX11_foretold_148 q7 ?_
            refine hh_lstore dX11_foretold_149 (by decide) rfl ?_
            refine hh_ldc2 (n := 99999999) dX11_foretold_151 kc_X11_363 (by decide) ?_
            refine hh_lload dX11_foretold_154 rfl ?_
            refine hh_iload dX11_foretold_156 rfl ?_
            refine hh_i2l dX11_foretold_158 ?_
            refine hh_ldiv dX11_foretold_159 q8 q9 ?_
            refine hh_mminL dX11_foretold_160 km_X11_365 (Nat.le_of_ble_eq_true rfl) ?_
            refine hh_l2i dX11_foretold_163 q10 ?_
            refine hh_istore dX11_foretold_164 (by decide) rfl ?_
            refine hh_iload dX11_foretold_166 rfl ?_
            refine hh_ldc (n := -1000000005) dX11_foretold_168 kc_X11_133 (by decide) ?_
            refine hh_icmp_eq (tgt := 194) dX11_foretold_170 (by decide) (fun c => ?_) (fun c => ?_)
            · replace h := h.1 c
              exact hh_forget [false, true, true, true, true, false, true, false, false, false, true] (w_X11_foretold_194 hk57 _ _ _ _ _ _ h)
            · replace h := h.2 c
              refine hh_iload_n dX11_foretold_173 rfl ?_
              refine hh_if_ne (tgt := 187) dX11_foretold_174 (by decide) (fun c => ?_) (fun c => ?_)
              · replace h := h.1 c
                refine hh_iload dX11_foretold_187 rfl ?_
                refine hh_iload dX11_foretold_189 rfl ?_
                refine hh_icmp_le (tgt := 198) dX11_foretold_191 (by decide) (fun c => ?_) (fun c => ?_)
                · replace h := h.1 c
                  exact hh_forget [false, true, true, true, true, true, true, false, false, false, false] (w_X11_foretold_198 hk57 _ _ _ _ _ _ h)
                · replace h := h.2 c
                  exact hh_forget [false, true, true, true, true, false, true, false, false, false, true] (w_X11_foretold_194 hk57 _ _ _ _ _ _ h)
              · replace h := h.2 c
                refine hh_iload dX11_foretold_177 rfl ?_
                refine hh_iload dX11_foretold_179 rfl ?_
                refine hh_icmp_ge (tgt := 198) dX11_foretold_181 (by decide) (fun c => ?_) (fun c => ?_)
                · replace h := h.1 c
                  exact hh_forget [false, true, true, true, true, true, true, false, false, false, false] (w_X11_foretold_198 hk57 _ _ _ _ _ _ h)
                · replace h := h.2 c
                  refine hh_goto (tgt := 194) dX11_foretold_184 (by decide) ?_
                  exact hh_forget [false, true, true, true, true, false, true, false, false, false, true] (w_X11_foretold_194 hk57 _ _ _ _ _ _ h)
        · replace h := h.2 c
          refine hh_goto (tgt := 198) dX11_foretold_99 (by decide) ?_
          exact hh_forget [false, true, true, true, true, true, true, false, false, false, false] (w_X11_foretold_198 hk57 _ _ _ _ _ _ h)
theorem l_X11_foretold_57 {d : Nat} {Q : Int → hh_S → Prop} : ∀ (n : Nat) (x1 x2 x4 x5 x6 : Int) (σ : hh_S), hh_lp5 (B_X11_foretold_57 d Q) n x1 x2 x4 x5 x6 σ → hh_J (d + 1) hm_X11_foretold 57 [none, some (hh_I x1), some (hh_I x2), some (hh_R 13), some (hh_I x4), some (hh_I x5), some (hh_I x6), none, none, none, none] [] σ Q := by
  intro n
  induction n with
  | zero => intro _ _ _ _ _ _ h; exact h.elim
  | succ n ih => intro x1 x2 x4 x5 x6 σ h; exact w_X11_foretold_57 ih x1 x2 x4 x5 x6 σ h
set_option maxRecDepth 20000 in
theorem w_X11_foretold {d : Nat} {a1 a2 : Int} {σ : hh_S} {Q : Int → hh_S → Prop} (h : P_X11_foretold d a1 a2 σ Q) : hh_J (d + 1) hm_X11_foretold 0 [some (hh_R 0), some (hh_I a1), some (hh_I a2), none, none, none, none, none, none, none, none] [] σ Q := by
  unfold P_X11_foretold at h
  refine hh_aload_n dX11_foretold_0 rfl ?_
  refine hh_getR dX11_foretold_1 kf_X11_10 rf_0_0 ?_
  refine hh_getR dX11_foretold_4 kf_X11_117 rf_1_2 ?_
  refine hh_astore_n dX11_foretold_7 (by decide) rfl ?_
  refine hh_aload_n dX11_foretold_8 rfl ?_
  refine hh_iload_n dX11_foretold_9 rfl ?_
  refine hh_cV1 dX11_foretold_10 lk_X11_128 mo_X5_has rc_13 (Nat.le_of_ble_eq_true rfl) h (fun r10 σ10 h => ?_)
  refine hh_if_eq (tgt := 25) dX11_foretold_13 (by decide) (fun c => ?_) (fun c => ?_)
  · replace h := h.1 c
    refine hh_ldc (n := -1000000001) dX11_foretold_25 kc_X11_74 (by decide) ?_
    exact hh_ireturn dX11_foretold_27 rfl h
  · replace h := h.2 c
    refine hh_iload_n dX11_foretold_16 rfl ?_
    refine hh_iconst dX11_foretold_17 (by decide) ?_
    refine hh_iconst dX11_foretold_18 (by decide) ?_
    refine hh_cS3 dX11_foretold_19 lk_X11_70 mo_X11_within (Nat.le_of_ble_eq_true rfl) h (fun r19 σ19 h => ?_)
    refine hh_if_ne (tgt := 28) dX11_foretold_22 (by decide) (fun c => ?_) (fun c => ?_)
    · replace h := h.1 c
      obtain ⟨q1, h⟩ := h
      refine hh_aload_n dX11_foretold_28 rfl ?_
      refine hh_getR dX11_foretold_29 kf_X11_357 rf_13_9 ?_
      refine hh_iload_n dX11_foretold_32 rfl ?_
      refine hh_iald dX11_foretold_33 ra_22 q1 rfl ?_
      refine hh_istore dX11_foretold_34 (by decide) rfl ?_
      refine hh_iload dX11_foretold_36 rfl ?_
      refine hh_if_eq (tgt := 47) dX11_foretold_38 (by decide) (fun c => ?_) (fun c => ?_)
      · replace h := h.1 c
        refine hh_ldc (n := -1000000002) dX11_foretold_47 kc_X11_143 (by decide) ?_
        exact hh_ireturn dX11_foretold_49 rfl h
      · replace h := h.2 c
        refine hh_iload dX11_foretold_41 rfl ?_
        refine hh_iconst dX11_foretold_43 (by decide) ?_
        refine hh_icmp_ne (tgt := 50) dX11_foretold_44 (by decide) (fun c => ?_) (fun c => ?_)
        · replace h := h.1 c
          refine hh_ldc (n := -1000000005) dX11_foretold_50 kc_X11_133 (by decide) ?_
          refine hh_istore dX11_foretold_52 (by decide) rfl ?_
          refine hh_iconst dX11_foretold_54 (by decide) ?_
          refine hh_istore dX11_foretold_55 (by decide) rfl ?_
          obtain ⟨n, h⟩ := h
          exact hh_forget [false, true, true, true, true, true, true, false, false, false, false] (l_X11_foretold_57 n _ _ _ _ _ _ h)
        · replace h := h.2 c
          refine hh_ldc (n := -1000000002) dX11_foretold_47 kc_X11_143 (by decide) ?_
          exact hh_ireturn dX11_foretold_49 rfl h
    · replace h := h.2 c
      refine hh_ldc (n := -1000000001) dX11_foretold_25 kc_X11_74 (by decide) ?_
      exact hh_ireturn dX11_foretold_27 rfl h
theorem wp_X11_foretold {d : Nat} (a1 a2 : Int) {σ : hh_S} {Q : Int → hh_S → Prop} (h : hh_cs σ → hh_can a1 → hh_can a2 → P_X11_foretold d a1 a2 σ Q) : hh_Sp (d + 1) hm_X11_foretold [hh_R 0, hh_I a1, hh_I a2] σ Q :=
  hh_entry rfl (Nat.le_of_ble_eq_true rfl) rfl (fun hs hc => w_X11_foretold (h hs (hc _ (List.mem_of_getElem? (i := 1) rfl)) (hc _ (List.mem_of_getElem? (i := 2) rfl))))
def P_X11_task (d : Nat) (a1 a2 a3 : Int) (σ : hh_S) (Q : Int → hh_S → Prop) : Prop :=
  hh_Sp d hm_X5_has [hh_R 13, hh_I a1] σ (fun r8 σ8 => (r8 = 0 → Q (-1000000001) σ8) ∧ (¬ r8 = 0 → hh_Sp d hm_X11_within [hh_I a2, hh_I 1, hh_I 999] σ8 (fun r19 σ19 => (r19 = 0 → Q (-1000000001) σ19) ∧ (¬ r19 = 0 → hh_Sp d hm_X11_within [hh_I a3, hh_I 0, hh_I 2] σ19 (fun r28 σ28 => (¬ r28 = 0 → (σ28 50 0 < 6 → ((0 ≤ σ28 50 0 ∧ σ28 50 0 < 6) ∧ (-2147483648 ≤ σ28 50 0 + 1 ∧ σ28 50 0 + 1 ≤ 2147483647)) ∧ (Q (σ28 50 0) (hh_up (hh_up (hh_up (hh_up σ28 51 (σ28 50 0) a1) 52 (σ28 50 0) a2) 53 (σ28 50 0) a3) 50 0 (σ28 50 0 + 1)))) ∧ (¬ σ28 50 0 < 6 → Q (-1000000003) σ28)) ∧ (r28 = 0 → Q (-1000000001) σ28))))))
set_option maxRecDepth 20000 in
theorem w_X11_task {d : Nat} {a1 a2 a3 : Int} {σ : hh_S} {Q : Int → hh_S → Prop} (h : P_X11_task d a1 a2 a3 σ Q) : hh_J (d + 1) hm_X11_task 0 [some (hh_R 0), some (hh_I a1), some (hh_I a2), some (hh_I a3), none, none] [] σ Q := by
  unfold P_X11_task at h
  refine hh_aload_n dX11_task_0 rfl ?_
  refine hh_getR dX11_task_1 kf_X11_10 rf_0_0 ?_
  refine hh_getR dX11_task_4 kf_X11_117 rf_1_2 ?_
  refine hh_iload_n dX11_task_7 rfl ?_
  refine hh_cV1 dX11_task_8 lk_X11_128 mo_X5_has rc_13 (Nat.le_of_ble_eq_true rfl) h (fun r8 σ8 h => ?_)
  refine hh_if_eq (tgt := 34) dX11_task_11 (by decide) (fun c => ?_) (fun c => ?_)
  · replace h := h.1 c
    refine hh_ldc (n := -1000000001) dX11_task_34 kc_X11_74 (by decide) ?_
    exact hh_ireturn dX11_task_36 rfl h
  · replace h := h.2 c
    refine hh_iload_n dX11_task_14 rfl ?_
    refine hh_iconst dX11_task_15 (by decide) ?_
    refine hh_sipush dX11_task_16 (by decide) ?_
    refine hh_cS3 dX11_task_19 lk_X11_70 mo_X11_within (Nat.le_of_ble_eq_true rfl) h (fun r19 σ19 h => ?_)
    refine hh_if_eq (tgt := 34) dX11_task_22 (by decide) (fun c => ?_) (fun c => ?_)
    · replace h := h.1 c
      refine hh_ldc (n := -1000000001) dX11_task_34 kc_X11_74 (by decide) ?_
      exact hh_ireturn dX11_task_36 rfl h
    · replace h := h.2 c
      refine hh_iload_n dX11_task_25 rfl ?_
      refine hh_iconst dX11_task_26 (by decide) ?_
      refine hh_iconst dX11_task_27 (by decide) ?_
      refine hh_cS3 dX11_task_28 lk_X11_70 mo_X11_within (Nat.le_of_ble_eq_true rfl) h (fun r28 σ28 h => ?_)
      refine hh_if_ne (tgt := 37) dX11_task_31 (by decide) (fun c => ?_) (fun c => ?_)
      · replace h := h.1 c
        refine hh_aload_n dX11_task_37 rfl ?_
        refine hh_getR dX11_task_38 kf_X11_10 rf_0_0 ?_
        refine hh_getR dX11_task_41 kf_X11_368 rf_1_6 ?_
        refine hh_astore dX11_task_44 (by decide) rfl ?_
        refine hh_aload dX11_task_46 rfl ?_
        refine hh_getI dX11_task_48 kf_X11_372 rf_50_0 rfl ?_
        refine hh_bipush dX11_task_51 (by decide) ?_
        refine hh_icmp_lt (tgt := 59) dX11_task_53 (by decide) (fun c => ?_) (fun c => ?_)
        · replace h := h.1 c
          obtain ⟨⟨q1, q2⟩, h⟩ := h
          refine hh_aload dX11_task_59 rfl ?_
          refine hh_getI dX11_task_61 kf_X11_372 rf_50_0 rfl ?_
          refine hh_istore dX11_task_64 (by decide) rfl ?_
          refine hh_aload dX11_task_66 rfl ?_
          refine hh_getR dX11_task_68 kf_X11_375 rf_50_1 ?_
          refine hh_iload dX11_task_71 rfl ?_
          refine hh_iload_n dX11_task_73 rfl ?_
          refine hh_iast dX11_task_74 ra_51 q1 ?_
          refine hh_aload dX11_task_75 rfl ?_
          refine hh_getR dX11_task_77 kf_X11_376 rf_50_2 ?_
          refine hh_iload dX11_task_80 rfl ?_
          refine hh_iload_n dX11_task_82 rfl ?_
          refine hh_iast dX11_task_83 ra_52 q1 ?_
          refine hh_aload dX11_task_84 rfl ?_
          refine hh_getR dX11_task_86 kf_X11_379 rf_50_3 ?_
          refine hh_iload dX11_task_89 rfl ?_
          refine hh_iload_n dX11_task_91 rfl ?_
          refine hh_iast dX11_task_92 ra_53 q1 ?_
          refine hh_aload dX11_task_93 rfl ?_
          refine hh_iload dX11_task_95 rfl ?_
          refine hh_iconst dX11_task_97 (by decide) ?_
          refine hh_iadd dX11_task_98 q2 ?_
          refine hh_putI dX11_task_99 kp_X11_372 rf_50_0 ?_
          refine hh_iload dX11_task_102 rfl ?_
          exact hh_ireturn dX11_task_104 rfl h
        · replace h := h.2 c
          refine hh_ldc (n := -1000000003) dX11_task_56 kc_X11_84 (by decide) ?_
          exact hh_ireturn dX11_task_58 rfl h
      · replace h := h.2 c
        refine hh_ldc (n := -1000000001) dX11_task_34 kc_X11_74 (by decide) ?_
        exact hh_ireturn dX11_task_36 rfl h
theorem wp_X11_task {d : Nat} (a1 a2 a3 : Int) {σ : hh_S} {Q : Int → hh_S → Prop} (h : hh_cs σ → hh_can a1 → hh_can a2 → hh_can a3 → P_X11_task d a1 a2 a3 σ Q) : hh_Sp (d + 1) hm_X11_task [hh_R 0, hh_I a1, hh_I a2, hh_I a3] σ Q :=
  hh_entry rfl (Nat.le_of_ble_eq_true rfl) rfl (fun hs hc => w_X11_task (h hs (hc _ (List.mem_of_getElem? (i := 1) rfl)) (hc _ (List.mem_of_getElem? (i := 2) rfl)) (hc _ (List.mem_of_getElem? (i := 3) rfl))))
def P_X11_clear (d : Nat) (σ : hh_S) (Q : Int → hh_S → Prop) : Prop :=
  Q (σ 50 0) (hh_up σ 50 0 0)
set_option maxRecDepth 20000 in
theorem w_X11_clear {d : Nat} {σ : hh_S} {Q : Int → hh_S → Prop} (h : P_X11_clear d σ Q) : hh_J (d + 1) hm_X11_clear 0 [some (hh_R 0), none] [] σ Q := by
  unfold P_X11_clear at h
  refine hh_aload_n dX11_clear_0 rfl ?_
  refine hh_getR dX11_clear_1 kf_X11_10 rf_0_0 ?_
  refine hh_getR dX11_clear_4 kf_X11_368 rf_1_6 ?_
  refine hh_getI dX11_clear_7 kf_X11_372 rf_50_0 rfl ?_
  refine hh_istore_n dX11_clear_10 (by decide) rfl ?_
  refine hh_aload_n dX11_clear_11 rfl ?_
  refine hh_getR dX11_clear_12 kf_X11_10 rf_0_0 ?_
  refine hh_getR dX11_clear_15 kf_X11_368 rf_1_6 ?_
  refine hh_iconst dX11_clear_18 (by decide) ?_
  refine hh_putI dX11_clear_19 kp_X11_372 rf_50_0 ?_
  refine hh_iload_n dX11_clear_22 rfl ?_
  exact hh_ireturn dX11_clear_23 rfl h
theorem wp_X11_clear {d : Nat} {σ : hh_S} {Q : Int → hh_S → Prop} (h : hh_cs σ → P_X11_clear d σ Q) : hh_Sp (d + 1) hm_X11_clear [hh_R 0] σ Q :=
  hh_entry rfl (Nat.le_of_ble_eq_true rfl) rfl (fun hs hc => w_X11_clear (h hs))
def P_X11_free (d : Nat) (a1 a2 : Int) (σ : hh_S) (Q : Int → hh_S → Prop) : Prop :=
  hh_Sp d hm_X6_has [hh_R 2, hh_I a1] σ (fun r8 σ8 => (r8 = 0 → Q (-1000000001) σ8) ∧ (¬ r8 = 0 → hh_Sp d hm_X11_within [hh_I a2, hh_I 0, hh_I 9999] σ8 (fun r19 σ19 => (¬ r19 = 0 → ((0 ≤ a1 ∧ a1 < 8)) ∧ (Q (σ19 5 a1) (hh_up σ19 5 a1 a2))) ∧ (r19 = 0 → Q (-1000000001) σ19))))
set_option maxRecDepth 20000 in
theorem w_X11_free {d : Nat} {a1 a2 : Int} {σ : hh_S} {Q : Int → hh_S → Prop} (h : P_X11_free d a1 a2 σ Q) : hh_J (d + 1) hm_X11_free 0 [some (hh_R 0), some (hh_I a1), some (hh_I a2), none] [] σ Q := by
  unfold P_X11_free at h
  refine hh_aload_n dX11_free_0 rfl ?_
  refine hh_getR dX11_free_1 kf_X11_10 rf_0_0 ?_
  refine hh_getR dX11_free_4 kf_X11_75 rf_1_0 ?_
  refine hh_iload_n dX11_free_7 rfl ?_
  refine hh_cV1 dX11_free_8 lk_X11_94 mo_X6_has rc_2 (Nat.le_of_ble_eq_true rfl) h (fun r8 σ8 h => ?_)
  refine hh_if_eq (tgt := 25) dX11_free_11 (by decide) (fun c => ?_) (fun c => ?_)
  · replace h := h.1 c
    refine hh_ldc (n := -1000000001) dX11_free_25 kc_X11_74 (by decide) ?_
    exact hh_ireturn dX11_free_27 rfl h
  · replace h := h.2 c
    refine hh_iload_n dX11_free_14 rfl ?_
    refine hh_iconst dX11_free_15 (by decide) ?_
    refine hh_sipush dX11_free_16 (by decide) ?_
    refine hh_cS3 dX11_free_19 lk_X11_70 mo_X11_within (Nat.le_of_ble_eq_true rfl) h (fun r19 σ19 h => ?_)
    refine hh_if_ne (tgt := 28) dX11_free_22 (by decide) (fun c => ?_) (fun c => ?_)
    · replace h := h.1 c
      obtain ⟨q1, h⟩ := h
      refine hh_aload_n dX11_free_28 rfl ?_
      refine hh_getR dX11_free_29 kf_X11_10 rf_0_0 ?_
      refine hh_getR dX11_free_32 kf_X11_75 rf_1_0 ?_
      refine hh_getR dX11_free_35 kf_X11_91 rf_2_3 ?_
      refine hh_iload_n dX11_free_38 rfl ?_
      refine hh_iald dX11_free_39 ra_5 q1 rfl ?_
      refine hh_istore_n dX11_free_40 (by decide) rfl ?_
      refine hh_aload_n dX11_free_41 rfl ?_
      refine hh_getR dX11_free_42 kf_X11_10 rf_0_0 ?_
      refine hh_getR dX11_free_45 kf_X11_75 rf_1_0 ?_
      refine hh_getR dX11_free_48 kf_X11_91 rf_2_3 ?_
      refine hh_iload_n dX11_free_51 rfl ?_
      refine hh_iload_n dX11_free_52 rfl ?_
      refine hh_iast dX11_free_53 ra_5 q1 ?_
      refine hh_iload_n dX11_free_54 rfl ?_
      exact hh_ireturn dX11_free_55 rfl h
    · replace h := h.2 c
      refine hh_ldc (n := -1000000001) dX11_free_25 kc_X11_74 (by decide) ?_
      exact hh_ireturn dX11_free_27 rfl h
theorem wp_X11_free {d : Nat} (a1 a2 : Int) {σ : hh_S} {Q : Int → hh_S → Prop} (h : hh_cs σ → hh_can a1 → hh_can a2 → P_X11_free d a1 a2 σ Q) : hh_Sp (d + 1) hm_X11_free [hh_R 0, hh_I a1, hh_I a2] σ Q :=
  hh_entry rfl (Nat.le_of_ble_eq_true rfl) rfl (fun hs hc => w_X11_free (h hs (hc _ (List.mem_of_getElem? (i := 1) rfl)) (hc _ (List.mem_of_getElem? (i := 2) rfl))))
def B_X11_lay_48 (d : Nat) (Q : Int → hh_S → Prop) (k48 : Int → Int → Int → hh_S → Prop) (x1 x2 x3 : Int) (σ : hh_S) : Prop :=
  (x2 ≤ x3 → Q x2 σ) ∧ (¬ x2 ≤ x3 → ((-2147483648 ≤ x1 * 20 ∧ x1 * 20 ≤ 2147483647) ∧ (-2147483648 ≤ x1 * 20 + x3 ∧ x1 * 20 + x3 ≤ 2147483647) ∧ (0 ≤ x1 * 20 + x3 ∧ x1 * 20 + x3 < 40) ∧ (0 ≤ x3 ∧ x3 < 8) ∧ (-2147483648 ≤ x3 + 1 ∧ x3 + 1 ≤ 2147483647)) ∧ (k48 x1 x2 (x3 + 1) (hh_up σ 5 x3 (hh_max 0 (hh_min 9999 (σ 123 (x1 * 20 + x3)))))))
def P_X11_lay (d : Nat) (a1 : Int) (σ : hh_S) (Q : Int → hh_S → Prop) : Prop :=
  hh_Sp d hm_X11_within [hh_I a1, hh_I 0, hh_I 1] σ (fun r3 σ3 => (¬ r3 = 0 → ((0 ≤ a1 ∧ a1 < 2)) ∧ ((¬ σ3 124 a1 = (-1) → ((0 ≤ a1 ∧ a1 < 2)) ∧ (∃ n, hh_lp3 (B_X11_lay_48 d Q) n a1 (hh_min (σ3 124 a1) (σ3 2 0)) 0 σ3)) ∧ (σ3 124 a1 = (-1) → Q (-1000000011) σ3))) ∧ (r3 = 0 → Q (-1000000001) σ3))
set_option maxRecDepth 20000 in
theorem w_X11_lay_48 {d : Nat} {Q : Int → hh_S → Prop} {k48 : Int → Int → Int → hh_S → Prop} (hk48 : ∀ (x1 x2 x3 : Int) (σ : hh_S), k48 x1 x2 x3 σ → hh_J (d + 1) hm_X11_lay 48 [some (hh_R 0), some (hh_I x1), some (hh_I x2), some (hh_I x3)] [] σ Q) (x1 x2 x3 : Int) (σ : hh_S) (h : B_X11_lay_48 d Q k48 x1 x2 x3 σ) : hh_J (d + 1) hm_X11_lay 48 [some (hh_R 0), some (hh_I x1), some (hh_I x2), some (hh_I x3)] [] σ Q := by
  unfold B_X11_lay_48 at h
  refine hh_iload_n dX11_lay_48 rfl ?_
  refine hh_iload_n dX11_lay_49 rfl ?_
  refine hh_icmp_ge (tgt := 92) dX11_lay_50 (by decide) (fun c => ?_) (fun c => ?_)
  · replace h := h.1 c
    refine hh_iload_n dX11_lay_92 rfl ?_
    exact hh_ireturn dX11_lay_93 rfl h
  · replace h := h.2 c
    obtain ⟨⟨q1, q2, q3, q4, q5⟩, h⟩ := h
    refine hh_aload_n dX11_lay_53 rfl ?_
    refine hh_getR dX11_lay_54 kf_X11_10 rf_0_0 ?_
    refine hh_getR dX11_lay_57 kf_X11_75 rf_1_0 ?_
    refine hh_getR dX11_lay_60 kf_X11_91 rf_2_3 ?_
    refine hh_iload_n dX11_lay_63 rfl ?_
    refine hh_iconst dX11_lay_64 (by decide) ?_
    refine hh_sipush dX11_lay_65 (by decide) ?_
    refine hh_aload_n dX11_lay_68 rfl ?_
    refine hh_getR dX11_lay_69 kf_X11_54 rf_0_8 ?_
    refine hh_iload_n dX11_lay_72 rfl ?_
    refine hh_bipush dX11_lay_73 (by decide) ?_
    refine hh_imul dX11_lay_75 q1 ?_
    refine hh_iload_n dX11_lay_76 rfl ?_
    refine hh_iadd dX11_lay_77 q2 ?_
    refine hh_sald dX11_lay_78 ra_123 q3 rfl ?_
    refine hh_mmin dX11_lay_79 km_X11_314 (Nat.le_of_ble_eq_true rfl) ?_
    refine hh_mmax dX11_lay_82 km_X11_234 (Nat.le_of_ble_eq_true rfl) ?_
    refine hh_iast dX11_lay_85 ra_5 q4 ?_
    refine hh_iinc dX11_lay_86 (by decide) rfl rfl q5 ?_
    refine hh_goto (tgt := 48) dX11_lay_89 (by decide) ?_
    exact hh_forget [true, true, true, true] (hk48 _ _ _ _ h)
theorem l_X11_lay_48 {d : Nat} {Q : Int → hh_S → Prop} : ∀ (n : Nat) (x1 x2 x3 : Int) (σ : hh_S), hh_lp3 (B_X11_lay_48 d Q) n x1 x2 x3 σ → hh_J (d + 1) hm_X11_lay 48 [some (hh_R 0), some (hh_I x1), some (hh_I x2), some (hh_I x3)] [] σ Q := by
  intro n
  induction n with
  | zero => intro _ _ _ _ h; exact h.elim
  | succ n ih => intro x1 x2 x3 σ h; exact w_X11_lay_48 ih x1 x2 x3 σ h
set_option maxRecDepth 20000 in
theorem w_X11_lay {d : Nat} {a1 : Int} {σ : hh_S} {Q : Int → hh_S → Prop} (h : P_X11_lay d a1 σ Q) : hh_J (d + 1) hm_X11_lay 0 [some (hh_R 0), some (hh_I a1), none, none] [] σ Q := by
  unfold P_X11_lay at h
  refine hh_iload_n dX11_lay_0 rfl ?_
  refine hh_iconst dX11_lay_1 (by decide) ?_
  refine hh_iconst dX11_lay_2 (by decide) ?_
  refine hh_cS3 dX11_lay_3 lk_X11_70 mo_X11_within (Nat.le_of_ble_eq_true rfl) h (fun r3 σ3 h => ?_)
  refine hh_if_ne (tgt := 12) dX11_lay_6 (by decide) (fun c => ?_) (fun c => ?_)
  · replace h := h.1 c
    obtain ⟨q1, h⟩ := h
    refine hh_aload_n dX11_lay_12 rfl ?_
    refine hh_getR dX11_lay_13 kf_X11_58 rf_0_9 ?_
    refine hh_iload_n dX11_lay_16 rfl ?_
    refine hh_iald dX11_lay_17 ra_124 q1 rfl ?_
    refine hh_iconst dX11_lay_18 (by decide) ?_
    refine hh_icmp_ne (tgt := 26) dX11_lay_19 (by decide) (fun c => ?_) (fun c => ?_)
    · replace h := h.1 c
      obtain ⟨q1, h⟩ := h
      refine hh_aload_n dX11_lay_26 rfl ?_
      refine hh_getR dX11_lay_27 kf_X11_58 rf_0_9 ?_
      refine hh_iload_n dX11_lay_30 rfl ?_
      refine hh_iald dX11_lay_31 ra_124 q1 rfl ?_
      refine hh_aload_n dX11_lay_32 rfl ?_
      refine hh_getR dX11_lay_33 kf_X11_10 rf_0_0 ?_
      refine hh_getR dX11_lay_36 kf_X11_75 rf_1_0 ?_
      refine hh_getI dX11_lay_39 kf_X11_79 rf_2_0 rfl ?_
      refine hh_mmin dX11_lay_42 km_X11_314 (Nat.le_of_ble_eq_true rfl) ?_
      refine hh_istore_n dX11_lay_45 (by decide) rfl ?_
      refine hh_iconst dX11_lay_46 (by decide) ?_
      refine hh_istore_n dX11_lay_47 (by decide) rfl ?_
      obtain ⟨n, h⟩ := h
      exact hh_forget [true, true, true, true] (l_X11_lay_48 n _ _ _ _ h)
    · replace h := h.2 c
      refine hh_ldc_w (n := -1000000011) dX11_lay_22 kc_X11_382 (by decide) ?_
      exact hh_ireturn dX11_lay_25 rfl h
  · replace h := h.2 c
    refine hh_ldc (n := -1000000001) dX11_lay_9 kc_X11_74 (by decide) ?_
    exact hh_ireturn dX11_lay_11 rfl h
theorem wp_X11_lay {d : Nat} (a1 : Int) {σ : hh_S} {Q : Int → hh_S → Prop} (h : hh_cs σ → hh_can a1 → P_X11_lay d a1 σ Q) : hh_Sp (d + 1) hm_X11_lay [hh_R 0, hh_I a1] σ Q :=
  hh_entry rfl (Nat.le_of_ble_eq_true rfl) rfl (fun hs hc => w_X11_lay (h hs (hc _ (List.mem_of_getElem? (i := 1) rfl))))
def P_X11_plan (d : Nat) (a1 : Int) (σ : hh_S) (Q : Int → hh_S → Prop) : Prop :=
  hh_Sp d hm_X11_within [hh_I a1, hh_I 1, hh_I 30000] σ (fun r5 σ5 => (¬ r5 = 0 → hh_Sp d hm_X7_seek [hh_R 117, hh_I a1] σ5 (fun r19 σ19 => Q r19 σ19)) ∧ (r5 = 0 → Q (-1000000001) σ5))
set_option maxRecDepth 20000 in
theorem w_X11_plan {d : Nat} {a1 : Int} {σ : hh_S} {Q : Int → hh_S → Prop} (h : P_X11_plan d a1 σ Q) : hh_J (d + 1) hm_X11_plan 0 [some (hh_R 0), some (hh_I a1)] [] σ Q := by
  unfold P_X11_plan at h
  refine hh_iload_n dX11_plan_0 rfl ?_
  refine hh_iconst dX11_plan_1 (by decide) ?_
  refine hh_sipush dX11_plan_2 (by decide) ?_
  refine hh_cS3 dX11_plan_5 lk_X11_70 mo_X11_within (Nat.le_of_ble_eq_true rfl) h (fun r5 σ5 h => ?_)
  refine hh_if_ne (tgt := 14) dX11_plan_8 (by decide) (fun c => ?_) (fun c => ?_)
  · replace h := h.1 c
    refine hh_aload_n dX11_plan_14 rfl ?_
    refine hh_getR dX11_plan_15 kf_X11_42 rf_0_5 ?_
    refine hh_iload_n dX11_plan_18 rfl ?_
    refine hh_cV1 dX11_plan_19 lk_X11_383 mo_X7_seek rc_117 (Nat.le_of_ble_eq_true rfl) h (fun r19 σ19 h => ?_)
    exact hh_ireturn dX11_plan_22 rfl h
  · replace h := h.2 c
    refine hh_ldc (n := -1000000001) dX11_plan_11 kc_X11_74 (by decide) ?_
    exact hh_ireturn dX11_plan_13 rfl h
theorem wp_X11_plan {d : Nat} (a1 : Int) {σ : hh_S} {Q : Int → hh_S → Prop} (h : hh_cs σ → hh_can a1 → P_X11_plan d a1 σ Q) : hh_Sp (d + 1) hm_X11_plan [hh_R 0, hh_I a1] σ Q :=
  hh_entry rfl (Nat.le_of_ble_eq_true rfl) rfl (fun hs hc => w_X11_plan (h hs (hc _ (List.mem_of_getElem? (i := 1) rfl))))
def P_X11_planned (d : Nat) (a1 a2 : Int) (σ : hh_S) (Q : Int → hh_S → Prop) : Prop :=
  hh_Sp d hm_X11_within [hh_I a1, hh_I 1, hh_I 30000] σ (fun r5 σ5 => (r5 = 0 → Q (-1000000001) σ5) ∧ (¬ r5 = 0 → ((-2147483648 ≤ σ5 50 0 - 1 ∧ σ5 50 0 - 1 ≤ 2147483647)) ∧ (hh_Sp d hm_X11_within [hh_I a2, hh_I 0, hh_I (σ5 50 0 - 1)] σ5 (fun r25 σ25 => (¬ r25 = 0 → hh_Sp d hm_X7_seek [hh_R 117, hh_I a1] σ25 (fun r39 σ39 => (0 ≤ r39 → ((0 ≤ a2 ∧ a2 < 6)) ∧ (Q (σ39 121 a2) σ39)) ∧ (¬ 0 ≤ r39 → Q r39 σ39))) ∧ (r25 = 0 → Q (-1000000001) σ25)))))
set_option maxRecDepth 20000 in
theorem w_X11_planned {d : Nat} {a1 a2 : Int} {σ : hh_S} {Q : Int → hh_S → Prop} (h : P_X11_planned d a1 a2 σ Q) : hh_J (d + 1) hm_X11_planned 0 [some (hh_R 0), some (hh_I a1), some (hh_I a2), none] [] σ Q := by
  unfold P_X11_planned at h
  refine hh_iload_n dX11_planned_0 rfl ?_
  refine hh_iconst dX11_planned_1 (by decide) ?_
  refine hh_sipush dX11_planned_2 (by decide) ?_
  refine hh_cS3 dX11_planned_5 lk_X11_70 mo_X11_within (Nat.le_of_ble_eq_true rfl) h (fun r5 σ5 h => ?_)
  refine hh_if_eq (tgt := 31) dX11_planned_8 (by decide) (fun c => ?_) (fun c => ?_)
  · replace h := h.1 c
    refine hh_ldc (n := -1000000001) dX11_planned_31 kc_X11_74 (by decide) ?_
    exact hh_ireturn dX11_planned_33 rfl h
  · replace h := h.2 c
    obtain ⟨q1, h⟩ := h
    refine hh_iload_n dX11_planned_11 rfl ?_
    refine hh_iconst dX11_planned_12 (by decide) ?_
    refine hh_aload_n dX11_planned_13 rfl ?_
    refine hh_getR dX11_planned_14 kf_X11_10 rf_0_0 ?_
    refine hh_getR dX11_planned_17 kf_X11_368 rf_1_6 ?_
    refine hh_getI dX11_planned_20 kf_X11_372 rf_50_0 rfl ?_
    refine hh_iconst dX11_planned_23 (by decide) ?_
    refine hh_isub dX11_planned_24 q1 ?_
    refine hh_cS3 dX11_planned_25 lk_X11_70 mo_X11_within (Nat.le_of_ble_eq_true rfl) h (fun r25 σ25 h => ?_)
    refine hh_if_ne (tgt := 34) dX11_planned_28 (by decide) (fun c => ?_) (fun c => ?_)
    · replace h := h.1 c
      refine hh_aload_n dX11_planned_34 rfl ?_
      refine hh_getR dX11_planned_35 kf_X11_42 rf_0_5 ?_
      refine hh_iload_n dX11_planned_38 rfl ?_
      refine hh_cV1 dX11_planned_39 lk_X11_383 mo_X7_seek rc_117 (Nat.le_of_ble_eq_true rfl) h (fun r39 σ39 h => ?_)
      refine hh_istore_n dX11_planned_42 (by decide) rfl ?_
      refine hh_iload_n dX11_planned_43 rfl ?_
      refine hh_if_ge (tgt := 51) dX11_planned_44 (by decide) (fun c => ?_) (fun c => ?_)
      · replace h := h.1 c
        obtain ⟨q1, h⟩ := h
        refine hh_aload_n dX11_planned_51 rfl ?_
        refine hh_getR dX11_planned_52 kf_X11_42 rf_0_5 ?_
        refine hh_getR dX11_planned_55 kf_X11_386 rf_117_4 ?_
        refine hh_iload_n dX11_planned_58 rfl ?_
        refine hh_iald dX11_planned_59 ra_121 q1 rfl ?_
        exact hh_ireturn dX11_planned_60 rfl h
      · replace h := h.2 c
        refine hh_iload_n dX11_planned_47 rfl ?_
        refine hh_goto (tgt := 60) dX11_planned_48 (by decide) ?_
        exact hh_ireturn dX11_planned_60 rfl h
    · replace h := h.2 c
      refine hh_ldc (n := -1000000001) dX11_planned_31 kc_X11_74 (by decide) ?_
      exact hh_ireturn dX11_planned_33 rfl h
theorem wp_X11_planned {d : Nat} (a1 a2 : Int) {σ : hh_S} {Q : Int → hh_S → Prop} (h : hh_cs σ → hh_can a1 → hh_can a2 → P_X11_planned d a1 a2 σ Q) : hh_Sp (d + 1) hm_X11_planned [hh_R 0, hh_I a1, hh_I a2] σ Q :=
  hh_entry rfl (Nat.le_of_ble_eq_true rfl) rfl (fun hs hc => w_X11_planned (h hs (hc _ (List.mem_of_getElem? (i := 1) rfl)) (hc _ (List.mem_of_getElem? (i := 2) rfl))))
def P_X11_tell (d : Nat) (a1 : Int) (σ : hh_S) (Q : Int → hh_S → Prop) : Prop :=
  (σ 0 7 < 20 → ((0 ≤ σ 0 7 ∧ σ 0 7 < 20) ∧ (-2147483648 ≤ σ 0 7 + 1 ∧ σ 0 7 + 1 ≤ 2147483647)) ∧ (Q (σ 0 7 + 1) (hh_up (hh_up σ 122 (σ 0 7) a1) 0 7 (σ 0 7 + 1)))) ∧ (¬ σ 0 7 < 20 → Q (-1000000003) σ)
set_option maxRecDepth 20000 in
theorem w_X11_tell {d : Nat} {a1 : Int} {σ : hh_S} {Q : Int → hh_S → Prop} (h : P_X11_tell d a1 σ Q) : hh_J (d + 1) hm_X11_tell 0 [some (hh_R 0), some (hh_I a1)] [] σ Q := by
  unfold P_X11_tell at h
  refine hh_aload_n dX11_tell_0 rfl ?_
  refine hh_getI dX11_tell_1 kf_X11_50 rf_0_7 rfl ?_
  refine hh_bipush dX11_tell_4 (by decide) ?_
  refine hh_icmp_lt (tgt := 12) dX11_tell_6 (by decide) (fun c => ?_) (fun c => ?_)
  · replace h := h.1 c
    obtain ⟨⟨q1, q2⟩, h⟩ := h
    refine hh_aload_n dX11_tell_12 rfl ?_
    refine hh_getR dX11_tell_13 kf_X11_46 rf_0_6 ?_
    refine hh_aload_n dX11_tell_16 rfl ?_
    refine hh_getI dX11_tell_17 kf_X11_50 rf_0_7 rfl ?_
    refine hh_iload_n dX11_tell_20 rfl ?_
    refine hh_iast dX11_tell_21 ra_122 q1 ?_
    refine hh_aload_n dX11_tell_22 rfl ?_
    refine hh_dup dX11_tell_23 (fun _ => rfl) ?_
    refine hh_getI dX11_tell_24 kf_X11_50 rf_0_7 rfl ?_
    refine hh_iconst dX11_tell_27 (by decide) ?_
    refine hh_iadd dX11_tell_28 q2 ?_
    refine hh_putI dX11_tell_29 kp_X11_50 rf_0_7 ?_
    refine hh_aload_n dX11_tell_32 rfl ?_
    refine hh_getI dX11_tell_33 kf_X11_50 rf_0_7 rfl ?_
    exact hh_ireturn dX11_tell_36 rfl h
  · replace h := h.2 c
    refine hh_ldc (n := -1000000003) dX11_tell_9 kc_X11_84 (by decide) ?_
    exact hh_ireturn dX11_tell_11 rfl h
theorem wp_X11_tell {d : Nat} (a1 : Int) {σ : hh_S} {Q : Int → hh_S → Prop} (h : hh_cs σ → hh_can a1 → P_X11_tell d a1 σ Q) : hh_Sp (d + 1) hm_X11_tell [hh_R 0, hh_I a1] σ Q :=
  hh_entry rfl (Nat.le_of_ble_eq_true rfl) rfl (fun hs hc => w_X11_tell (h hs (hc _ (List.mem_of_getElem? (i := 1) rfl))))
def B_X11_check_135 (d : Nat) (Q : Int → hh_S → Prop) (x1 x3 : Int) (σ : hh_S) : Prop :=
  (x1 ≤ x3 → Q 0 σ) ∧ (¬ x1 ≤ x3 → ((-2147483648 ≤ 1 + x3 ∧ 1 + x3 ≤ 2147483647)) ∧ (Q (1 + x3) σ))
def B_X11_check_124 (d : Nat) (Q : Int → hh_S → Prop) (x5 : Int) (σ : hh_S) : Prop :=
  ((-2147483648 ≤ 1 + x5 ∧ 1 + x5 ≤ 2147483647)) ∧ (Q (1 + x5) σ)
def B_X11_check_106 (d : Nat) (Q : Int → hh_S → Prop) (k46 : Int → Int → Int → Int → hh_S → Prop) (x1 x3 x4 x5 x7 : Int) (σ : hh_S) : Prop :=
  (x1 ≤ x5 → B_X11_check_124 d Q x5 σ) ∧ (¬ x1 ≤ x5 → ((0 ≤ x5 ∧ x5 < 20)) ∧ ((σ 122 x5 = x7 → ((-2147483648 ≤ x5 + 1 ∧ x5 + 1 ≤ 2147483647)) ∧ (k46 x1 x3 x4 (x5 + 1) σ)) ∧ (¬ σ 122 x5 = x7 → B_X11_check_124 d Q x5 σ)))
def B_X11_check_46 (d : Nat) (Q : Int → hh_S → Prop) (k46 : Int → Int → Int → Int → hh_S → Prop) (x1 x3 x4 x5 : Int) (σ : hh_S) : Prop :=
  (x3 ≤ x5 → B_X11_check_135 d Q x1 x3 σ) ∧ (¬ x3 ≤ x5 → (0 ≤ x5 ∧ (0 ≤ x5 / 2 ∧ x5 / 2 < 6)) ∧ ((¬ x5 % 2 = 1 → B_X11_check_106 d Q k46 x1 x3 x4 x5 (σ 121 (x5 / 2)) σ) ∧ (x5 % 2 = 1 → ((0 ≤ x5 / 2 ∧ x5 / 2 < 6)) ∧ (hh_Sp d hm_X7_costOf [hh_R 117, hh_I (x5 / 2), hh_I (σ 121 (x5 / 2))] σ (fun r96 σ96 => ((-2147483648 ≤ x4 + r96 ∧ x4 + r96 ≤ 2147483647)) ∧ (B_X11_check_106 d Q k46 x1 x3 (x4 + r96) x5 (x4 + r96) σ96))))))
def P_X11_check (d : Nat) (σ : hh_S) (Q : Int → hh_S → Prop) : Prop :=
  hh_Sp d hm_X7_seek [hh_R 117, hh_I 30000] (hh_up σ 0 7 0) (fun r17 σ17 => (0 ≤ r17 → ((-2147483648 ≤ 2 * (σ17 50 0) ∧ 2 * (σ17 50 0) ≤ 2147483647)) ∧ (∃ n, hh_lp4 (B_X11_check_46 d Q) n (σ 0 7) (2 * (σ17 50 0)) 0 0 σ17)) ∧ (¬ 0 ≤ r17 → Q r17 σ17))
set_option maxRecDepth 20000 in
theorem w_X11_check_135 {d : Nat} {Q : Int → hh_S → Prop} (x1 x3 : Int) (σ : hh_S) (h : B_X11_check_135 d Q x1 x3 σ) : hh_J (d + 1) hm_X11_check 135 [none, some (hh_I x1), none, some (hh_I x3), none, none, none, none] [] σ Q := by
  unfold B_X11_check_135 at h
  refine hh_iload_n dX11_check_135 rfl ?_
  refine hh_iload_n dX11_check_136 rfl ?_
  refine hh_icmp_le (tgt := 146) dX11_check_137 (by decide) (fun c => ?_) (fun c => ?_)
  · replace h := h.1 c
    refine hh_iconst dX11_check_146 (by decide) ?_
    exact hh_ireturn dX11_check_147 rfl h
  · replace h := h.2 c
    obtain ⟨q1, h⟩ := h
    refine hh_iconst dX11_check_140 (by decide) ?_
    refine hh_iload_n dX11_check_141 rfl ?_
    refine hh_iadd dX11_check_142 q1 ?_
    refine hh_goto (tgt := 147) dX11_check_143 (by decide) ?_
    exact hh_ireturn dX11_check_147 rfl h
set_option maxRecDepth 20000 in
theorem w_X11_check_124 {d : Nat} {Q : Int → hh_S → Prop} (x5 : Int) (σ : hh_S) (h : B_X11_check_124 d Q x5 σ) : hh_J (d + 1) hm_X11_check 124 [none, none, none, none, none, some (hh_I x5), none, none] [] σ Q := by
  unfold B_X11_check_124 at h
  obtain ⟨q1, h⟩ := h
  refine hh_iconst dX11_check_124 (by decide) ?_
  refine hh_iload dX11_check_125 rfl ?_
  refine hh_iadd dX11_check_127 q1 ?_
  exact hh_ireturn dX11_check_128 rfl h
set_option maxRecDepth 20000 in
theorem w_X11_check_106 {d : Nat} {Q : Int → hh_S → Prop} {k46 : Int → Int → Int → Int → hh_S → Prop} (hk46 : ∀ (x1 x3 x4 x5 : Int) (σ : hh_S), k46 x1 x3 x4 x5 σ → hh_J (d + 1) hm_X11_check 46 [some (hh_R 0), some (hh_I x1), none, some (hh_I x3), some (hh_I x4), some (hh_I x5), none, none] [] σ Q) (x1 x3 x4 x5 x7 : Int) (σ : hh_S) (h : B_X11_check_106 d Q k46 x1 x3 x4 x5 x7 σ) : hh_J (d + 1) hm_X11_check 106 [some (hh_R 0), some (hh_I x1), none, some (hh_I x3), some (hh_I x4), some (hh_I x5), none, some (hh_I x7)] [] σ Q := by
  unfold B_X11_check_106 at h
  refine hh_iload dX11_check_106 rfl ?_
  refine hh_iload_n dX11_check_108 rfl ?_
  refine hh_icmp_ge (tgt := 124) dX11_check_109 (by decide) (fun c => ?_) (fun c => ?_)
  · replace h := h.1 c
    exact hh_forget [false, false, false, false, false, true, false, false] (w_X11_check_124 _ _ h)
  · replace h := h.2 c
    obtain ⟨q1, h⟩ := h
    refine hh_aload_n dX11_check_112 rfl ?_
    refine hh_getR dX11_check_113 kf_X11_46 rf_0_6 ?_
    refine hh_iload dX11_check_116 rfl ?_
    refine hh_iald dX11_check_118 ra_122 q1 rfl ?_
    refine hh_iload dX11_check_119 rfl ?_
    refine hh_icmp_eq (tgt := 129) dX11_check_121 (by decide) (fun c => ?_) (fun c => ?_)
    · replace h := h.1 c
      obtain ⟨q1, h⟩ := h
      refine hh_iinc dX11_check_129 (by decide) rfl rfl q1 ?_
      refine hh_goto (tgt := 46) dX11_check_132 (by decide) ?_
      exact hh_forget [true, true, false, true, true, true, false, false] (hk46 _ _ _ _ _ h)
    · replace h := h.2 c
      exact hh_forget [false, false, false, false, false, true, false, false] (w_X11_check_124 _ _ h)
set_option maxRecDepth 20000 in
theorem w_X11_check_46 {d : Nat} {Q : Int → hh_S → Prop} {k46 : Int → Int → Int → Int → hh_S → Prop} (hk46 : ∀ (x1 x3 x4 x5 : Int) (σ : hh_S), k46 x1 x3 x4 x5 σ → hh_J (d + 1) hm_X11_check 46 [some (hh_R 0), some (hh_I x1), none, some (hh_I x3), some (hh_I x4), some (hh_I x5), none, none] [] σ Q) (x1 x3 x4 x5 : Int) (σ : hh_S) (h : B_X11_check_46 d Q k46 x1 x3 x4 x5 σ) : hh_J (d + 1) hm_X11_check 46 [some (hh_R 0), some (hh_I x1), none, some (hh_I x3), some (hh_I x4), some (hh_I x5), none, none] [] σ Q := by
  unfold B_X11_check_46 at h
  refine hh_iload dX11_check_46 rfl ?_
  refine hh_iload_n dX11_check_48 rfl ?_
  refine hh_icmp_ge (tgt := 135) dX11_check_49 (by decide) (fun c => ?_) (fun c => ?_)
  · replace h := h.1 c
    exact hh_forget [false, true, false, true, false, false, false, false] (w_X11_check_135 _ _ _ h)
  · replace h := h.2 c
    obtain ⟨⟨q1, q2⟩, h⟩ := h
    refine hh_iload dX11_check_52 rfl ?_
    refine hh_iconst dX11_check_54 (by decide) ?_
    refine hh_idiv dX11_check_55 q1 (by decide) ?_
    refine hh_istore dX11_check_56 (by decide) rfl ?_
    refine hh_aload_n dX11_check_58 rfl ?_
    refine hh_getR dX11_check_59 kf_X11_42 rf_0_5 ?_
    refine hh_getR dX11_check_62 kf_X11_386 rf_117_4 ?_
    refine hh_iload dX11_check_65 rfl ?_
    refine hh_iald dX11_check_67 ra_121 q2 rfl ?_
    refine hh_istore dX11_check_68 (by decide) rfl ?_
    refine hh_iload dX11_check_70 rfl ?_
    refine hh_iconst dX11_check_72 (by decide) ?_
    refine hh_irem dX11_check_73 q1 (by decide) ?_
    refine hh_iconst dX11_check_74 (by decide) ?_
    refine hh_icmp_ne (tgt := 106) dX11_check_75 (by decide) (fun c => ?_) (fun c => ?_)
    · replace h := h.1 c
      exact hh_forget [true, true, false, true, true, true, false, true] (w_X11_check_106 hk46 _ _ _ _ _ _ h)
    · replace h := h.2 c
      obtain ⟨q1, h⟩ := h
      refine hh_iload dX11_check_78 rfl ?_
      refine hh_aload_n dX11_check_80 rfl ?_
      refine hh_getR dX11_check_81 kf_X11_42 rf_0_5 ?_
      refine hh_iload dX11_check_84 rfl ?_
      refine hh_aload_n dX11_check_86 rfl ?_
      refine hh_getR dX11_check_87 kf_X11_42 rf_0_5 ?_
      refine hh_getR dX11_check_90 kf_X11_386 rf_117_4 ?_
      refine hh_iload dX11_check_93 rfl ?_
      refine hh_iald dX11_check_95 ra_121 q1 rfl ?_
      refine hh_cV2 dX11_check_96 lk_X11_389 mo_X7_costOf rc_117 (Nat.le_of_ble_eq_true rfl) h (fun r96 σ96 h => ?_)
      obtain ⟨q1, h⟩ := h
      refine hh_iadd dX11_check_99 q1 ?_
      refine hh_istore dX11_check_100 (by decide) rfl ?_
      refine hh_iload dX11_check_102 rfl ?_
      refine hh_istore dX11_check_104 (by decide) rfl ?_
      exact hh_forget [true, true, false, true, true, true, false, true] (w_X11_check_106 hk46 _ _ _ _ _ _ h)
theorem l_X11_check_46 {d : Nat} {Q : Int → hh_S → Prop} : ∀ (n : Nat) (x1 x3 x4 x5 : Int) (σ : hh_S), hh_lp4 (B_X11_check_46 d Q) n x1 x3 x4 x5 σ → hh_J (d + 1) hm_X11_check 46 [some (hh_R 0), some (hh_I x1), none, some (hh_I x3), some (hh_I x4), some (hh_I x5), none, none] [] σ Q := by
  intro n
  induction n with
  | zero => intro _ _ _ _ _ h; exact h.elim
  | succ n ih => intro x1 x3 x4 x5 σ h; exact w_X11_check_46 ih x1 x3 x4 x5 σ h
set_option maxRecDepth 20000 in
theorem w_X11_check {d : Nat} {σ : hh_S} {Q : Int → hh_S → Prop} (h : P_X11_check d σ Q) : hh_J (d + 1) hm_X11_check 0 [some (hh_R 0), none, none, none, none, none, none, none] [] σ Q := by
  unfold P_X11_check at h
  refine hh_aload_n dX11_check_0 rfl ?_
  refine hh_getI dX11_check_1 kf_X11_50 rf_0_7 rfl ?_
  refine hh_istore_n dX11_check_4 (by decide) rfl ?_
  refine hh_aload_n dX11_check_5 rfl ?_
  refine hh_iconst dX11_check_6 (by decide) ?_
  refine hh_putI dX11_check_7 kp_X11_50 rf_0_7 ?_
  refine hh_aload_n dX11_check_10 rfl ?_
  refine hh_getR dX11_check_11 kf_X11_42 rf_0_5 ?_
  refine hh_sipush dX11_check_14 (by decide) ?_
  refine hh_cV1 dX11_check_17 lk_X11_383 mo_X7_seek rc_117 (Nat.le_of_ble_eq_true rfl) h (fun r17 σ17 h => ?_)
  refine hh_istore_n dX11_check_20 (by decide) rfl ?_
  refine hh_iload_n dX11_check_21 rfl ?_
  refine hh_if_ge (tgt := 27) dX11_check_22 (by decide) (fun c => ?_) (fun c => ?_)
  · replace h := h.1 c
    obtain ⟨q1, h⟩ := h
    refine hh_iconst dX11_check_27 (by decide) ?_
    refine hh_aload_n dX11_check_28 rfl ?_
    refine hh_getR dX11_check_29 kf_X11_10 rf_0_0 ?_
    refine hh_getR dX11_check_32 kf_X11_368 rf_1_6 ?_
    refine hh_getI dX11_check_35 kf_X11_372 rf_50_0 rfl ?_
    refine hh_imul dX11_check_38 q1 ?_
    refine hh_istore_n dX11_check_39 (by decide) rfl ?_
    refine hh_iconst dX11_check_40 (by decide) ?_
    refine hh_istore dX11_check_41 (by decide) rfl ?_
    refine hh_iconst dX11_check_43 (by decide) ?_
    refine hh_istore dX11_check_44 (by decide) rfl ?_
    obtain ⟨n, h⟩ := h
    exact hh_forget [true, true, false, true, true, true, false, false] (l_X11_check_46 n _ _ _ _ _ h)
  · replace h := h.2 c
    refine hh_iload_n dX11_check_25 rfl ?_
    exact hh_ireturn dX11_check_26 rfl h
theorem wp_X11_check {d : Nat} {σ : hh_S} {Q : Int → hh_S → Prop} (h : hh_cs σ → P_X11_check d σ Q) : hh_Sp (d + 1) hm_X11_check [hh_R 0] σ Q :=
  hh_entry rfl (Nat.le_of_ble_eq_true rfl) rfl (fun hs hc => w_X11_check (h hs))
def P_X11_keep (d : Nat) (σ : hh_S) (Q : Int → hh_S → Prop) : Prop :=
  hh_Sp d hm_X4_become [hh_R 55, hh_R 1] σ (fun _ σ8 => Q (σ8 1 8) (hh_up σ8 0 2 1))
set_option maxRecDepth 20000 in
theorem w_X11_keep {d : Nat} {σ : hh_S} {Q : Int → hh_S → Prop} (h : P_X11_keep d σ Q) : hh_J (d + 1) hm_X11_keep 0 [some (hh_R 0)] [] σ Q := by
  unfold P_X11_keep at h
  refine hh_aload_n dX11_keep_0 rfl ?_
  refine hh_getR dX11_keep_1 kf_X11_16 rf_0_1 ?_
  refine hh_aload_n dX11_keep_4 rfl ?_
  refine hh_getR dX11_keep_5 kf_X11_10 rf_0_0 ?_
  refine hh_cV1 dX11_keep_8 lk_X11_392 mo_X4_become rc_55 (Nat.le_of_ble_eq_true rfl) h (fun _ σ8 h => ?_)
  refine hh_aload_n dX11_keep_11 rfl ?_
  refine hh_iconst dX11_keep_12 (by decide) ?_
  refine hh_putZ dX11_keep_13 kp_X11_19 rf_0_2 (by decide) ?_
  refine hh_aload_n dX11_keep_16 rfl ?_
  refine hh_getR dX11_keep_17 kf_X11_10 rf_0_0 ?_
  refine hh_getI dX11_keep_20 kf_X11_154 rf_1_8 rfl ?_
  exact hh_ireturn dX11_keep_23 rfl h
theorem wp_X11_keep {d : Nat} {σ : hh_S} {Q : Int → hh_S → Prop} (h : hh_cs σ → P_X11_keep d σ Q) : hh_Sp (d + 1) hm_X11_keep [hh_R 0] σ Q :=
  hh_entry rfl (Nat.le_of_ble_eq_true rfl) rfl (fun hs hc => w_X11_keep (h hs))
def P_X11_back (d : Nat) (σ : hh_S) (Q : Int → hh_S → Prop) : Prop :=
  (¬ σ 0 2 = 0 → hh_Sp d hm_X4_become [hh_R 1, hh_R 55] σ (fun _ σ18 => Q (σ18 1 8) σ18)) ∧ (σ 0 2 = 0 → Q (-1000000002) σ)
set_option maxRecDepth 20000 in
theorem w_X11_back {d : Nat} {σ : hh_S} {Q : Int → hh_S → Prop} (h : P_X11_back d σ Q) : hh_J (d + 1) hm_X11_back 0 [some (hh_R 0)] [] σ Q := by
  unfold P_X11_back at h
  refine hh_aload_n dX11_back_0 rfl ?_
  refine hh_getI dX11_back_1 kf_X11_19 rf_0_2 rfl ?_
  refine hh_if_ne (tgt := 10) dX11_back_4 (by decide) (fun c => ?_) (fun c => ?_)
  · replace h := h.1 c
    refine hh_aload_n dX11_back_10 rfl ?_
    refine hh_getR dX11_back_11 kf_X11_10 rf_0_0 ?_
    refine hh_aload_n dX11_back_14 rfl ?_
    refine hh_getR dX11_back_15 kf_X11_16 rf_0_1 ?_
    refine hh_cV1 dX11_back_18 lk_X11_392 mo_X4_become rc_1 (Nat.le_of_ble_eq_true rfl) h (fun _ σ18 h => ?_)
    refine hh_aload_n dX11_back_21 rfl ?_
    refine hh_getR dX11_back_22 kf_X11_10 rf_0_0 ?_
    refine hh_getI dX11_back_25 kf_X11_154 rf_1_8 rfl ?_
    exact hh_ireturn dX11_back_28 rfl h
  · replace h := h.2 c
    refine hh_ldc (n := -1000000002) dX11_back_7 kc_X11_143 (by decide) ?_
    exact hh_ireturn dX11_back_9 rfl h
theorem wp_X11_back {d : Nat} {σ : hh_S} {Q : Int → hh_S → Prop} (h : hh_cs σ → P_X11_back d σ Q) : hh_Sp (d + 1) hm_X11_back [hh_R 0] σ Q :=
  hh_entry rfl (Nat.le_of_ble_eq_true rfl) rfl (fun hs hc => w_X11_back (h hs))
def B_X11_sheet_52 (d : Nat) (Q : Int → hh_S → Prop) (x1 x2 : Int) (σ : hh_S) : Prop :=
  ((0 ≤ x1 ∧ x1 < 2)) ∧ (Q x2 (hh_up σ 124 x1 x2))
def B_X11_sheet_28 (d : Nat) (Q : Int → hh_S → Prop) (k28 : Int → Int → Int → hh_S → Prop) (x1 x2 x3 : Int) (σ : hh_S) : Prop :=
  (20 ≤ x3 → B_X11_sheet_52 d Q x1 x2 σ) ∧ (¬ 20 ≤ x3 → ((-2147483648 ≤ x1 * 20 ∧ x1 * 20 ≤ 2147483647) ∧ (-2147483648 ≤ x1 * 20 + x3 ∧ x1 * 20 + x3 ≤ 2147483647) ∧ (0 ≤ x1 * 20 + x3 ∧ x1 * 20 + x3 < 40) ∧ (-2147483648 ≤ x3 + 1 ∧ x3 + 1 ≤ 2147483647)) ∧ (k28 x1 x2 (x3 + 1) (hh_up σ 123 (x1 * 20 + x3) (hh_i2s 0))))
def P_X11_sheet (d : Nat) (a1 a2 : Int) (σ : hh_S) (Q : Int → hh_S → Prop) : Prop :=
  hh_Sp d hm_X11_within [hh_I a1, hh_I 0, hh_I 1] σ (fun r3 σ3 => (r3 = 0 → Q (-1000000001) σ3) ∧ (¬ r3 = 0 → (a2 ≤ 20 → (0 ≤ a2 → ∃ n, hh_lp3 (B_X11_sheet_28 d Q) n a1 a2 0 σ3) ∧ (¬ 0 ≤ a2 → Q (-1000000014) σ3)) ∧ (¬ a2 ≤ 20 → Q (-1000000001) σ3)))
set_option maxRecDepth 20000 in
theorem w_X11_sheet_52 {d : Nat} {Q : Int → hh_S → Prop} (x1 x2 : Int) (σ : hh_S) (h : B_X11_sheet_52 d Q x1 x2 σ) : hh_J (d + 1) hm_X11_sheet 52 [some (hh_R 0), some (hh_I x1), some (hh_I x2), none] [] σ Q := by
  unfold B_X11_sheet_52 at h
  obtain ⟨q1, h⟩ := h
  refine hh_aload_n dX11_sheet_52 rfl ?_
  refine hh_getR dX11_sheet_53 kf_X11_58 rf_0_9 ?_
  refine hh_iload_n dX11_sheet_56 rfl ?_
  refine hh_iload_n dX11_sheet_57 rfl ?_
  refine hh_iast dX11_sheet_58 ra_124 q1 ?_
  refine hh_iload_n dX11_sheet_59 rfl ?_
  exact hh_ireturn dX11_sheet_60 rfl h
set_option maxRecDepth 20000 in
theorem w_X11_sheet_28 {d : Nat} {Q : Int → hh_S → Prop} {k28 : Int → Int → Int → hh_S → Prop} (hk28 : ∀ (x1 x2 x3 : Int) (σ : hh_S), k28 x1 x2 x3 σ → hh_J (d + 1) hm_X11_sheet 28 [some (hh_R 0), some (hh_I x1), some (hh_I x2), some (hh_I x3)] [] σ Q) (x1 x2 x3 : Int) (σ : hh_S) (h : B_X11_sheet_28 d Q k28 x1 x2 x3 σ) : hh_J (d + 1) hm_X11_sheet 28 [some (hh_R 0), some (hh_I x1), some (hh_I x2), some (hh_I x3)] [] σ Q := by
  unfold B_X11_sheet_28 at h
  refine hh_iload_n dX11_sheet_28 rfl ?_
  refine hh_bipush dX11_sheet_29 (by decide) ?_
  refine hh_icmp_ge (tgt := 52) dX11_sheet_31 (by decide) (fun c => ?_) (fun c => ?_)
  · replace h := h.1 c
    exact hh_forget [true, true, true, false] (w_X11_sheet_52 _ _ _ h)
  · replace h := h.2 c
    obtain ⟨⟨q1, q2, q3, q4⟩, h⟩ := h
    refine hh_aload_n dX11_sheet_34 rfl ?_
    refine hh_getR dX11_sheet_35 kf_X11_54 rf_0_8 ?_
    refine hh_iload_n dX11_sheet_38 rfl ?_
    refine hh_bipush dX11_sheet_39 (by decide) ?_
    refine hh_imul dX11_sheet_41 q1 ?_
    refine hh_iload_n dX11_sheet_42 rfl ?_
    refine hh_iadd dX11_sheet_43 q2 ?_
    refine hh_iconst dX11_sheet_44 (by decide) ?_
    refine hh_sast dX11_sheet_45 ra_123 q3 ?_
    refine hh_iinc dX11_sheet_46 (by decide) rfl rfl q4 ?_
    refine hh_goto (tgt := 28) dX11_sheet_49 (by decide) ?_
    exact hh_forget [true, true, true, true] (hk28 _ _ _ _ h)
theorem l_X11_sheet_28 {d : Nat} {Q : Int → hh_S → Prop} : ∀ (n : Nat) (x1 x2 x3 : Int) (σ : hh_S), hh_lp3 (B_X11_sheet_28 d Q) n x1 x2 x3 σ → hh_J (d + 1) hm_X11_sheet 28 [some (hh_R 0), some (hh_I x1), some (hh_I x2), some (hh_I x3)] [] σ Q := by
  intro n
  induction n with
  | zero => intro _ _ _ _ h; exact h.elim
  | succ n ih => intro x1 x2 x3 σ h; exact w_X11_sheet_28 ih x1 x2 x3 σ h
set_option maxRecDepth 20000 in
theorem w_X11_sheet {d : Nat} {a1 a2 : Int} {σ : hh_S} {Q : Int → hh_S → Prop} (h : P_X11_sheet d a1 a2 σ Q) : hh_J (d + 1) hm_X11_sheet 0 [some (hh_R 0), some (hh_I a1), some (hh_I a2), none] [] σ Q := by
  unfold P_X11_sheet at h
  refine hh_iload_n dX11_sheet_0 rfl ?_
  refine hh_iconst dX11_sheet_1 (by decide) ?_
  refine hh_iconst dX11_sheet_2 (by decide) ?_
  refine hh_cS3 dX11_sheet_3 lk_X11_70 mo_X11_within (Nat.le_of_ble_eq_true rfl) h (fun r3 σ3 h => ?_)
  refine hh_if_eq (tgt := 15) dX11_sheet_6 (by decide) (fun c => ?_) (fun c => ?_)
  · replace h := h.1 c
    refine hh_ldc (n := -1000000001) dX11_sheet_15 kc_X11_74 (by decide) ?_
    exact hh_ireturn dX11_sheet_17 rfl h
  · replace h := h.2 c
    refine hh_iload_n dX11_sheet_9 rfl ?_
    refine hh_bipush dX11_sheet_10 (by decide) ?_
    refine hh_icmp_le (tgt := 18) dX11_sheet_12 (by decide) (fun c => ?_) (fun c => ?_)
    · replace h := h.1 c
      refine hh_iload_n dX11_sheet_18 rfl ?_
      refine hh_if_ge (tgt := 26) dX11_sheet_19 (by decide) (fun c => ?_) (fun c => ?_)
      · replace h := h.1 c
        refine hh_iconst dX11_sheet_26 (by decide) ?_
        refine hh_istore_n dX11_sheet_27 (by decide) rfl ?_
        obtain ⟨n, h⟩ := h
        exact hh_forget [true, true, true, true] (l_X11_sheet_28 n _ _ _ _ h)
      · replace h := h.2 c
        refine hh_ldc_w (n := -1000000014) dX11_sheet_22 kc_X11_395 (by decide) ?_
        exact hh_ireturn dX11_sheet_25 rfl h
    · replace h := h.2 c
      refine hh_ldc (n := -1000000001) dX11_sheet_15 kc_X11_74 (by decide) ?_
      exact hh_ireturn dX11_sheet_17 rfl h
theorem wp_X11_sheet {d : Nat} (a1 a2 : Int) {σ : hh_S} {Q : Int → hh_S → Prop} (h : hh_cs σ → hh_can a1 → hh_can a2 → P_X11_sheet d a1 a2 σ Q) : hh_Sp (d + 1) hm_X11_sheet [hh_R 0, hh_I a1, hh_I a2] σ Q :=
  hh_entry rfl (Nat.le_of_ble_eq_true rfl) rfl (fun hs hc => w_X11_sheet (h hs (hc _ (List.mem_of_getElem? (i := 1) rfl)) (hc _ (List.mem_of_getElem? (i := 2) rfl))))
def P_X11_mark (d : Nat) (a1 a2 a3 : Int) (σ : hh_S) (Q : Int → hh_S → Prop) : Prop :=
  hh_Sp d hm_X11_within [hh_I a1, hh_I 0, hh_I 1] σ (fun r3 σ3 => (¬ r3 = 0 → ((0 ≤ a1 ∧ a1 < 2)) ∧ ((¬ σ3 124 a1 = (-1) → ((0 ≤ a1 ∧ a1 < 2) ∧ (-2147483648 ≤ σ3 124 a1 - 1 ∧ σ3 124 a1 - 1 ≤ 2147483647)) ∧ (hh_Sp d hm_X11_within [hh_I a2, hh_I 0, hh_I (σ3 124 a1 - 1)] σ3 (fun r36 σ36 => (¬ r36 = 0 → ((-2147483648 ≤ a1 * 20 ∧ a1 * 20 ≤ 2147483647) ∧ (-2147483648 ≤ a1 * 20 + a2 ∧ a1 * 20 + a2 ≤ 2147483647) ∧ (0 ≤ a1 * 20 + a2 ∧ a1 * 20 + a2 < 40)) ∧ (Q (σ36 123 (a1 * 20 + a2)) (hh_up σ36 123 (a1 * 20 + a2) (hh_i2s (hh_i2s a3))))) ∧ (r36 = 0 → Q (-1000000013) σ36)))) ∧ (σ3 124 a1 = (-1) → Q (-1000000011) σ3))) ∧ (r3 = 0 → Q (-1000000001) σ3))
set_option maxRecDepth 20000 in
theorem w_X11_mark {d : Nat} {a1 a2 a3 : Int} {σ : hh_S} {Q : Int → hh_S → Prop} (h : P_X11_mark d a1 a2 a3 σ Q) : hh_J (d + 1) hm_X11_mark 0 [some (hh_R 0), some (hh_I a1), some (hh_I a2), some (hh_I a3), none] [] σ Q := by
  unfold P_X11_mark at h
  refine hh_iload_n dX11_mark_0 rfl ?_
  refine hh_iconst dX11_mark_1 (by decide) ?_
  refine hh_iconst dX11_mark_2 (by decide) ?_
  refine hh_cS3 dX11_mark_3 lk_X11_70 mo_X11_within (Nat.le_of_ble_eq_true rfl) h (fun r3 σ3 h => ?_)
  refine hh_if_ne (tgt := 12) dX11_mark_6 (by decide) (fun c => ?_) (fun c => ?_)
  · replace h := h.1 c
    obtain ⟨q1, h⟩ := h
    refine hh_aload_n dX11_mark_12 rfl ?_
    refine hh_getR dX11_mark_13 kf_X11_58 rf_0_9 ?_
    refine hh_iload_n dX11_mark_16 rfl ?_
    refine hh_iald dX11_mark_17 ra_124 q1 rfl ?_
    refine hh_iconst dX11_mark_18 (by decide) ?_
    refine hh_icmp_ne (tgt := 26) dX11_mark_19 (by decide) (fun c => ?_) (fun c => ?_)
    · replace h := h.1 c
      obtain ⟨⟨q1, q2⟩, h⟩ := h
      refine hh_iload_n dX11_mark_26 rfl ?_
      refine hh_iconst dX11_mark_27 (by decide) ?_
      refine hh_aload_n dX11_mark_28 rfl ?_
      refine hh_getR dX11_mark_29 kf_X11_58 rf_0_9 ?_
      refine hh_iload_n dX11_mark_32 rfl ?_
      refine hh_iald dX11_mark_33 ra_124 q1 rfl ?_
      refine hh_iconst dX11_mark_34 (by decide) ?_
      refine hh_isub dX11_mark_35 q2 ?_
      refine hh_cS3 dX11_mark_36 lk_X11_70 mo_X11_within (Nat.le_of_ble_eq_true rfl) h (fun r36 σ36 h => ?_)
      refine hh_if_ne (tgt := 46) dX11_mark_39 (by decide) (fun c => ?_) (fun c => ?_)
      · replace h := h.1 c
        obtain ⟨⟨q1, q2, q3⟩, h⟩ := h
        refine hh_aload_n dX11_mark_46 rfl ?_
        refine hh_getR dX11_mark_47 kf_X11_54 rf_0_8 ?_
        refine hh_iload_n dX11_mark_50 rfl ?_
        refine hh_bipush dX11_mark_51 (by decide) ?_
        refine hh_imul dX11_mark_53 q1 ?_
        refine hh_iload_n dX11_mark_54 rfl ?_
        refine hh_iadd dX11_mark_55 q2 ?_
        refine hh_sald dX11_mark_56 ra_123 q3 rfl ?_
        refine hh_istore dX11_mark_57 (by decide) rfl ?_
        refine hh_aload_n dX11_mark_59 rfl ?_
        refine hh_getR dX11_mark_60 kf_X11_54 rf_0_8 ?_
        refine hh_iload_n dX11_mark_63 rfl ?_
        refine hh_bipush dX11_mark_64 (by decide) ?_
        refine hh_imul dX11_mark_66 q1 ?_
        refine hh_iload_n dX11_mark_67 rfl ?_
        refine hh_iadd dX11_mark_68 q2 ?_
        refine hh_iload_n dX11_mark_69 rfl ?_
        refine hh_oi2s dX11_mark_70 ?_
        refine hh_sast dX11_mark_71 ra_123 q3 ?_
        refine hh_iload dX11_mark_72 rfl ?_
        exact hh_ireturn dX11_mark_74 rfl h
      · replace h := h.2 c
        refine hh_ldc_w (n := -1000000013) dX11_mark_42 kc_X11_396 (by decide) ?_
        exact hh_ireturn dX11_mark_45 rfl h
    · replace h := h.2 c
      refine hh_ldc_w (n := -1000000011) dX11_mark_22 kc_X11_382 (by decide) ?_
      exact hh_ireturn dX11_mark_25 rfl h
  · replace h := h.2 c
    refine hh_ldc (n := -1000000001) dX11_mark_9 kc_X11_74 (by decide) ?_
    exact hh_ireturn dX11_mark_11 rfl h
theorem wp_X11_mark {d : Nat} (a1 a2 a3 : Int) {σ : hh_S} {Q : Int → hh_S → Prop} (h : hh_cs σ → hh_can a1 → hh_can a2 → hh_can a3 → P_X11_mark d a1 a2 a3 σ Q) : hh_Sp (d + 1) hm_X11_mark [hh_R 0, hh_I a1, hh_I a2, hh_I a3] σ Q :=
  hh_entry rfl (Nat.le_of_ble_eq_true rfl) rfl (fun hs hc => w_X11_mark (h hs (hc _ (List.mem_of_getElem? (i := 1) rfl)) (hc _ (List.mem_of_getElem? (i := 2) rfl)) (hc _ (List.mem_of_getElem? (i := 3) rfl))))
def P_X11_hasPlaces (d : Nat) (a1 a2 a3 : Int) (σ : hh_S) (Q : Int → hh_S → Prop) : Prop :=
  (a3 < 0 → Q 0 σ) ∧ (¬ a3 < 0 → (a2 < 0 → Q 0 σ) ∧ (¬ a2 < 0 → ((0 ≤ a1 ∧ a1 < 2)) ∧ ((σ 124 a1 < a2 → Q 0 σ) ∧ (¬ σ 124 a1 < a2 → ((0 ≤ a1 ∧ a1 < 2) ∧ (-2147483648 ≤ σ 124 a1 - a2 ∧ σ 124 a1 - a2 ≤ 2147483647)) ∧ ((σ 124 a1 - a2 < a3 → Q 0 σ) ∧ (¬ σ 124 a1 - a2 < a3 → Q 1 σ))))))
set_option maxRecDepth 20000 in
theorem w_X11_hasPlaces {d : Nat} {a1 a2 a3 : Int} {σ : hh_S} {Q : Int → hh_S → Prop} (h : P_X11_hasPlaces d a1 a2 a3 σ Q) : hh_J (d + 1) hm_X11_hasPlaces 0 [some (hh_R 0), some (hh_I a1), some (hh_I a2), some (hh_I a3)] [] σ Q := by
  unfold P_X11_hasPlaces at h
  refine hh_iload_n dX11_hasPlaces_0 rfl ?_
  refine hh_if_lt (tgt := 34) dX11_hasPlaces_1 (by decide) (fun c => ?_) (fun c => ?_)
  · replace h := h.1 c
    refine hh_iconst dX11_hasPlaces_34 (by decide) ?_
    exact hh_zreturn dX11_hasPlaces_35 rfl (by decide) h
  · replace h := h.2 c
    refine hh_iload_n dX11_hasPlaces_4 rfl ?_
    refine hh_if_lt (tgt := 34) dX11_hasPlaces_5 (by decide) (fun c => ?_) (fun c => ?_)
    · replace h := h.1 c
      refine hh_iconst dX11_hasPlaces_34 (by decide) ?_
      exact hh_zreturn dX11_hasPlaces_35 rfl (by decide) h
    · replace h := h.2 c
      obtain ⟨q1, h⟩ := h
      refine hh_iload_n dX11_hasPlaces_8 rfl ?_
      refine hh_aload_n dX11_hasPlaces_9 rfl ?_
      refine hh_getR dX11_hasPlaces_10 kf_X11_58 rf_0_9 ?_
      refine hh_iload_n dX11_hasPlaces_13 rfl ?_
      refine hh_iald dX11_hasPlaces_14 ra_124 q1 rfl ?_
      refine hh_icmp_gt (tgt := 34) dX11_hasPlaces_15 (by decide) (fun c => ?_) (fun c => ?_)
      · replace h := h.1 c
        refine hh_iconst dX11_hasPlaces_34 (by decide) ?_
        exact hh_zreturn dX11_hasPlaces_35 rfl (by decide) h
      · replace h := h.2 c
        obtain ⟨⟨q1, q2⟩, h⟩ := h
        refine hh_iload_n dX11_hasPlaces_18 rfl ?_
        refine hh_aload_n dX11_hasPlaces_19 rfl ?_
        refine hh_getR dX11_hasPlaces_20 kf_X11_58 rf_0_9 ?_
        refine hh_iload_n dX11_hasPlaces_23 rfl ?_
        refine hh_iald dX11_hasPlaces_24 ra_124 q1 rfl ?_
        refine hh_iload_n dX11_hasPlaces_25 rfl ?_
        refine hh_isub dX11_hasPlaces_26 q2 ?_
        refine hh_icmp_gt (tgt := 34) dX11_hasPlaces_27 (by decide) (fun c => ?_) (fun c => ?_)
        · replace h := h.1 c
          refine hh_iconst dX11_hasPlaces_34 (by decide) ?_
          exact hh_zreturn dX11_hasPlaces_35 rfl (by decide) h
        · replace h := h.2 c
          refine hh_iconst dX11_hasPlaces_30 (by decide) ?_
          refine hh_goto (tgt := 35) dX11_hasPlaces_31 (by decide) ?_
          exact hh_zreturn dX11_hasPlaces_35 rfl (by decide) h
theorem wp_X11_hasPlaces {d : Nat} (a1 a2 a3 : Int) {σ : hh_S} {Q : Int → hh_S → Prop} (h : hh_cs σ → hh_can a1 → hh_can a2 → hh_can a3 → P_X11_hasPlaces d a1 a2 a3 σ Q) : hh_Sp (d + 1) hm_X11_hasPlaces [hh_R 0, hh_I a1, hh_I a2, hh_I a3] σ Q :=
  hh_entry rfl (Nat.le_of_ble_eq_true rfl) rfl (fun hs hc => w_X11_hasPlaces (h hs (hc _ (List.mem_of_getElem? (i := 1) rfl)) (hc _ (List.mem_of_getElem? (i := 2) rfl)) (hc _ (List.mem_of_getElem? (i := 3) rfl))))
def P_X11_copy (d : Nat) (a1 a2 a3 a4 a5 : Int) (σ : hh_S) (Q : Int → hh_S → Prop) : Prop :=
  hh_Sp d hm_X11_within [hh_I a1, hh_I 0, hh_I 1] σ (fun r3 σ3 => (r3 = 0 → Q (-1000000001) σ3) ∧ (¬ r3 = 0 → hh_Sp d hm_X11_within [hh_I a3, hh_I 0, hh_I 1] σ3 (fun r12 σ12 => (¬ r12 = 0 → ((0 ≤ a1 ∧ a1 < 2)) ∧ ((σ12 124 a1 = (-1) → Q (-1000000011) σ12) ∧ (¬ σ12 124 a1 = (-1) → ((0 ≤ a3 ∧ a3 < 2)) ∧ ((¬ σ12 124 a3 = (-1) → hh_Sp d hm_X11_hasPlaces [hh_R 0, hh_I a1, hh_I a2, hh_I a5] σ12 (fun r50 σ50 => (r50 = 0 → Q (-1000000013) σ50) ∧ (¬ r50 = 0 → hh_Sp d hm_X11_hasPlaces [hh_R 0, hh_I a3, hh_I a4, hh_I a5] σ50 (fun r62 σ62 => (¬ r62 = 0 → ((-2147483648 ≤ a1 * 20 ∧ a1 * 20 ≤ 2147483647) ∧ (-2147483648 ≤ a1 * 20 + a2 ∧ a1 * 20 + a2 ≤ 2147483647) ∧ (-2147483648 ≤ a3 * 20 ∧ a3 * 20 ≤ 2147483647) ∧ (-2147483648 ≤ a3 * 20 + a4 ∧ a3 * 20 + a4 ≤ 2147483647) ∧ (0 ≤ (a1 * 20 + a2 : Int) ∧ 0 ≤ (a3 * 20 + a4 : Int) ∧ 0 ≤ (a5 : Int) ∧ (a1 * 20 + a2 : Int) + a5 ≤ 40 ∧ (a3 * 20 + a4 : Int) + a5 ≤ 40) ∧ (∀ j : Int, 0 ≤ j → j < a5 → -32768 ≤ σ62 123 (a1 * 20 + a2 + j) ∧ σ62 123 (a1 * 20 + a2 + j) ≤ 32767)) ∧ (Q a5 (hh_cpy σ62 123 (a1 * 20 + a2) 123 (a3 * 20 + a4) a5))) ∧ (r62 = 0 → Q (-1000000013) σ62))))) ∧ (σ12 124 a3 = (-1) → Q (-1000000011) σ12))))) ∧ (r12 = 0 → Q (-1000000001) σ12))))
set_option maxRecDepth 20000 in
theorem w_X11_copy {d : Nat} {a1 a2 a3 a4 a5 : Int} {σ : hh_S} {Q : Int → hh_S → Prop} (h : P_X11_copy d a1 a2 a3 a4 a5 σ Q) : hh_J (d + 1) hm_X11_copy 0 [some (hh_R 0), some (hh_I a1), some (hh_I a2), some (hh_I a3), some (hh_I a4), some (hh_I a5)] [] σ Q := by
  unfold P_X11_copy at h
  refine hh_iload_n dX11_copy_0 rfl ?_
  refine hh_iconst dX11_copy_1 (by decide) ?_
  refine hh_iconst dX11_copy_2 (by decide) ?_
  refine hh_cS3 dX11_copy_3 lk_X11_70 mo_X11_within (Nat.le_of_ble_eq_true rfl) h (fun r3 σ3 h => ?_)
  refine hh_if_eq (tgt := 18) dX11_copy_6 (by decide) (fun c => ?_) (fun c => ?_)
  · replace h := h.1 c
    refine hh_ldc (n := -1000000001) dX11_copy_18 kc_X11_74 (by decide) ?_
    exact hh_ireturn dX11_copy_20 rfl h
  · replace h := h.2 c
    refine hh_iload_n dX11_copy_9 rfl ?_
    refine hh_iconst dX11_copy_10 (by decide) ?_
    refine hh_iconst dX11_copy_11 (by decide) ?_
    refine hh_cS3 dX11_copy_12 lk_X11_70 mo_X11_within (Nat.le_of_ble_eq_true rfl) h (fun r12 σ12 h => ?_)
    refine hh_if_ne (tgt := 21) dX11_copy_15 (by decide) (fun c => ?_) (fun c => ?_)
    · replace h := h.1 c
      obtain ⟨q1, h⟩ := h
      refine hh_aload_n dX11_copy_21 rfl ?_
      refine hh_getR dX11_copy_22 kf_X11_58 rf_0_9 ?_
      refine hh_iload_n dX11_copy_25 rfl ?_
      refine hh_iald dX11_copy_26 ra_124 q1 rfl ?_
      refine hh_iconst dX11_copy_27 (by decide) ?_
      refine hh_icmp_eq (tgt := 41) dX11_copy_28 (by decide) (fun c => ?_) (fun c => ?_)
      · replace h := h.1 c
        refine hh_ldc_w (n := -1000000011) dX11_copy_41 kc_X11_382 (by decide) ?_
        exact hh_ireturn dX11_copy_44 rfl h
      · replace h := h.2 c
        obtain ⟨q1, h⟩ := h
        refine hh_aload_n dX11_copy_31 rfl ?_
        refine hh_getR dX11_copy_32 kf_X11_58 rf_0_9 ?_
        refine hh_iload_n dX11_copy_35 rfl ?_
        refine hh_iald dX11_copy_36 ra_124 q1 rfl ?_
        refine hh_iconst dX11_copy_37 (by decide) ?_
        refine hh_icmp_ne (tgt := 45) dX11_copy_38 (by decide) (fun c => ?_) (fun c => ?_)
        · replace h := h.1 c
          refine hh_aload_n dX11_copy_45 rfl ?_
          refine hh_iload_n dX11_copy_46 rfl ?_
          refine hh_iload_n dX11_copy_47 rfl ?_
          refine hh_iload dX11_copy_48 rfl ?_
          refine hh_cV3 dX11_copy_50 lk_X11_397 mo_X11_hasPlaces rc_0 (Nat.le_of_ble_eq_true rfl) h (fun r50 σ50 h => ?_)
          refine hh_if_eq (tgt := 68) dX11_copy_53 (by decide) (fun c => ?_) (fun c => ?_)
          · replace h := h.1 c
            refine hh_ldc_w (n := -1000000013) dX11_copy_68 kc_X11_396 (by decide) ?_
            exact hh_ireturn dX11_copy_71 rfl h
          · replace h := h.2 c
            refine hh_aload_n dX11_copy_56 rfl ?_
            refine hh_iload_n dX11_copy_57 rfl ?_
            refine hh_iload dX11_copy_58 rfl ?_
            refine hh_iload dX11_copy_60 rfl ?_
            refine hh_cV3 dX11_copy_62 lk_X11_397 mo_X11_hasPlaces rc_0 (Nat.le_of_ble_eq_true rfl) h (fun r62 σ62 h => ?_)
            refine hh_if_ne (tgt := 72) dX11_copy_65 (by decide) (fun c => ?_) (fun c => ?_)
            · replace h := h.1 c
              obtain ⟨⟨q1, q2, q3, q4, q5, q6⟩, h⟩ := h
              refine hh_aload_n dX11_copy_72 rfl ?_
              refine hh_getR dX11_copy_73 kf_X11_54 rf_0_8 ?_
              refine hh_iload_n dX11_copy_76 rfl ?_
              refine hh_bipush dX11_copy_77 (by decide) ?_
              refine hh_imul dX11_copy_79 q1 ?_
              refine hh_iload_n dX11_copy_80 rfl ?_
              refine hh_iadd dX11_copy_81 q2 ?_
              refine hh_aload_n dX11_copy_82 rfl ?_
              refine hh_getR dX11_copy_83 kf_X11_54 rf_0_8 ?_
              refine hh_iload_n dX11_copy_86 rfl ?_
              refine hh_bipush dX11_copy_87 (by decide) ?_
              refine hh_imul dX11_copy_89 q3 ?_
              refine hh_iload dX11_copy_90 rfl ?_
              refine hh_iadd dX11_copy_92 q4 ?_
              refine hh_iload dX11_copy_93 rfl ?_
              refine hh_copy dX11_copy_95 kcp_X11_290 (by decide) ra_123 ra_123 q5 (fun j a b => hh_fitS (q6 j a b)) (Nat.le_of_ble_eq_true rfl) ?_
              refine hh_iload dX11_copy_98 rfl ?_
              exact hh_ireturn dX11_copy_100 rfl h
            · replace h := h.2 c
              refine hh_ldc_w (n := -1000000013) dX11_copy_68 kc_X11_396 (by decide) ?_
              exact hh_ireturn dX11_copy_71 rfl h
        · replace h := h.2 c
          refine hh_ldc_w (n := -1000000011) dX11_copy_41 kc_X11_382 (by decide) ?_
          exact hh_ireturn dX11_copy_44 rfl h
    · replace h := h.2 c
      refine hh_ldc (n := -1000000001) dX11_copy_18 kc_X11_74 (by decide) ?_
      exact hh_ireturn dX11_copy_20 rfl h
theorem wp_X11_copy {d : Nat} (a1 a2 a3 a4 a5 : Int) {σ : hh_S} {Q : Int → hh_S → Prop} (h : hh_cs σ → hh_can a1 → hh_can a2 → hh_can a3 → hh_can a4 → hh_can a5 → P_X11_copy d a1 a2 a3 a4 a5 σ Q) : hh_Sp (d + 1) hm_X11_copy [hh_R 0, hh_I a1, hh_I a2, hh_I a3, hh_I a4, hh_I a5] σ Q :=
  hh_entry rfl (Nat.le_of_ble_eq_true rfl) rfl (fun hs hc => w_X11_copy (h hs (hc _ (List.mem_of_getElem? (i := 1) rfl)) (hc _ (List.mem_of_getElem? (i := 2) rfl)) (hc _ (List.mem_of_getElem? (i := 3) rfl)) (hc _ (List.mem_of_getElem? (i := 4) rfl)) (hc _ (List.mem_of_getElem? (i := 5) rfl))))
def B_X11_sumOf_i0_4 (d : Nat) (Q : Int → hh_S → Prop) (k4 : Int → Int → Int → hh_S → Prop) (x1 x2 x3 : Int) (σ : hh_S) : Prop :=
  (x1 ≤ x3 → Q x2 σ) ∧ (¬ x1 ≤ x3 → (5 ≤ x3 → Q x2 σ) ∧ (¬ 5 ≤ x3 → ((0 ≤ x3 ∧ x3 < 5) ∧ (-2147483648 ≤ x2 + (σ 7 x3) ∧ x2 + (σ 7 x3) ≤ 2147483647) ∧ (-2147483648 ≤ x3 + 1 ∧ x3 + 1 ≤ 2147483647)) ∧ (k4 x1 (x2 + (σ 7 x3)) (x3 + 1) σ)))
def P_X11_sumOf_i0 (d : Nat) (a1 : Int) (σ : hh_S) (Q : Int → hh_S → Prop) : Prop :=
  ∃ n, hh_lp3 (B_X11_sumOf_i0_4 d Q) n a1 0 0 σ
set_option maxRecDepth 20000 in
theorem w_X11_sumOf_i0_4 {d : Nat} {Q : Int → hh_S → Prop} {k4 : Int → Int → Int → hh_S → Prop} (hk4 : ∀ (x1 x2 x3 : Int) (σ : hh_S), k4 x1 x2 x3 σ → hh_J (d + 1) hm_X11_sumOf 4 [some (hh_R 7), some (hh_I x1), some (hh_I x2), some (hh_I x3)] [] σ Q) (x1 x2 x3 : Int) (σ : hh_S) (h : B_X11_sumOf_i0_4 d Q k4 x1 x2 x3 σ) : hh_J (d + 1) hm_X11_sumOf 4 [some (hh_R 7), some (hh_I x1), some (hh_I x2), some (hh_I x3)] [] σ Q := by
  unfold B_X11_sumOf_i0_4 at h
  refine hh_iload_n dX11_sumOf_4 rfl ?_
  refine hh_iload_n dX11_sumOf_5 rfl ?_
  refine hh_icmp_ge (tgt := 27) dX11_sumOf_6 (by decide) (fun c => ?_) (fun c => ?_)
  · replace h := h.1 c
    refine hh_iload_n dX11_sumOf_27 rfl ?_
    exact hh_ireturn dX11_sumOf_28 rfl h
  · replace h := h.2 c
    refine hh_iload_n dX11_sumOf_9 rfl ?_
    refine hh_aload_n dX11_sumOf_10 rfl ?_
    refine hh_alen dX11_sumOf_11 ra_7 (by decide) ?_
    refine hh_icmp_ge (tgt := 27) dX11_sumOf_12 (by decide) (fun c => ?_) (fun c => ?_)
    · replace h := h.1 c
      refine hh_iload_n dX11_sumOf_27 rfl ?_
      exact hh_ireturn dX11_sumOf_28 rfl h
    · replace h := h.2 c
      obtain ⟨⟨q1, q2, q3⟩, h⟩ := h
      refine hh_iload_n dX11_sumOf_15 rfl ?_
      refine hh_aload_n dX11_sumOf_16 rfl ?_
      refine hh_iload_n dX11_sumOf_17 rfl ?_
      refine hh_iald dX11_sumOf_18 ra_7 q1 rfl ?_
      refine hh_iadd dX11_sumOf_19 q2 ?_
      refine hh_istore_n dX11_sumOf_20 (by decide) rfl ?_
      refine hh_iinc dX11_sumOf_21 (by decide) rfl rfl q3 ?_
      refine hh_goto (tgt := 4) dX11_sumOf_24 (by decide) ?_
      exact hh_forget [true, true, true, true] (hk4 _ _ _ _ h)
theorem l_X11_sumOf_i0_4 {d : Nat} {Q : Int → hh_S → Prop} : ∀ (n : Nat) (x1 x2 x3 : Int) (σ : hh_S), hh_lp3 (B_X11_sumOf_i0_4 d Q) n x1 x2 x3 σ → hh_J (d + 1) hm_X11_sumOf 4 [some (hh_R 7), some (hh_I x1), some (hh_I x2), some (hh_I x3)] [] σ Q := by
  intro n
  induction n with
  | zero => intro _ _ _ _ h; exact h.elim
  | succ n ih => intro x1 x2 x3 σ h; exact w_X11_sumOf_i0_4 ih x1 x2 x3 σ h
set_option maxRecDepth 20000 in
theorem w_X11_sumOf_i0 {d : Nat} {a1 : Int} {σ : hh_S} {Q : Int → hh_S → Prop} (h : P_X11_sumOf_i0 d a1 σ Q) : hh_J (d + 1) hm_X11_sumOf 0 [some (hh_R 7), some (hh_I a1), none, none] [] σ Q := by
  unfold P_X11_sumOf_i0 at h
  refine hh_iconst dX11_sumOf_0 (by decide) ?_
  refine hh_istore_n dX11_sumOf_1 (by decide) rfl ?_
  refine hh_iconst dX11_sumOf_2 (by decide) ?_
  refine hh_istore_n dX11_sumOf_3 (by decide) rfl ?_
  obtain ⟨n, h⟩ := h
  exact hh_forget [true, true, true, true] (l_X11_sumOf_i0_4 n _ _ _ _ h)
theorem wp_X11_sumOf_i0 {d : Nat} (a1 : Int) {σ : hh_S} {Q : Int → hh_S → Prop} (h : hh_cs σ → hh_can a1 → P_X11_sumOf_i0 d a1 σ Q) : hh_Sp (d + 1) hm_X11_sumOf [hh_R 7, hh_I a1] σ Q :=
  hh_entry rfl (Nat.le_of_ble_eq_true rfl) rfl (fun hs hc => w_X11_sumOf_i0 (h hs (hc _ (List.mem_of_getElem? (i := 1) rfl))))
def B_X11_sumOf_i1_4 (d : Nat) (Q : Int → hh_S → Prop) (k4 : Int → Int → Int → hh_S → Prop) (x1 x2 x3 : Int) (σ : hh_S) : Prop :=
  (x1 ≤ x3 → Q x2 σ) ∧ (¬ x1 ≤ x3 → (5 ≤ x3 → Q x2 σ) ∧ (¬ 5 ≤ x3 → ((0 ≤ x3 ∧ x3 < 5) ∧ (-2147483648 ≤ x2 + (σ 8 x3) ∧ x2 + (σ 8 x3) ≤ 2147483647) ∧ (-2147483648 ≤ x3 + 1 ∧ x3 + 1 ≤ 2147483647)) ∧ (k4 x1 (x2 + (σ 8 x3)) (x3 + 1) σ)))
def P_X11_sumOf_i1 (d : Nat) (a1 : Int) (σ : hh_S) (Q : Int → hh_S → Prop) : Prop :=
  ∃ n, hh_lp3 (B_X11_sumOf_i1_4 d Q) n a1 0 0 σ
set_option maxRecDepth 20000 in
theorem w_X11_sumOf_i1_4 {d : Nat} {Q : Int → hh_S → Prop} {k4 : Int → Int → Int → hh_S → Prop} (hk4 : ∀ (x1 x2 x3 : Int) (σ : hh_S), k4 x1 x2 x3 σ → hh_J (d + 1) hm_X11_sumOf 4 [some (hh_R 8), some (hh_I x1), some (hh_I x2), some (hh_I x3)] [] σ Q) (x1 x2 x3 : Int) (σ : hh_S) (h : B_X11_sumOf_i1_4 d Q k4 x1 x2 x3 σ) : hh_J (d + 1) hm_X11_sumOf 4 [some (hh_R 8), some (hh_I x1), some (hh_I x2), some (hh_I x3)] [] σ Q := by
  unfold B_X11_sumOf_i1_4 at h
  refine hh_iload_n dX11_sumOf_4 rfl ?_
  refine hh_iload_n dX11_sumOf_5 rfl ?_
  refine hh_icmp_ge (tgt := 27) dX11_sumOf_6 (by decide) (fun c => ?_) (fun c => ?_)
  · replace h := h.1 c
    refine hh_iload_n dX11_sumOf_27 rfl ?_
    exact hh_ireturn dX11_sumOf_28 rfl h
  · replace h := h.2 c
    refine hh_iload_n dX11_sumOf_9 rfl ?_
    refine hh_aload_n dX11_sumOf_10 rfl ?_
    refine hh_alen dX11_sumOf_11 ra_8 (by decide) ?_
    refine hh_icmp_ge (tgt := 27) dX11_sumOf_12 (by decide) (fun c => ?_) (fun c => ?_)
    · replace h := h.1 c
      refine hh_iload_n dX11_sumOf_27 rfl ?_
      exact hh_ireturn dX11_sumOf_28 rfl h
    · replace h := h.2 c
      obtain ⟨⟨q1, q2, q3⟩, h⟩ := h
      refine hh_iload_n dX11_sumOf_15 rfl ?_
      refine hh_aload_n dX11_sumOf_16 rfl ?_
      refine hh_iload_n dX11_sumOf_17 rfl ?_
      refine hh_iald dX11_sumOf_18 ra_8 q1 rfl ?_
      refine hh_iadd dX11_sumOf_19 q2 ?_
      refine hh_istore_n dX11_sumOf_20 (by decide) rfl ?_
      refine hh_iinc dX11_sumOf_21 (by decide) rfl rfl q3 ?_
      refine hh_goto (tgt := 4) dX11_sumOf_24 (by decide) ?_
      exact hh_forget [true, true, true, true] (hk4 _ _ _ _ h)
theorem l_X11_sumOf_i1_4 {d : Nat} {Q : Int → hh_S → Prop} : ∀ (n : Nat) (x1 x2 x3 : Int) (σ : hh_S), hh_lp3 (B_X11_sumOf_i1_4 d Q) n x1 x2 x3 σ → hh_J (d + 1) hm_X11_sumOf 4 [some (hh_R 8), some (hh_I x1), some (hh_I x2), some (hh_I x3)] [] σ Q := by
  intro n
  induction n with
  | zero => intro _ _ _ _ h; exact h.elim
  | succ n ih => intro x1 x2 x3 σ h; exact w_X11_sumOf_i1_4 ih x1 x2 x3 σ h
set_option maxRecDepth 20000 in
theorem w_X11_sumOf_i1 {d : Nat} {a1 : Int} {σ : hh_S} {Q : Int → hh_S → Prop} (h : P_X11_sumOf_i1 d a1 σ Q) : hh_J (d + 1) hm_X11_sumOf 0 [some (hh_R 8), some (hh_I a1), none, none] [] σ Q := by
  unfold P_X11_sumOf_i1 at h
  refine hh_iconst dX11_sumOf_0 (by decide) ?_
  refine hh_istore_n dX11_sumOf_1 (by decide) rfl ?_
  refine hh_iconst dX11_sumOf_2 (by decide) ?_
  refine hh_istore_n dX11_sumOf_3 (by decide) rfl ?_
  obtain ⟨n, h⟩ := h
  exact hh_forget [true, true, true, true] (l_X11_sumOf_i1_4 n _ _ _ _ h)
theorem wp_X11_sumOf_i1 {d : Nat} (a1 : Int) {σ : hh_S} {Q : Int → hh_S → Prop} (h : hh_cs σ → hh_can a1 → P_X11_sumOf_i1 d a1 σ Q) : hh_Sp (d + 1) hm_X11_sumOf [hh_R 8, hh_I a1] σ Q :=
  hh_entry rfl (Nat.le_of_ble_eq_true rfl) rfl (fun hs hc => w_X11_sumOf_i1 (h hs (hc _ (List.mem_of_getElem? (i := 1) rfl))))
def B_X11_sumOf_i2_4 (d : Nat) (Q : Int → hh_S → Prop) (k4 : Int → Int → Int → hh_S → Prop) (x1 x2 x3 : Int) (σ : hh_S) : Prop :=
  (x1 ≤ x3 → Q x2 σ) ∧ (¬ x1 ≤ x3 → (10 ≤ x3 → Q x2 σ) ∧ (¬ 10 ≤ x3 → ((0 ≤ x3 ∧ x3 < 10) ∧ (-2147483648 ≤ x2 + (σ 21 x3) ∧ x2 + (σ 21 x3) ≤ 2147483647) ∧ (-2147483648 ≤ x3 + 1 ∧ x3 + 1 ≤ 2147483647)) ∧ (k4 x1 (x2 + (σ 21 x3)) (x3 + 1) σ)))
def P_X11_sumOf_i2 (d : Nat) (a1 : Int) (σ : hh_S) (Q : Int → hh_S → Prop) : Prop :=
  ∃ n, hh_lp3 (B_X11_sumOf_i2_4 d Q) n a1 0 0 σ
set_option maxRecDepth 20000 in
theorem w_X11_sumOf_i2_4 {d : Nat} {Q : Int → hh_S → Prop} {k4 : Int → Int → Int → hh_S → Prop} (hk4 : ∀ (x1 x2 x3 : Int) (σ : hh_S), k4 x1 x2 x3 σ → hh_J (d + 1) hm_X11_sumOf 4 [some (hh_R 21), some (hh_I x1), some (hh_I x2), some (hh_I x3)] [] σ Q) (x1 x2 x3 : Int) (σ : hh_S) (h : B_X11_sumOf_i2_4 d Q k4 x1 x2 x3 σ) : hh_J (d + 1) hm_X11_sumOf 4 [some (hh_R 21), some (hh_I x1), some (hh_I x2), some (hh_I x3)] [] σ Q := by
  unfold B_X11_sumOf_i2_4 at h
  refine hh_iload_n dX11_sumOf_4 rfl ?_
  refine hh_iload_n dX11_sumOf_5 rfl ?_
  refine hh_icmp_ge (tgt := 27) dX11_sumOf_6 (by decide) (fun c => ?_) (fun c => ?_)
  · replace h := h.1 c
    refine hh_iload_n dX11_sumOf_27 rfl ?_
    exact hh_ireturn dX11_sumOf_28 rfl h
  · replace h := h.2 c
    refine hh_iload_n dX11_sumOf_9 rfl ?_
    refine hh_aload_n dX11_sumOf_10 rfl ?_
    refine hh_alen dX11_sumOf_11 ra_21 (by decide) ?_
    refine hh_icmp_ge (tgt := 27) dX11_sumOf_12 (by decide) (fun c => ?_) (fun c => ?_)
    · replace h := h.1 c
      refine hh_iload_n dX11_sumOf_27 rfl ?_
      exact hh_ireturn dX11_sumOf_28 rfl h
    · replace h := h.2 c
      obtain ⟨⟨q1, q2, q3⟩, h⟩ := h
      refine hh_iload_n dX11_sumOf_15 rfl ?_
      refine hh_aload_n dX11_sumOf_16 rfl ?_
      refine hh_iload_n dX11_sumOf_17 rfl ?_
      refine hh_iald dX11_sumOf_18 ra_21 q1 rfl ?_
      refine hh_iadd dX11_sumOf_19 q2 ?_
      refine hh_istore_n dX11_sumOf_20 (by decide) rfl ?_
      refine hh_iinc dX11_sumOf_21 (by decide) rfl rfl q3 ?_
      refine hh_goto (tgt := 4) dX11_sumOf_24 (by decide) ?_
      exact hh_forget [true, true, true, true] (hk4 _ _ _ _ h)
theorem l_X11_sumOf_i2_4 {d : Nat} {Q : Int → hh_S → Prop} : ∀ (n : Nat) (x1 x2 x3 : Int) (σ : hh_S), hh_lp3 (B_X11_sumOf_i2_4 d Q) n x1 x2 x3 σ → hh_J (d + 1) hm_X11_sumOf 4 [some (hh_R 21), some (hh_I x1), some (hh_I x2), some (hh_I x3)] [] σ Q := by
  intro n
  induction n with
  | zero => intro _ _ _ _ h; exact h.elim
  | succ n ih => intro x1 x2 x3 σ h; exact w_X11_sumOf_i2_4 ih x1 x2 x3 σ h
set_option maxRecDepth 20000 in
theorem w_X11_sumOf_i2 {d : Nat} {a1 : Int} {σ : hh_S} {Q : Int → hh_S → Prop} (h : P_X11_sumOf_i2 d a1 σ Q) : hh_J (d + 1) hm_X11_sumOf 0 [some (hh_R 21), some (hh_I a1), none, none] [] σ Q := by
  unfold P_X11_sumOf_i2 at h
  refine hh_iconst dX11_sumOf_0 (by decide) ?_
  refine hh_istore_n dX11_sumOf_1 (by decide) rfl ?_
  refine hh_iconst dX11_sumOf_2 (by decide) ?_
  refine hh_istore_n dX11_sumOf_3 (by decide) rfl ?_
  obtain ⟨n, h⟩ := h
  exact hh_forget [true, true, true, true] (l_X11_sumOf_i2_4 n _ _ _ _ h)
theorem wp_X11_sumOf_i2 {d : Nat} (a1 : Int) {σ : hh_S} {Q : Int → hh_S → Prop} (h : hh_cs σ → hh_can a1 → P_X11_sumOf_i2 d a1 σ Q) : hh_Sp (d + 1) hm_X11_sumOf [hh_R 21, hh_I a1] σ Q :=
  hh_entry rfl (Nat.le_of_ble_eq_true rfl) rfl (fun hs hc => w_X11_sumOf_i2 (h hs (hc _ (List.mem_of_getElem? (i := 1) rfl))))
def P_X11_count (d : Nat) (a1 : Int) (σ : hh_S) (Q : Int → hh_S → Prop) : Prop :=
  (a1 < 0 ∨ 12 < a1 → Q (-1000000001) σ) ∧ (a1 = 0 → Q (σ 2 0) σ) ∧ (a1 = 1 → Q (σ 6 0) σ) ∧ (a1 = 2 → Q (σ 13 0) σ) ∧ (a1 = 3 → Q (σ 24 0) σ) ∧ (a1 = 4 → Q (σ 36 0) σ) ∧ (a1 = 5 → hh_Sp d hm_X11_sumOf [hh_R 8, hh_I (σ 6 0)] σ (fun r143 σ143 => Q r143 σ143)) ∧ (a1 = 6 → Q (σ 42 0) σ) ∧ (a1 = 7 → Q (σ 50 0) σ) ∧ (a1 = 8 → Q (σ 0 7) σ) ∧ (a1 = 9 → Q (σ 109 1) σ) ∧ (a1 = 10 → Q (σ 1 8) σ) ∧ (a1 = 11 → hh_Sp d hm_X11_sumOf [hh_R 7, hh_I (σ 6 0)] σ (fun r210 σ210 => Q r210 σ210)) ∧ (a1 = 12 → hh_Sp d hm_X11_sumOf [hh_R 21, hh_I (σ 13 0)] σ (fun r234 σ234 => Q r234 σ234))
set_option maxRecDepth 20000 in
theorem w_X11_count {d : Nat} {a1 : Int} {σ : hh_S} {Q : Int → hh_S → Prop} (h : P_X11_count d a1 σ Q) : hh_J (d + 1) hm_X11_count 0 [some (hh_R 0), some (hh_I a1)] [] σ Q := by
  unfold P_X11_count at h
  refine hh_iload_n dX11_count_0 rfl ?_
  refine hh_table dX11_count_1 (fun tgt ht c => ?_) ⟨238, by decide⟩ (fun c1 c2 => ?_)
  · obtain rfl : tgt = 238 := by omega
    replace h := h.1 c
    refine hh_ldc (n := -1000000001) dX11_count_238 kc_X11_74 (by decide) ?_
    exact hh_ireturn dX11_count_240 rfl h
  · rcases (show a1 = 0 ∨ a1 = 1 ∨ a1 = 2 ∨ a1 = 3 ∨ a1 = 4 ∨ a1 = 5 ∨ a1 = 6 ∨ a1 = 7 ∨ a1 = 8 ∨ a1 = 9 ∨ a1 = 10 ∨ a1 = 11 ∨ a1 = 12 by omega) with c | c | c | c | c | c | c | c | c | c | c | c | c
    · refine ⟨67, 68, by rw [c]; rfl, by decide, ?_⟩
      replace h := h.2.1 c
      refine hh_aload_n dX11_count_68 rfl ?_
      refine hh_getR dX11_count_69 kf_X11_10 rf_0_0 ?_
      refine hh_getR dX11_count_72 kf_X11_75 rf_1_0 ?_
      refine hh_getI dX11_count_75 kf_X11_79 rf_2_0 rfl ?_
      exact hh_ireturn dX11_count_78 rfl h
    · refine ⟨78, 79, by rw [c]; rfl, by decide, ?_⟩
      replace h := h.2.2.1 c
      refine hh_aload_n dX11_count_79 rfl ?_
      refine hh_getR dX11_count_80 kf_X11_10 rf_0_0 ?_
      refine hh_getR dX11_count_83 kf_X11_102 rf_1_1 ?_
      refine hh_getI dX11_count_86 kf_X11_106 rf_6_0 rfl ?_
      exact hh_ireturn dX11_count_89 rfl h
    · refine ⟨89, 90, by rw [c]; rfl, by decide, ?_⟩
      replace h := h.2.2.2.1 c
      refine hh_aload_n dX11_count_90 rfl ?_
      refine hh_getR dX11_count_91 kf_X11_10 rf_0_0 ?_
      refine hh_getR dX11_count_94 kf_X11_117 rf_1_2 ?_
      refine hh_getI dX11_count_97 kf_X11_121 rf_13_0 rfl ?_
      exact hh_ireturn dX11_count_100 rfl h
    · refine ⟨100, 101, by rw [c]; rfl, by decide, ?_⟩
      replace h := h.2.2.2.2.1 c
      refine hh_aload_n dX11_count_101 rfl ?_
      refine hh_getR dX11_count_102 kf_X11_10 rf_0_0 ?_
      refine hh_getR dX11_count_105 kf_X11_173 rf_1_3 ?_
      refine hh_getI dX11_count_108 kf_X11_177 rf_24_0 rfl ?_
      exact hh_ireturn dX11_count_111 rfl h
    · refine ⟨111, 112, by rw [c]; rfl, by decide, ?_⟩
      replace h := h.2.2.2.2.2.1 c
      refine hh_aload_n dX11_count_112 rfl ?_
      refine hh_getR dX11_count_113 kf_X11_10 rf_0_0 ?_
      refine hh_getR dX11_count_116 kf_X11_212 rf_1_4 ?_
      refine hh_getI dX11_count_119 kf_X11_216 rf_36_0 rfl ?_
      exact hh_ireturn dX11_count_122 rfl h
    · refine ⟨122, 123, by rw [c]; rfl, by decide, ?_⟩
      replace h := h.2.2.2.2.2.2.1 c
      refine hh_aload_n dX11_count_123 rfl ?_
      refine hh_getR dX11_count_124 kf_X11_10 rf_0_0 ?_
      refine hh_getR dX11_count_127 kf_X11_102 rf_1_1 ?_
      refine hh_getR dX11_count_130 kf_X11_112 rf_6_2 ?_
      refine hh_aload_n dX11_count_133 rfl ?_
      refine hh_getR dX11_count_134 kf_X11_10 rf_0_0 ?_
      refine hh_getR dX11_count_137 kf_X11_102 rf_1_1 ?_
      refine hh_getI dX11_count_140 kf_X11_106 rf_6_0 rfl ?_
      refine hh_cS2 dX11_count_143 lk_X11_400 mo_X11_sumOf (Nat.le_of_ble_eq_true rfl) h (fun r143 σ143 h => ?_)
      exact hh_ireturn dX11_count_146 rfl h
    · refine ⟨146, 147, by rw [c]; rfl, by decide, ?_⟩
      replace h := h.2.2.2.2.2.2.2.1 c
      refine hh_aload_n dX11_count_147 rfl ?_
      refine hh_getR dX11_count_148 kf_X11_10 rf_0_0 ?_
      refine hh_getR dX11_count_151 kf_X11_134 rf_1_5 ?_
      refine hh_getI dX11_count_154 kf_X11_299 rf_42_0 rfl ?_
      exact hh_ireturn dX11_count_157 rfl h
    · refine ⟨157, 158, by rw [c]; rfl, by decide, ?_⟩
      replace h := h.2.2.2.2.2.2.2.2.1 c
      refine hh_aload_n dX11_count_158 rfl ?_
      refine hh_getR dX11_count_159 kf_X11_10 rf_0_0 ?_
      refine hh_getR dX11_count_162 kf_X11_368 rf_1_6 ?_
      refine hh_getI dX11_count_165 kf_X11_372 rf_50_0 rfl ?_
      exact hh_ireturn dX11_count_168 rfl h
    · refine ⟨168, 169, by rw [c]; rfl, by decide, ?_⟩
      replace h := h.2.2.2.2.2.2.2.2.2.1 c
      refine hh_aload_n dX11_count_169 rfl ?_
      refine hh_getI dX11_count_170 kf_X11_50 rf_0_7 rfl ?_
      exact hh_ireturn dX11_count_173 rfl h
    · refine ⟨173, 174, by rw [c]; rfl, by decide, ?_⟩
      replace h := h.2.2.2.2.2.2.2.2.2.2.1 c
      refine hh_aload_n dX11_count_174 rfl ?_
      refine hh_getR dX11_count_175 kf_X11_26 rf_0_3 ?_
      refine hh_getI dX11_count_178 kf_X11_263 rf_109_1 rfl ?_
      exact hh_ireturn dX11_count_181 rfl h
    · refine ⟨181, 182, by rw [c]; rfl, by decide, ?_⟩
      replace h := h.2.2.2.2.2.2.2.2.2.2.2.1 c
      refine hh_aload_n dX11_count_182 rfl ?_
      refine hh_getR dX11_count_183 kf_X11_10 rf_0_0 ?_
      refine hh_getI dX11_count_186 kf_X11_154 rf_1_8 rfl ?_
      exact hh_ireturn dX11_count_189 rfl h
    · refine ⟨189, 190, by rw [c]; rfl, by decide, ?_⟩
      replace h := h.2.2.2.2.2.2.2.2.2.2.2.2.1 c
      refine hh_aload_n dX11_count_190 rfl ?_
      refine hh_getR dX11_count_191 kf_X11_10 rf_0_0 ?_
      refine hh_getR dX11_count_194 kf_X11_102 rf_1_1 ?_
      refine hh_getR dX11_count_197 kf_X11_109 rf_6_1 ?_
      refine hh_aload_n dX11_count_200 rfl ?_
      refine hh_getR dX11_count_201 kf_X11_10 rf_0_0 ?_
      refine hh_getR dX11_count_204 kf_X11_102 rf_1_1 ?_
      refine hh_getI dX11_count_207 kf_X11_106 rf_6_0 rfl ?_
      refine hh_cS2 dX11_count_210 lk_X11_400 mo_X11_sumOf (Nat.le_of_ble_eq_true rfl) h (fun r210 σ210 h => ?_)
      exact hh_ireturn dX11_count_213 rfl h
    · refine ⟨213, 214, by rw [c]; rfl, by decide, ?_⟩
      replace h := h.2.2.2.2.2.2.2.2.2.2.2.2.2 c
      refine hh_aload_n dX11_count_214 rfl ?_
      refine hh_getR dX11_count_215 kf_X11_10 rf_0_0 ?_
      refine hh_getR dX11_count_218 kf_X11_117 rf_1_2 ?_
      refine hh_getR dX11_count_221 kf_X11_311 rf_13_8 ?_
      refine hh_aload_n dX11_count_224 rfl ?_
      refine hh_getR dX11_count_225 kf_X11_10 rf_0_0 ?_
      refine hh_getR dX11_count_228 kf_X11_117 rf_1_2 ?_
      refine hh_getI dX11_count_231 kf_X11_121 rf_13_0 rfl ?_
      refine hh_cS2 dX11_count_234 lk_X11_400 mo_X11_sumOf (Nat.le_of_ble_eq_true rfl) h (fun r234 σ234 h => ?_)
      exact hh_ireturn dX11_count_237 rfl h
theorem wp_X11_count {d : Nat} (a1 : Int) {σ : hh_S} {Q : Int → hh_S → Prop} (h : hh_cs σ → hh_can a1 → P_X11_count d a1 σ Q) : hh_Sp (d + 1) hm_X11_count [hh_R 0, hh_I a1] σ Q :=
  hh_entry rfl (Nat.le_of_ble_eq_true rfl) rfl (fun hs hc => w_X11_count (h hs (hc _ (List.mem_of_getElem? (i := 1) rfl))))
