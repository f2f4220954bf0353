def P_X12_in (d : Nat) (a0 a1 a2 : Int) (σ : hh_S) (Q : Int → hh_S → Prop) : Prop :=
  (a0 < a1 → Q 0 σ) ∧ (¬ a0 < a1 → (a2 < a0 → Q 0 σ) ∧ (¬ a2 < a0 → Q 1 σ))
set_option maxRecDepth 20000 in
theorem w_X12_in {d : Nat} {a0 a1 a2 : Int} {σ : hh_S} {Q : Int → hh_S → Prop} (h : P_X12_in d a0 a1 a2 σ Q) : hh_J (d + 1) hm_X12_in 0 [some (hh_I a0), some (hh_I a1), some (hh_I a2)] [] σ Q := by
  unfold P_X12_in at h
  refine hh_iload_n dX12_in_0 rfl ?_
  refine hh_iload_n dX12_in_1 rfl ?_
  refine hh_icmp_lt (tgt := 14) dX12_in_2 (by decide) (fun c => ?_) (fun c => ?_)
  · replace h := h.1 c
    refine hh_iconst dX12_in_14 (by decide) ?_
    exact hh_zreturn dX12_in_15 rfl (by decide) h
  · replace h := h.2 c
    refine hh_iload_n dX12_in_5 rfl ?_
    refine hh_iload_n dX12_in_6 rfl ?_
    refine hh_icmp_gt (tgt := 14) dX12_in_7 (by decide) (fun c => ?_) (fun c => ?_)
    · replace h := h.1 c
      refine hh_iconst dX12_in_14 (by decide) ?_
      exact hh_zreturn dX12_in_15 rfl (by decide) h
    · replace h := h.2 c
      refine hh_iconst dX12_in_10 (by decide) ?_
      refine hh_goto (tgt := 15) dX12_in_11 (by decide) ?_
      exact hh_zreturn dX12_in_15 rfl (by decide) h
theorem wp_X12_in {d : Nat} (a0 a1 a2 : Int) {σ : hh_S} {Q : Int → hh_S → Prop} (h : hh_cs σ → hh_can a0 → hh_can a1 → hh_can a2 → P_X12_in d a0 a1 a2 σ Q) : hh_Sp (d + 1) hm_X12_in [hh_I a0, hh_I a1, hh_I a2] σ Q :=
  hh_entry rfl (Nat.le_of_ble_eq_true rfl) rfl (fun hs hc => w_X12_in (h hs (hc _ (List.mem_of_getElem? (i := 0) rfl)) (hc _ (List.mem_of_getElem? (i := 1) rfl)) (hc _ (List.mem_of_getElem? (i := 2) rfl))))
def P_X12_person (d : Nat) (a1 a2 : Int) (σ : hh_S) (Q : Int → hh_S → Prop) : Prop :=
  hh_Sp d hm_X12_in [hh_I a1, hh_I 0, hh_I 3] σ (fun r3 σ3 => (r3 = 0 → Q (-1000000001) σ3) ∧ (¬ r3 = 0 → hh_Sp d hm_X12_in [hh_I a2, hh_I 1, hh_I 999] σ3 (fun r14 σ14 => (¬ r14 = 0 → (¬ σ14 129 4 = 8 → ((-2147483648 ≤ 3 * (σ14 129 4) ∧ 3 * (σ14 129 4) ≤ 2147483647) ∧ (-2147483648 ≤ 20 + (3 * (σ14 129 4)) ∧ 20 + (3 * (σ14 129 4)) ≤ 2147483647) ∧ (0 ≤ 20 + (3 * (σ14 129 4)) ∧ 20 + (3 * (σ14 129 4)) < 9100) ∧ (-2147483648 ≤ 20 + (3 * (σ14 129 4)) + 1 ∧ 20 + (3 * (σ14 129 4)) + 1 ≤ 2147483647) ∧ (0 ≤ 20 + (3 * (σ14 129 4)) + 1 ∧ 20 + (3 * (σ14 129 4)) + 1 < 9100) ∧ (-2147483648 ≤ 20 + (3 * (σ14 129 4)) + 2 ∧ 20 + (3 * (σ14 129 4)) + 2 ≤ 2147483647) ∧ (0 ≤ 20 + (3 * (σ14 129 4)) + 2 ∧ 20 + (3 * (σ14 129 4)) + 2 < 9100)) ∧ (∀ τ80 : hh_S, τ80 = (hh_up (hh_up (hh_up σ14 129 (20 + (3 * (σ14 129 4))) a1) 129 (20 + (3 * (σ14 129 4)) + 1) a2) 129 (20 + (3 * (σ14 129 4)) + 2) 0) → ((-2147483648 ≤ τ80 129 4 + 1 ∧ τ80 129 4 + 1 ≤ 2147483647) ∧ (-2147483648 ≤ τ80 129 4 + 1 - 1 ∧ τ80 129 4 + 1 - 1 ≤ 2147483647)) ∧ (Q (τ80 129 4 + 1 - 1) (hh_up τ80 129 4 (τ80 129 4 + 1))))) ∧ (σ14 129 4 = 8 → Q (-1000000003) σ14)) ∧ (r14 = 0 → Q (-1000000001) σ14))))
set_option maxRecDepth 20000 in
theorem w_X12_person {d : Nat} {a1 a2 : Int} {σ : hh_S} {Q : Int → hh_S → Prop} (h : P_X12_person d a1 a2 σ Q) : hh_J (d + 1) hm_X12_person 0 [some (hh_R 128), some (hh_I a1), some (hh_I a2), none] [] σ Q := by
  unfold P_X12_person at h
  refine hh_iload_n dX12_person_0 rfl ?_
  refine hh_iconst dX12_person_1 (by decide) ?_
  refine hh_iconst dX12_person_2 (by decide) ?_
  refine hh_cS3 dX12_person_3 lk_X12_68 mo_X12_in (Nat.le_of_ble_eq_true rfl) h (fun r3 σ3 h => ?_)
  refine hh_if_eq (tgt := 20) dX12_person_6 (by decide) (fun c => ?_) (fun c => ?_)
  · replace h := h.1 c
    refine hh_ldc (n := -1000000001) dX12_person_20 kc_X12_72 (by decide) ?_
    exact hh_ireturn dX12_person_22 rfl h
  · replace h := h.2 c
    refine hh_iload_n dX12_person_9 rfl ?_
    refine hh_iconst dX12_person_10 (by decide) ?_
    refine hh_sipush dX12_person_11 (by decide) ?_
    refine hh_cS3 dX12_person_14 lk_X12_68 mo_X12_in (Nat.le_of_ble_eq_true rfl) h (fun r14 σ14 h => ?_)
    refine hh_if_ne (tgt := 23) dX12_person_17 (by decide) (fun c => ?_) (fun c => ?_)
    · replace h := h.1 c
      refine hh_aload_n dX12_person_23 rfl ?_
      refine hh_getR dX12_person_24 kf_X12_7 rf_128_0 ?_
      refine hh_iconst dX12_person_27 (by decide) ?_
      refine hh_iald dX12_person_28 ra_129 (by decide) rfl ?_
      refine hh_bipush dX12_person_29 (by decide) ?_
      refine hh_icmp_ne (tgt := 37) dX12_person_31 (by decide) (fun c => ?_) (fun c => ?_)
      · replace h := h.1 c
        obtain ⟨⟨q1, q2, q3, q4, q5, q6, q7⟩, h⟩ := h
        refine hh_bipush dX12_person_37 (by decide) ?_
        refine hh_iconst dX12_person_39 (by decide) ?_
        refine hh_aload_n dX12_person_40 rfl ?_
        refine hh_getR dX12_person_41 kf_X12_7 rf_128_0 ?_
        refine hh_iconst dX12_person_44 (by decide) ?_
        refine hh_iald dX12_person_45 ra_129 (by decide) rfl ?_
        refine hh_imul dX12_person_46 q1 ?_
        refine hh_iadd dX12_person_47 q2 ?_
        refine hh_istore_n dX12_person_48 (by decide) rfl ?_
        refine hh_aload_n dX12_person_49 rfl ?_
        refine hh_getR dX12_person_50 kf_X12_7 rf_128_0 ?_
        refine hh_iload_n dX12_person_53 rfl ?_
        refine hh_iload_n dX12_person_54 rfl ?_
        refine hh_iast dX12_person_55 ra_129 q3 ?_
        refine hh_aload_n dX12_person_56 rfl ?_
        refine hh_getR dX12_person_57 kf_X12_7 rf_128_0 ?_
        refine hh_iload_n dX12_person_60 rfl ?_
        refine hh_iconst dX12_person_61 (by decide) ?_
        refine hh_iadd dX12_person_62 q4 ?_
        refine hh_iload_n dX12_person_63 rfl ?_
        refine hh_iast dX12_person_64 ra_129 q5 ?_
        refine hh_aload_n dX12_person_65 rfl ?_
        refine hh_getR dX12_person_66 kf_X12_7 rf_128_0 ?_
        refine hh_iload_n dX12_person_69 rfl ?_
        refine hh_iconst dX12_person_70 (by decide) ?_
        refine hh_iadd dX12_person_71 q6 ?_
        refine hh_iconst dX12_person_72 (by decide) ?_
        refine hh_iast dX12_person_73 ra_129 q7 ?_
        refine hh_aload_n dX12_person_74 rfl ?_
        refine hh_getR dX12_person_75 kf_X12_7 rf_128_0 ?_
        refine hh_iconst dX12_person_78 (by decide) ?_
        refine hh_dup2 dX12_person_79 (fun _ => rfl) (fun _ => rfl) ?_
        replace h := h _ rfl
        obtain ⟨⟨q1, q2⟩, h⟩ := h
        refine hh_iald dX12_person_80 ra_129 (by decide) rfl ?_
        refine hh_iconst dX12_person_81 (by decide) ?_
        refine hh_iadd dX12_person_82 q1 ?_
        refine hh_iast dX12_person_83 ra_129 (by decide) ?_
        refine hh_aload_n dX12_person_84 rfl ?_
        refine hh_getR dX12_person_85 kf_X12_7 rf_128_0 ?_
        refine hh_iconst dX12_person_88 (by decide) ?_
        refine hh_iald dX12_person_89 ra_129 (by decide) rfl ?_
        refine hh_iconst dX12_person_90 (by decide) ?_
        refine hh_isub dX12_person_91 q2 ?_
        exact hh_ireturn dX12_person_92 rfl h
      · replace h := h.2 c
        refine hh_ldc (n := -1000000003) dX12_person_34 kc_X12_73 (by decide) ?_
        exact hh_ireturn dX12_person_36 rfl h
    · replace h := h.2 c
      refine hh_ldc (n := -1000000001) dX12_person_20 kc_X12_72 (by decide) ?_
      exact hh_ireturn dX12_person_22 rfl h
theorem wp_X12_person {d : Nat} (a1 a2 : Int) {σ : hh_S} {Q : Int → hh_S → Prop} (h : hh_cs σ → hh_can a1 → hh_can a2 → P_X12_person d a1 a2 σ Q) : hh_Sp (d + 1) hm_X12_person [hh_R 128, hh_I a1, hh_I a2] σ Q :=
  hh_entry rfl (Nat.le_of_ble_eq_true rfl) rfl (fun hs hc => w_X12_person (h hs (hc _ (List.mem_of_getElem? (i := 1) rfl)) (hc _ (List.mem_of_getElem? (i := 2) rfl))))
def P_X12_isPerson (d : Nat) (a1 : Int) (σ : hh_S) (Q : Int → hh_S → Prop) : Prop :=
  ((-2147483648 ≤ σ 129 4 - 1 ∧ σ 129 4 - 1 ≤ 2147483647)) ∧ (hh_Sp d hm_X12_in [hh_I a1, hh_I 0, hh_I (σ 129 4 - 1)] σ (fun r10 σ10 => ((r10 = 0 ∨ r10 = 1)) ∧ (Q r10 σ10)))
set_option maxRecDepth 20000 in
theorem w_X12_isPerson {d : Nat} {a1 : Int} {σ : hh_S} {Q : Int → hh_S → Prop} (h : P_X12_isPerson d a1 σ Q) : hh_J (d + 1) hm_X12_isPerson 0 [some (hh_R 128), some (hh_I a1)] [] σ Q := by
  unfold P_X12_isPerson at h
  obtain ⟨q1, h⟩ := h
  refine hh_iload_n dX12_isPerson_0 rfl ?_
  refine hh_iconst dX12_isPerson_1 (by decide) ?_
  refine hh_aload_n dX12_isPerson_2 rfl ?_
  refine hh_getR dX12_isPerson_3 kf_X12_7 rf_128_0 ?_
  refine hh_iconst dX12_isPerson_6 (by decide) ?_
  refine hh_iald dX12_isPerson_7 ra_129 (by decide) rfl ?_
  refine hh_iconst dX12_isPerson_8 (by decide) ?_
  refine hh_isub dX12_isPerson_9 q1 ?_
  refine hh_cS3 dX12_isPerson_10 lk_X12_68 mo_X12_in (Nat.le_of_ble_eq_true rfl) h (fun r10 σ10 h => ?_)
  obtain ⟨q1, h⟩ := h
  exact hh_zreturn dX12_isPerson_13 rfl q1 h
theorem wp_X12_isPerson {d : Nat} (a1 : Int) {σ : hh_S} {Q : Int → hh_S → Prop} (h : hh_cs σ → hh_can a1 → P_X12_isPerson d a1 σ Q) : hh_Sp (d + 1) hm_X12_isPerson [hh_R 128, hh_I a1] σ Q :=
  hh_entry rfl (Nat.le_of_ble_eq_true rfl) rfl (fun hs hc => w_X12_isPerson (h hs (hc _ (List.mem_of_getElem? (i := 1) rfl))))
def B_X12_is_51 (d : Nat) (Q : Int → hh_S → Prop) (σ : hh_S) : Prop :=
  Q 1 σ
def P_X12_is (d : Nat) (a1 a2 : Int) (σ : hh_S) (Q : Int → hh_S → Prop) : Prop :=
  hh_Sp d hm_X12_isPerson [hh_R 128, hh_I a1] σ (fun r2 σ2 => (r2 = 0 → Q (-1000000001) σ2) ∧ (¬ r2 = 0 → hh_Sp d hm_X12_in [hh_I a2, hh_I 0, hh_I 3] σ2 (fun r11 σ11 => (¬ r11 = 0 → ((-2147483648 ≤ 3 * a1 ∧ 3 * a1 ≤ 2147483647) ∧ (-2147483648 ≤ 20 + 3 * a1 ∧ 20 + 3 * a1 ≤ 2147483647) ∧ (0 ≤ 20 + 3 * a1 ∧ 20 + 3 * a1 < 9100)) ∧ ((a2 = 0 → B_X12_is_51 d Q σ11) ∧ (¬ a2 = 0 → (σ11 129 (20 + 3 * a1) = a2 → B_X12_is_51 d Q σ11) ∧ (¬ σ11 129 (20 + 3 * a1) = a2 → (¬ σ11 129 (20 + 3 * a1) = 2 → Q 0 σ11) ∧ (σ11 129 (20 + 3 * a1) = 2 → (¬ a2 = 1 → Q 0 σ11) ∧ (a2 = 1 → B_X12_is_51 d Q σ11)))))) ∧ (r11 = 0 → Q (-1000000001) σ11))))
set_option maxRecDepth 20000 in
theorem w_X12_is_51 {d : Nat} {Q : Int → hh_S → Prop} (σ : hh_S) (h : B_X12_is_51 d Q σ) : hh_J (d + 1) hm_X12_is 51 [none, none, none, none] [] σ Q := by
  unfold B_X12_is_51 at h
  refine hh_iconst dX12_is_51 (by decide) ?_
  refine hh_goto (tgt := 56) dX12_is_52 (by decide) ?_
  exact hh_ireturn dX12_is_56 rfl h
set_option maxRecDepth 20000 in
theorem w_X12_is {d : Nat} {a1 a2 : Int} {σ : hh_S} {Q : Int → hh_S → Prop} (h : P_X12_is d a1 a2 σ Q) : hh_J (d + 1) hm_X12_is 0 [some (hh_R 128), some (hh_I a1), some (hh_I a2), none] [] σ Q := by
  unfold P_X12_is at h
  refine hh_aload_n dX12_is_0 rfl ?_
  refine hh_iload_n dX12_is_1 rfl ?_
  refine hh_cV1 dX12_is_2 lk_X12_74 mo_X12_isPerson rc_128 (Nat.le_of_ble_eq_true rfl) h (fun r2 σ2 h => ?_)
  refine hh_if_eq (tgt := 17) dX12_is_5 (by decide) (fun c => ?_) (fun c => ?_)
  · replace h := h.1 c
    refine hh_ldc (n := -1000000001) dX12_is_17 kc_X12_72 (by decide) ?_
    exact hh_ireturn dX12_is_19 rfl h
  · replace h := h.2 c
    refine hh_iload_n dX12_is_8 rfl ?_
    refine hh_iconst dX12_is_9 (by decide) ?_
    refine hh_iconst dX12_is_10 (by decide) ?_
    refine hh_cS3 dX12_is_11 lk_X12_68 mo_X12_in (Nat.le_of_ble_eq_true rfl) h (fun r11 σ11 h => ?_)
    refine hh_if_ne (tgt := 20) dX12_is_14 (by decide) (fun c => ?_) (fun c => ?_)
    · replace h := h.1 c
      obtain ⟨⟨q1, q2, q3⟩, h⟩ := h
      refine hh_aload_n dX12_is_20 rfl ?_
      refine hh_getR dX12_is_21 kf_X12_7 rf_128_0 ?_
      refine hh_bipush dX12_is_24 (by decide) ?_
      refine hh_iconst dX12_is_26 (by decide) ?_
      refine hh_iload_n dX12_is_27 rfl ?_
      refine hh_imul dX12_is_28 q1 ?_
      refine hh_iadd dX12_is_29 q2 ?_
      refine hh_iald dX12_is_30 ra_129 q3 rfl ?_
      refine hh_istore_n dX12_is_31 (by decide) rfl ?_
      refine hh_iload_n dX12_is_32 rfl ?_
      refine hh_if_eq (tgt := 51) dX12_is_33 (by decide) (fun c => ?_) (fun c => ?_)
      · replace h := h.1 c
        exact hh_forget [false, false, false, false] (w_X12_is_51 _ h)
      · replace h := h.2 c
        refine hh_iload_n dX12_is_36 rfl ?_
        refine hh_iload_n dX12_is_37 rfl ?_
        refine hh_icmp_eq (tgt := 51) dX12_is_38 (by decide) (fun c => ?_) (fun c => ?_)
        · replace h := h.1 c
          exact hh_forget [false, false, false, false] (w_X12_is_51 _ h)
        · replace h := h.2 c
          refine hh_iload_n dX12_is_41 rfl ?_
          refine hh_iconst dX12_is_42 (by decide) ?_
          refine hh_icmp_ne (tgt := 55) dX12_is_43 (by decide) (fun c => ?_) (fun c => ?_)
          · replace h := h.1 c
            refine hh_iconst dX12_is_55 (by decide) ?_
            exact hh_ireturn dX12_is_56 rfl h
          · replace h := h.2 c
            refine hh_iload_n dX12_is_46 rfl ?_
            refine hh_iconst dX12_is_47 (by decide) ?_
            refine hh_icmp_ne (tgt := 55) dX12_is_48 (by decide) (fun c => ?_) (fun c => ?_)
            · replace h := h.1 c
              refine hh_iconst dX12_is_55 (by decide) ?_
              exact hh_ireturn dX12_is_56 rfl h
            · replace h := h.2 c
              exact hh_forget [false, false, false, false] (w_X12_is_51 _ h)
    · replace h := h.2 c
      refine hh_ldc (n := -1000000001) dX12_is_17 kc_X12_72 (by decide) ?_
      exact hh_ireturn dX12_is_19 rfl h
theorem wp_X12_is {d : Nat} (a1 a2 : Int) {σ : hh_S} {Q : Int → hh_S → Prop} (h : hh_cs σ → hh_can a1 → hh_can a2 → P_X12_is d a1 a2 σ Q) : hh_Sp (d + 1) hm_X12_is [hh_R 128, hh_I a1, hh_I a2] σ Q :=
  hh_entry rfl (Nat.le_of_ble_eq_true rfl) rfl (fun hs hc => w_X12_is (h hs (hc _ (List.mem_of_getElem? (i := 1) rfl)) (hc _ (List.mem_of_getElem? (i := 2) rfl))))
def P_X12_client (d : Nat) (σ : hh_S) (Q : Int → hh_S → Prop) : Prop :=
  (¬ σ 129 5 = 5 → ((-2147483648 ≤ 44 + (σ 129 5) ∧ 44 + (σ 129 5) ≤ 2147483647) ∧ (0 ≤ 44 + (σ 129 5) ∧ 44 + (σ 129 5) < 9100)) ∧ (∀ τ34 : hh_S, τ34 = (hh_up σ 129 (44 + (σ 129 5)) 0) → ((-2147483648 ≤ τ34 129 5 + 1 ∧ τ34 129 5 + 1 ≤ 2147483647) ∧ (-2147483648 ≤ τ34 129 5 + 1 - 1 ∧ τ34 129 5 + 1 - 1 ≤ 2147483647)) ∧ (Q (τ34 129 5 + 1 - 1) (hh_up τ34 129 5 (τ34 129 5 + 1))))) ∧ (σ 129 5 = 5 → Q (-1000000003) σ)
set_option maxRecDepth 20000 in
theorem w_X12_client {d : Nat} {σ : hh_S} {Q : Int → hh_S → Prop} (h : P_X12_client d σ Q) : hh_J (d + 1) hm_X12_client 0 [some (hh_R 128)] [] σ Q := by
  unfold P_X12_client at h
  refine hh_aload_n dX12_client_0 rfl ?_
  refine hh_getR dX12_client_1 kf_X12_7 rf_128_0 ?_
  refine hh_iconst dX12_client_4 (by decide) ?_
  refine hh_iald dX12_client_5 ra_129 (by decide) rfl ?_
  refine hh_iconst dX12_client_6 (by decide) ?_
  refine hh_icmp_ne (tgt := 13) dX12_client_7 (by decide) (fun c => ?_) (fun c => ?_)
  · replace h := h.1 c
    obtain ⟨⟨q1, q2⟩, h⟩ := h
    refine hh_aload_n dX12_client_13 rfl ?_
    refine hh_getR dX12_client_14 kf_X12_7 rf_128_0 ?_
    refine hh_bipush dX12_client_17 (by decide) ?_
    refine hh_aload_n dX12_client_19 rfl ?_
    refine hh_getR dX12_client_20 kf_X12_7 rf_128_0 ?_
    refine hh_iconst dX12_client_23 (by decide) ?_
    refine hh_iald dX12_client_24 ra_129 (by decide) rfl ?_
    refine hh_iadd dX12_client_25 q1 ?_
    refine hh_iconst dX12_client_26 (by decide) ?_
    refine hh_iast dX12_client_27 ra_129 q2 ?_
    refine hh_aload_n dX12_client_28 rfl ?_
    refine hh_getR dX12_client_29 kf_X12_7 rf_128_0 ?_
    refine hh_iconst dX12_client_32 (by decide) ?_
    refine hh_dup2 dX12_client_33 (fun _ => rfl) (fun _ => rfl) ?_
    replace h := h _ rfl
    obtain ⟨⟨q1, q2⟩, h⟩ := h
    refine hh_iald dX12_client_34 ra_129 (by decide) rfl ?_
    refine hh_iconst dX12_client_35 (by decide) ?_
    refine hh_iadd dX12_client_36 q1 ?_
    refine hh_iast dX12_client_37 ra_129 (by decide) ?_
    refine hh_aload_n dX12_client_38 rfl ?_
    refine hh_getR dX12_client_39 kf_X12_7 rf_128_0 ?_
    refine hh_iconst dX12_client_42 (by decide) ?_
    refine hh_iald dX12_client_43 ra_129 (by decide) rfl ?_
    refine hh_iconst dX12_client_44 (by decide) ?_
    refine hh_isub dX12_client_45 q2 ?_
    exact hh_ireturn dX12_client_46 rfl h
  · replace h := h.2 c
    refine hh_ldc (n := -1000000003) dX12_client_10 kc_X12_73 (by decide) ?_
    exact hh_ireturn dX12_client_12 rfl h
theorem wp_X12_client {d : Nat} {σ : hh_S} {Q : Int → hh_S → Prop} (h : hh_cs σ → P_X12_client d σ Q) : hh_Sp (d + 1) hm_X12_client [hh_R 128] σ Q :=
  hh_entry rfl (Nat.le_of_ble_eq_true rfl) rfl (fun hs hc => w_X12_client (h hs))
def P_X12_isClient (d : Nat) (a1 : Int) (σ : hh_S) (Q : Int → hh_S → Prop) : Prop :=
  ((-2147483648 ≤ σ 129 5 - 1 ∧ σ 129 5 - 1 ≤ 2147483647)) ∧ (hh_Sp d hm_X12_in [hh_I a1, hh_I 0, hh_I (σ 129 5 - 1)] σ (fun r10 σ10 => ((r10 = 0 ∨ r10 = 1)) ∧ (Q r10 σ10)))
set_option maxRecDepth 20000 in
theorem w_X12_isClient {d : Nat} {a1 : Int} {σ : hh_S} {Q : Int → hh_S → Prop} (h : P_X12_isClient d a1 σ Q) : hh_J (d + 1) hm_X12_isClient 0 [some (hh_R 128), some (hh_I a1)] [] σ Q := by
  unfold P_X12_isClient at h
  obtain ⟨q1, h⟩ := h
  refine hh_iload_n dX12_isClient_0 rfl ?_
  refine hh_iconst dX12_isClient_1 (by decide) ?_
  refine hh_aload_n dX12_isClient_2 rfl ?_
  refine hh_getR dX12_isClient_3 kf_X12_7 rf_128_0 ?_
  refine hh_iconst dX12_isClient_6 (by decide) ?_
  refine hh_iald dX12_isClient_7 ra_129 (by decide) rfl ?_
  refine hh_iconst dX12_isClient_8 (by decide) ?_
  refine hh_isub dX12_isClient_9 q1 ?_
  refine hh_cS3 dX12_isClient_10 lk_X12_68 mo_X12_in (Nat.le_of_ble_eq_true rfl) h (fun r10 σ10 h => ?_)
  obtain ⟨q1, h⟩ := h
  exact hh_zreturn dX12_isClient_13 rfl q1 h
theorem wp_X12_isClient {d : Nat} (a1 : Int) {σ : hh_S} {Q : Int → hh_S → Prop} (h : hh_cs σ → hh_can a1 → P_X12_isClient d a1 σ Q) : hh_Sp (d + 1) hm_X12_isClient [hh_R 128, hh_I a1] σ Q :=
  hh_entry rfl (Nat.le_of_ble_eq_true rfl) rfl (fun hs hc => w_X12_isClient (h hs (hc _ (List.mem_of_getElem? (i := 1) rfl))))
def B_X12_matter_177 (d : Nat) (Q : Int → hh_S → Prop) (σ : hh_S) : Prop :=
  ((-2147483648 ≤ σ 129 6 + 1 ∧ σ 129 6 + 1 ≤ 2147483647) ∧ (-2147483648 ≤ σ 129 6 + 1 - 1 ∧ σ 129 6 + 1 - 1 ≤ 2147483647)) ∧ (Q (σ 129 6 + 1 - 1) (hh_up σ 129 6 (σ 129 6 + 1)))
def B_X12_matter_151 (d : Nat) (Q : Int → hh_S → Prop) (k151 : Int → Int → hh_S → Prop) (x4 x5 : Int) (σ : hh_S) : Prop :=
  (6 ≤ x5 → B_X12_matter_177 d Q σ) ∧ (¬ 6 ≤ x5 → ((-2147483648 ≤ x4 + 4 ∧ x4 + 4 ≤ 2147483647) ∧ (-2147483648 ≤ x4 + 4 + x5 ∧ x4 + 4 + x5 ≤ 2147483647) ∧ (0 ≤ x4 + 4 + x5 ∧ x4 + 4 + x5 < 9100) ∧ (-2147483648 ≤ x5 + 1 ∧ x5 + 1 ≤ 2147483647)) ∧ (k151 x4 (x5 + 1) (hh_up σ 129 (x4 + 4 + x5) (-1))))
def B_X12_matter_87 (d : Nat) (Q : Int → hh_S → Prop) (x1 x2 x3 x4 : Int) (σ : hh_S) : Prop :=
  ((0 ≤ x4 ∧ x4 < 9100) ∧ (-2147483648 ≤ x4 + 1 ∧ x4 + 1 ≤ 2147483647) ∧ (0 ≤ x4 + 1 ∧ x4 + 1 < 9100) ∧ (-2147483648 ≤ x4 + 2 ∧ x4 + 2 ≤ 2147483647) ∧ (0 ≤ x4 + 2 ∧ x4 + 2 < 9100) ∧ (-2147483648 ≤ x4 + 10 ∧ x4 + 10 ≤ 2147483647) ∧ (0 ≤ x4 + 10 ∧ x4 + 10 < 9100) ∧ (-2147483648 ≤ x4 + 11 ∧ x4 + 11 ≤ 2147483647) ∧ (0 ≤ x4 + 11 ∧ x4 + 11 < 9100) ∧ (-2147483648 ≤ x4 + 14 ∧ x4 + 14 ≤ 2147483647) ∧ (0 ≤ x4 + 14 ∧ x4 + 14 < 9100)) ∧ (∃ n, hh_lp2 (B_X12_matter_151 d Q) n x4 1 (hh_up (hh_up (hh_up (hh_up (hh_up (hh_up σ 129 x4 x1) 129 (x4 + 1) x2) 129 (x4 + 2) x3) 129 (x4 + 10) 1) 129 (x4 + 11) x2) 129 (x4 + 14) 1))
def B_X12_matter_63 (d : Nat) (Q : Int → hh_S → Prop) (k63 : Int → Int → Int → Int → Int → hh_S → Prop) (x1 x2 x3 x4 x5 : Int) (σ : hh_S) : Prop :=
  (20 ≤ x5 → B_X12_matter_87 d Q x1 x2 x3 x4 σ) ∧ (¬ 20 ≤ x5 → ((-2147483648 ≤ x4 + x5 ∧ x4 + x5 ≤ 2147483647) ∧ (0 ≤ x4 + x5 ∧ x4 + x5 < 9100) ∧ (-2147483648 ≤ x5 + 1 ∧ x5 + 1 ≤ 2147483647)) ∧ (k63 x1 x2 x3 x4 (x5 + 1) (hh_up σ 129 (x4 + x5) 0)))
def P_X12_matter (d : Nat) (a1 a2 a3 : Int) (σ : hh_S) (Q : Int → hh_S → Prop) : Prop :=
  hh_Sp d hm_X12_in [hh_I a1, hh_I 0, hh_I 3] σ (fun r3 σ3 => (r3 = 0 → Q (-1000000001) σ3) ∧ (¬ r3 = 0 → hh_Sp d hm_X12_isClient [hh_R 128, hh_I a2] σ3 (fun r11 σ11 => (r11 = 0 → Q (-1000000001) σ11) ∧ (¬ r11 = 0 → hh_Sp d hm_X12_in [hh_I a3, hh_I 0, hh_I 99999] σ11 (fun r21 σ21 => (¬ r21 = 0 → (¬ σ21 129 6 = 10 → ((-2147483648 ≤ 20 * (σ21 129 6) ∧ 20 * (σ21 129 6) ≤ 2147483647) ∧ (-2147483648 ≤ 50 + (20 * (σ21 129 6)) ∧ 50 + (20 * (σ21 129 6)) ≤ 2147483647)) ∧ (∃ n, hh_lp5 (B_X12_matter_63 d Q) n a1 a2 a3 (50 + (20 * (σ21 129 6))) 0 σ21)) ∧ (σ21 129 6 = 10 → Q (-1000000003) σ21)) ∧ (r21 = 0 → Q (-1000000001) σ21))))))
set_option maxRecDepth 20000 in
theorem w_X12_matter_177 {d : Nat} {Q : Int → hh_S → Prop} (σ : hh_S) (h : B_X12_matter_177 d Q σ) : hh_J (d + 1) hm_X12_matter 177 [some (hh_R 128), none, none, none, none, none] [] σ Q := by
  unfold B_X12_matter_177 at h
  obtain ⟨⟨q1, q2⟩, h⟩ := h
  refine hh_aload_n dX12_matter_177 rfl ?_
  refine hh_getR dX12_matter_178 kf_X12_7 rf_128_0 ?_
  refine hh_bipush dX12_matter_181 (by decide) ?_
  refine hh_dup2 dX12_matter_183 (fun _ => rfl) (fun _ => rfl) ?_
  refine hh_iald dX12_matter_184 ra_129 (by decide) rfl ?_
  refine hh_iconst dX12_matter_185 (by decide) ?_
  refine hh_iadd dX12_matter_186 q1 ?_
  refine hh_iast dX12_matter_187 ra_129 (by decide) ?_
  refine hh_aload_n dX12_matter_188 rfl ?_
  refine hh_getR dX12_matter_189 kf_X12_7 rf_128_0 ?_
  refine hh_bipush dX12_matter_192 (by decide) ?_
  refine hh_iald dX12_matter_194 ra_129 (by decide) rfl ?_
  refine hh_iconst dX12_matter_195 (by decide) ?_
  refine hh_isub dX12_matter_196 q2 ?_
  exact hh_ireturn dX12_matter_197 rfl h
set_option maxRecDepth 20000 in
theorem w_X12_matter_151 {d : Nat} {Q : Int → hh_S → Prop} {k151 : Int → Int → hh_S → Prop} (hk151 : ∀ (x4 x5 : Int) (σ : hh_S), k151 x4 x5 σ → hh_J (d + 1) hm_X12_matter 151 [some (hh_R 128), none, none, none, some (hh_I x4), some (hh_I x5)] [] σ Q) (x4 x5 : Int) (σ : hh_S) (h : B_X12_matter_151 d Q k151 x4 x5 σ) : hh_J (d + 1) hm_X12_matter 151 [some (hh_R 128), none, none, none, some (hh_I x4), some (hh_I x5)] [] σ Q := by
  unfold B_X12_matter_151 at h
  refine hh_iload dX12_matter_151 rfl ?_
  refine hh_bipush dX12_matter_153 (by decide) ?_
  refine hh_icmp_ge (tgt := 177) dX12_matter_155 (by decide) (fun c => ?_) (fun c => ?_)
  · replace h := h.1 c
    exact hh_forget [true, false, false, false, false, false] (w_X12_matter_177 _ h)
  · replace h := h.2 c
    obtain ⟨⟨q1, q2, q3, q4⟩, h⟩ := h
    refine hh_aload_n dX12_matter_158 rfl ?_
    refine hh_getR dX12_matter_159 kf_X12_7 rf_128_0 ?_
    refine hh_iload dX12_matter_162 rfl ?_
    refine hh_iconst dX12_matter_164 (by decide) ?_
    refine hh_iadd dX12_matter_165 q1 ?_
    refine hh_iload dX12_matter_166 rfl ?_
    refine hh_iadd dX12_matter_168 q2 ?_
    refine hh_iconst dX12_matter_169 (by decide) ?_
    refine hh_iast dX12_matter_170 ra_129 q3 ?_
    refine hh_iinc dX12_matter_171 (by decide) rfl rfl q4 ?_
    refine hh_goto (tgt := 151) dX12_matter_174 (by decide) ?_
    exact hh_forget [true, false, false, false, true, true] (hk151 _ _ _ h)
theorem l_X12_matter_151 {d : Nat} {Q : Int → hh_S → Prop} : ∀ (n : Nat) (x4 x5 : Int) (σ : hh_S), hh_lp2 (B_X12_matter_151 d Q) n x4 x5 σ → hh_J (d + 1) hm_X12_matter 151 [some (hh_R 128), none, none, none, some (hh_I x4), some (hh_I x5)] [] σ Q := by
  intro n
  induction n with
  | zero => intro _ _ _ h; exact h.elim
  | succ n ih => intro x4 x5 σ h; exact w_X12_matter_151 ih x4 x5 σ h
set_option maxRecDepth 20000 in
theorem w_X12_matter_87 {d : Nat} {Q : Int → hh_S → Prop} (x1 x2 x3 x4 : Int) (σ : hh_S) (h : B_X12_matter_87 d Q x1 x2 x3 x4 σ) : hh_J (d + 1) hm_X12_matter 87 [some (hh_R 128), some (hh_I x1), some (hh_I x2), some (hh_I x3), some (hh_I x4), none] [] σ Q := by
  unfold B_X12_matter_87 at h
  obtain ⟨⟨q1, q2, q3, q4, q5, q6, q7, q8, q9, q10, q11⟩, h⟩ := h
  refine hh_aload_n dX12_matter_87 rfl ?_
  refine hh_getR dX12_matter_88 kf_X12_7 rf_128_0 ?_
  refine hh_iload dX12_matter_91 rfl ?_
  refine hh_iload_n dX12_matter_93 rfl ?_
  refine hh_iast dX12_matter_94 ra_129 q1 ?_
  refine hh_aload_n dX12_matter_95 rfl ?_
  refine hh_getR dX12_matter_96 kf_X12_7 rf_128_0 ?_
  refine hh_iload dX12_matter_99 rfl ?_
  refine hh_iconst dX12_matter_101 (by decide) ?_
  refine hh_iadd dX12_matter_102 q2 ?_
  refine hh_iload_n dX12_matter_103 rfl ?_
  refine hh_iast dX12_matter_104 ra_129 q3 ?_
  refine hh_aload_n dX12_matter_105 rfl ?_
  refine hh_getR dX12_matter_106 kf_X12_7 rf_128_0 ?_
  refine hh_iload dX12_matter_109 rfl ?_
  refine hh_iconst dX12_matter_111 (by decide) ?_
  refine hh_iadd dX12_matter_112 q4 ?_
  refine hh_iload_n dX12_matter_113 rfl ?_
  refine hh_iast dX12_matter_114 ra_129 q5 ?_
  refine hh_aload_n dX12_matter_115 rfl ?_
  refine hh_getR dX12_matter_116 kf_X12_7 rf_128_0 ?_
  refine hh_iload dX12_matter_119 rfl ?_
  refine hh_bipush dX12_matter_121 (by decide) ?_
  refine hh_iadd dX12_matter_123 q6 ?_
  refine hh_iconst dX12_matter_124 (by decide) ?_
  refine hh_iast dX12_matter_125 ra_129 q7 ?_
  refine hh_aload_n dX12_matter_126 rfl ?_
  refine hh_getR dX12_matter_127 kf_X12_7 rf_128_0 ?_
  refine hh_iload dX12_matter_130 rfl ?_
  refine hh_bipush dX12_matter_132 (by decide) ?_
  refine hh_iadd dX12_matter_134 q8 ?_
  refine hh_iload_n dX12_matter_135 rfl ?_
  refine hh_iast dX12_matter_136 ra_129 q9 ?_
  refine hh_aload_n dX12_matter_137 rfl ?_
  refine hh_getR dX12_matter_138 kf_X12_7 rf_128_0 ?_
  refine hh_iload dX12_matter_141 rfl ?_
  refine hh_bipush dX12_matter_143 (by decide) ?_
  refine hh_iadd dX12_matter_145 q10 ?_
  refine hh_iconst dX12_matter_146 (by decide) ?_
  refine hh_iast dX12_matter_147 ra_129 q11 ?_
  refine hh_iconst dX12_matter_148 (by decide) ?_
  refine hh_istore dX12_matter_149 (by decide) rfl ?_
  obtain ⟨n, h⟩ := h
  exact hh_forget [true, false, false, false, true, true] (l_X12_matter_151 n _ _ _ h)
set_option maxRecDepth 20000 in
theorem w_X12_matter_63 {d : Nat} {Q : Int → hh_S → Prop} {k63 : Int → Int → Int → Int → Int → hh_S → Prop} (hk63 : ∀ (x1 x2 x3 x4 x5 : Int) (σ : hh_S), k63 x1 x2 x3 x4 x5 σ → hh_J (d + 1) hm_X12_matter 63 [some (hh_R 128), some (hh_I x1), some (hh_I x2), some (hh_I x3), some (hh_I x4), some (hh_I x5)] [] σ Q) (x1 x2 x3 x4 x5 : Int) (σ : hh_S) (h : B_X12_matter_63 d Q k63 x1 x2 x3 x4 x5 σ) : hh_J (d + 1) hm_X12_matter 63 [some (hh_R 128), some (hh_I x1), some (hh_I x2), some (hh_I x3), some (hh_I x4), some (hh_I x5)] [] σ Q := by
  unfold B_X12_matter_63 at h
  refine hh_iload dX12_matter_63 rfl ?_
  refine hh_bipush dX12_matter_65 (by decide) ?_
  refine hh_icmp_ge (tgt := 87) dX12_matter_67 (by decide) (fun c => ?_) (fun c => ?_)
  · replace h := h.1 c
    exact hh_forget [true, true, true, true, true, false] (w_X12_matter_87 _ _ _ _ _ h)
  · replace h := h.2 c
    obtain ⟨⟨q1, q2, q3⟩, h⟩ := h
    refine hh_aload_n dX12_matter_70 rfl ?_
    refine hh_getR dX12_matter_71 kf_X12_7 rf_128_0 ?_
    refine hh_iload dX12_matter_74 rfl ?_
    refine hh_iload dX12_matter_76 rfl ?_
    refine hh_iadd dX12_matter_78 q1 ?_
    refine hh_iconst dX12_matter_79 (by decide) ?_
    refine hh_iast dX12_matter_80 ra_129 q2 ?_
    refine hh_iinc dX12_matter_81 (by decide) rfl rfl q3 ?_
    refine hh_goto (tgt := 63) dX12_matter_84 (by decide) ?_
    exact hh_forget [true, true, true, true, true, true] (hk63 _ _ _ _ _ _ h)
theorem l_X12_matter_63 {d : Nat} {Q : Int → hh_S → Prop} : ∀ (n : Nat) (x1 x2 x3 x4 x5 : Int) (σ : hh_S), hh_lp5 (B_X12_matter_63 d Q) n x1 x2 x3 x4 x5 σ → hh_J (d + 1) hm_X12_matter 63 [some (hh_R 128), some (hh_I x1), some (hh_I x2), some (hh_I x3), some (hh_I x4), some (hh_I x5)] [] σ Q := by
  intro n
  induction n with
  | zero => intro _ _ _ _ _ _ h; exact h.elim
  | succ n ih => intro x1 x2 x3 x4 x5 σ h; exact w_X12_matter_63 ih x1 x2 x3 x4 x5 σ h
set_option maxRecDepth 20000 in
theorem w_X12_matter {d : Nat} {a1 a2 a3 : Int} {σ : hh_S} {Q : Int → hh_S → Prop} (h : P_X12_matter d a1 a2 a3 σ Q) : hh_J (d + 1) hm_X12_matter 0 [some (hh_R 128), some (hh_I a1), some (hh_I a2), some (hh_I a3), none, none] [] σ Q := by
  unfold P_X12_matter at h
  refine hh_iload_n dX12_matter_0 rfl ?_
  refine hh_iconst dX12_matter_1 (by decide) ?_
  refine hh_iconst dX12_matter_2 (by decide) ?_
  refine hh_cS3 dX12_matter_3 lk_X12_68 mo_X12_in (Nat.le_of_ble_eq_true rfl) h (fun r3 σ3 h => ?_)
  refine hh_if_eq (tgt := 27) dX12_matter_6 (by decide) (fun c => ?_) (fun c => ?_)
  · replace h := h.1 c
    refine hh_ldc (n := -1000000001) dX12_matter_27 kc_X12_72 (by decide) ?_
    exact hh_ireturn dX12_matter_29 rfl h
  · replace h := h.2 c
    refine hh_aload_n dX12_matter_9 rfl ?_
    refine hh_iload_n dX12_matter_10 rfl ?_
    refine hh_cV1 dX12_matter_11 lk_X12_78 mo_X12_isClient rc_128 (Nat.le_of_ble_eq_true rfl) h (fun r11 σ11 h => ?_)
    refine hh_if_eq (tgt := 27) dX12_matter_14 (by decide) (fun c => ?_) (fun c => ?_)
    · replace h := h.1 c
      refine hh_ldc (n := -1000000001) dX12_matter_27 kc_X12_72 (by decide) ?_
      exact hh_ireturn dX12_matter_29 rfl h
    · replace h := h.2 c
      refine hh_iload_n dX12_matter_17 rfl ?_
      refine hh_iconst dX12_matter_18 (by decide) ?_
      refine hh_ldc (n := 99999) dX12_matter_19 kc_X12_81 (by decide) ?_
      refine hh_cS3 dX12_matter_21 lk_X12_68 mo_X12_in (Nat.le_of_ble_eq_true rfl) h (fun r21 σ21 h => ?_)
      refine hh_if_ne (tgt := 30) dX12_matter_24 (by decide) (fun c => ?_) (fun c => ?_)
      · replace h := h.1 c
        refine hh_aload_n dX12_matter_30 rfl ?_
        refine hh_getR dX12_matter_31 kf_X12_7 rf_128_0 ?_
        refine hh_bipush dX12_matter_34 (by decide) ?_
        refine hh_iald dX12_matter_36 ra_129 (by decide) rfl ?_
        refine hh_bipush dX12_matter_37 (by decide) ?_
        refine hh_icmp_ne (tgt := 45) dX12_matter_39 (by decide) (fun c => ?_) (fun c => ?_)
        · replace h := h.1 c
          obtain ⟨⟨q1, q2⟩, h⟩ := h
          refine hh_bipush dX12_matter_45 (by decide) ?_
          refine hh_bipush dX12_matter_47 (by decide) ?_
          refine hh_aload_n dX12_matter_49 rfl ?_
          refine hh_getR dX12_matter_50 kf_X12_7 rf_128_0 ?_
          refine hh_bipush dX12_matter_53 (by decide) ?_
          refine hh_iald dX12_matter_55 ra_129 (by decide) rfl ?_
          refine hh_imul dX12_matter_56 q1 ?_
          refine hh_iadd dX12_matter_57 q2 ?_
          refine hh_istore dX12_matter_58 (by decide) rfl ?_
          refine hh_iconst dX12_matter_60 (by decide) ?_
          refine hh_istore dX12_matter_61 (by decide) rfl ?_
          obtain ⟨n, h⟩ := h
          exact hh_forget [true, true, true, true, true, true] (l_X12_matter_63 n _ _ _ _ _ _ h)
        · replace h := h.2 c
          refine hh_ldc (n := -1000000003) dX12_matter_42 kc_X12_73 (by decide) ?_
          exact hh_ireturn dX12_matter_44 rfl h
      · replace h := h.2 c
        refine hh_ldc (n := -1000000001) dX12_matter_27 kc_X12_72 (by decide) ?_
        exact hh_ireturn dX12_matter_29 rfl h
theorem wp_X12_matter {d : Nat} (a1 a2 a3 : Int) {σ : hh_S} {Q : Int → hh_S → Prop} (h : hh_cs σ → hh_can a1 → hh_can a2 → hh_can a3 → P_X12_matter d a1 a2 a3 σ Q) : hh_Sp (d + 1) hm_X12_matter [hh_R 128, hh_I a1, hh_I a2, hh_I a3] σ Q :=
  hh_entry rfl (Nat.le_of_ble_eq_true rfl) rfl (fun hs hc => w_X12_matter (h hs (hc _ (List.mem_of_getElem? (i := 1) rfl)) (hc _ (List.mem_of_getElem? (i := 2) rfl)) (hc _ (List.mem_of_getElem? (i := 3) rfl))))
def P_X12_isMatter (d : Nat) (a1 : Int) (σ : hh_S) (Q : Int → hh_S → Prop) : Prop :=
  ((-2147483648 ≤ σ 129 6 - 1 ∧ σ 129 6 - 1 ≤ 2147483647)) ∧ (hh_Sp d hm_X12_in [hh_I a1, hh_I 0, hh_I (σ 129 6 - 1)] σ (fun r11 σ11 => ((r11 = 0 ∨ r11 = 1)) ∧ (Q r11 σ11)))
set_option maxRecDepth 20000 in
theorem w_X12_isMatter {d : Nat} {a1 : Int} {σ : hh_S} {Q : Int → hh_S → Prop} (h : P_X12_isMatter d a1 σ Q) : hh_J (d + 1) hm_X12_isMatter 0 [some (hh_R 128), some (hh_I a1)] [] σ Q := by
  unfold P_X12_isMatter at h
  obtain ⟨q1, h⟩ := h
  refine hh_iload_n dX12_isMatter_0 rfl ?_
  refine hh_iconst dX12_isMatter_1 (by decide) ?_
  refine hh_aload_n dX12_isMatter_2 rfl ?_
  refine hh_getR dX12_isMatter_3 kf_X12_7 rf_128_0 ?_
  refine hh_bipush dX12_isMatter_6 (by decide) ?_
  refine hh_iald dX12_isMatter_8 ra_129 (by decide) rfl ?_
  refine hh_iconst dX12_isMatter_9 (by decide) ?_
  refine hh_isub dX12_isMatter_10 q1 ?_
  refine hh_cS3 dX12_isMatter_11 lk_X12_68 mo_X12_in (Nat.le_of_ble_eq_true rfl) h (fun r11 σ11 h => ?_)
  obtain ⟨q1, h⟩ := h
  exact hh_zreturn dX12_isMatter_14 rfl q1 h
theorem wp_X12_isMatter {d : Nat} (a1 : Int) {σ : hh_S} {Q : Int → hh_S → Prop} (h : hh_cs σ → hh_can a1 → P_X12_isMatter d a1 σ Q) : hh_Sp (d + 1) hm_X12_isMatter [hh_R 128, hh_I a1] σ Q :=
  hh_entry rfl (Nat.le_of_ble_eq_true rfl) rfl (fun hs hc => w_X12_isMatter (h hs (hc _ (List.mem_of_getElem? (i := 1) rfl))))
def B_X12_isOf_52 (d : Nat) (Q : Int → hh_S → Prop) (σ : hh_S) : Prop :=
  Q 1 σ
def P_X12_isOf (d : Nat) (a1 a2 : Int) (σ : hh_S) (Q : Int → hh_S → Prop) : Prop :=
  hh_Sp d hm_X12_isMatter [hh_R 128, hh_I a1] σ (fun r2 σ2 => (r2 = 0 → Q (-1000000001) σ2) ∧ (¬ r2 = 0 → hh_Sp d hm_X12_in [hh_I a2, hh_I 0, hh_I 3] σ2 (fun r11 σ11 => (¬ r11 = 0 → ((-2147483648 ≤ 20 * a1 ∧ 20 * a1 ≤ 2147483647) ∧ (-2147483648 ≤ 50 + 20 * a1 ∧ 50 + 20 * a1 ≤ 2147483647) ∧ (0 ≤ 50 + 20 * a1 ∧ 50 + 20 * a1 < 9100)) ∧ ((a2 = 0 → B_X12_isOf_52 d Q σ11) ∧ (¬ a2 = 0 → (σ11 129 (50 + 20 * a1) = a2 → B_X12_isOf_52 d Q σ11) ∧ (¬ σ11 129 (50 + 20 * a1) = a2 → (¬ σ11 129 (50 + 20 * a1) = 3 → Q 0 σ11) ∧ (σ11 129 (50 + 20 * a1) = 3 → (¬ a2 = 2 → Q 0 σ11) ∧ (a2 = 2 → B_X12_isOf_52 d Q σ11)))))) ∧ (r11 = 0 → Q (-1000000001) σ11))))
set_option maxRecDepth 20000 in
theorem w_X12_isOf_52 {d : Nat} {Q : Int → hh_S → Prop} (σ : hh_S) (h : B_X12_isOf_52 d Q σ) : hh_J (d + 1) hm_X12_isOf 52 [none, none, none, none] [] σ Q := by
  unfold B_X12_isOf_52 at h
  refine hh_iconst dX12_isOf_52 (by decide) ?_
  refine hh_goto (tgt := 57) dX12_isOf_53 (by decide) ?_
  exact hh_ireturn dX12_isOf_57 rfl h
set_option maxRecDepth 20000 in
theorem w_X12_isOf {d : Nat} {a1 a2 : Int} {σ : hh_S} {Q : Int → hh_S → Prop} (h : P_X12_isOf d a1 a2 σ Q) : hh_J (d + 1) hm_X12_isOf 0 [some (hh_R 128), some (hh_I a1), some (hh_I a2), none] [] σ Q := by
  unfold P_X12_isOf at h
  refine hh_aload_n dX12_isOf_0 rfl ?_
  refine hh_iload_n dX12_isOf_1 rfl ?_
  refine hh_cV1 dX12_isOf_2 lk_X12_82 mo_X12_isMatter rc_128 (Nat.le_of_ble_eq_true rfl) h (fun r2 σ2 h => ?_)
  refine hh_if_eq (tgt := 17) dX12_isOf_5 (by decide) (fun c => ?_) (fun c => ?_)
  · replace h := h.1 c
    refine hh_ldc (n := -1000000001) dX12_isOf_17 kc_X12_72 (by decide) ?_
    exact hh_ireturn dX12_isOf_19 rfl h
  · replace h := h.2 c
    refine hh_iload_n dX12_isOf_8 rfl ?_
    refine hh_iconst dX12_isOf_9 (by decide) ?_
    refine hh_iconst dX12_isOf_10 (by decide) ?_
    refine hh_cS3 dX12_isOf_11 lk_X12_68 mo_X12_in (Nat.le_of_ble_eq_true rfl) h (fun r11 σ11 h => ?_)
    refine hh_if_ne (tgt := 20) dX12_isOf_14 (by decide) (fun c => ?_) (fun c => ?_)
    · replace h := h.1 c
      obtain ⟨⟨q1, q2, q3⟩, h⟩ := h
      refine hh_aload_n dX12_isOf_20 rfl ?_
      refine hh_getR dX12_isOf_21 kf_X12_7 rf_128_0 ?_
      refine hh_bipush dX12_isOf_24 (by decide) ?_
      refine hh_bipush dX12_isOf_26 (by decide) ?_
      refine hh_iload_n dX12_isOf_28 rfl ?_
      refine hh_imul dX12_isOf_29 q1 ?_
      refine hh_iadd dX12_isOf_30 q2 ?_
      refine hh_iald dX12_isOf_31 ra_129 q3 rfl ?_
      refine hh_istore_n dX12_isOf_32 (by decide) rfl ?_
      refine hh_iload_n dX12_isOf_33 rfl ?_
      refine hh_if_eq (tgt := 52) dX12_isOf_34 (by decide) (fun c => ?_) (fun c => ?_)
      · replace h := h.1 c
        exact hh_forget [false, false, false, false] (w_X12_isOf_52 _ h)
      · replace h := h.2 c
        refine hh_iload_n dX12_isOf_37 rfl ?_
        refine hh_iload_n dX12_isOf_38 rfl ?_
        refine hh_icmp_eq (tgt := 52) dX12_isOf_39 (by decide) (fun c => ?_) (fun c => ?_)
        · replace h := h.1 c
          exact hh_forget [false, false, false, false] (w_X12_isOf_52 _ h)
        · replace h := h.2 c
          refine hh_iload_n dX12_isOf_42 rfl ?_
          refine hh_iconst dX12_isOf_43 (by decide) ?_
          refine hh_icmp_ne (tgt := 56) dX12_isOf_44 (by decide) (fun c => ?_) (fun c => ?_)
          · replace h := h.1 c
            refine hh_iconst dX12_isOf_56 (by decide) ?_
            exact hh_ireturn dX12_isOf_57 rfl h
          · replace h := h.2 c
            refine hh_iload_n dX12_isOf_47 rfl ?_
            refine hh_iconst dX12_isOf_48 (by decide) ?_
            refine hh_icmp_ne (tgt := 56) dX12_isOf_49 (by decide) (fun c => ?_) (fun c => ?_)
            · replace h := h.1 c
              refine hh_iconst dX12_isOf_56 (by decide) ?_
              exact hh_ireturn dX12_isOf_57 rfl h
            · replace h := h.2 c
              exact hh_forget [false, false, false, false] (w_X12_isOf_52 _ h)
    · replace h := h.2 c
      refine hh_ldc (n := -1000000001) dX12_isOf_17 kc_X12_72 (by decide) ?_
      exact hh_ireturn dX12_isOf_19 rfl h
theorem wp_X12_isOf {d : Nat} (a1 a2 : Int) {σ : hh_S} {Q : Int → hh_S → Prop} (h : hh_cs σ → hh_can a1 → hh_can a2 → P_X12_isOf d a1 a2 σ Q) : hh_Sp (d + 1) hm_X12_isOf [hh_R 128, hh_I a1, hh_I a2] σ Q :=
  hh_entry rfl (Nat.le_of_ble_eq_true rfl) rfl (fun hs hc => w_X12_isOf (h hs (hc _ (List.mem_of_getElem? (i := 1) rfl)) (hc _ (List.mem_of_getElem? (i := 2) rfl))))
def B_X12_isBilled_41 (d : Nat) (Q : Int → hh_S → Prop) (k4 : Int → Int → Int → hh_S → Prop) (x1 x3 s0 : Int) (σ : hh_S) : Prop :=
  ((-2147483648 ≤ x3 + 1 ∧ x3 + 1 ≤ 2147483647)) ∧ (k4 x1 s0 (x3 + 1) σ)
def B_X12_isBilled_36 (d : Nat) (Q : Int → hh_S → Prop) (k4 : Int → Int → Int → hh_S → Prop) (x1 x3 : Int) (σ : hh_S) : Prop :=
  B_X12_isBilled_41 d Q k4 x1 x3 1 σ
def B_X12_isBilled_4 (d : Nat) (Q : Int → hh_S → Prop) (k4 : Int → Int → Int → hh_S → Prop) (x1 x2 x3 : Int) (σ : hh_S) : Prop :=
  (σ 129 10 ≤ x3 → ((x2 = 0 ∨ x2 = 1)) ∧ (Q x2 σ)) ∧ (¬ σ 129 10 ≤ x3 → (¬ x2 = 0 → B_X12_isBilled_36 d Q k4 x1 x3 σ) ∧ (x2 = 0 → ((-2147483648 ≤ 12 * x3 ∧ 12 * x3 ≤ 2147483647) ∧ (-2147483648 ≤ 1630 + 12 * x3 ∧ 1630 + 12 * x3 ≤ 2147483647) ∧ (0 ≤ 1630 + 12 * x3 ∧ 1630 + 12 * x3 < 9100)) ∧ ((¬ σ 129 (1630 + 12 * x3) = x1 → B_X12_isBilled_41 d Q k4 x1 x3 0 σ) ∧ (σ 129 (1630 + 12 * x3) = x1 → B_X12_isBilled_36 d Q k4 x1 x3 σ))))
def P_X12_isBilled (d : Nat) (a1 : Int) (σ : hh_S) (Q : Int → hh_S → Prop) : Prop :=
  ∃ n, hh_lp3 (B_X12_isBilled_4 d Q) n a1 0 0 σ
set_option maxRecDepth 20000 in
theorem w_X12_isBilled_41 {d : Nat} {Q : Int → hh_S → Prop} {k4 : Int → Int → Int → hh_S → Prop} (hk4 : ∀ (x1 x2 x3 : Int) (σ : hh_S), k4 x1 x2 x3 σ → hh_J (d + 1) hm_X12_isBilled 4 [some (hh_R 128), some (hh_I x1), some (hh_I x2), some (hh_I x3)] [] σ Q) (x1 x3 s0 : Int) (σ : hh_S) (h : B_X12_isBilled_41 d Q k4 x1 x3 s0 σ) : hh_J (d + 1) hm_X12_isBilled 41 [some (hh_R 128), some (hh_I x1), none, some (hh_I x3)] [hh_I s0] σ Q := by
  unfold B_X12_isBilled_41 at h
  obtain ⟨q1, h⟩ := h
  refine hh_istore_n dX12_isBilled_41 (by decide) rfl ?_
  refine hh_iinc dX12_isBilled_42 (by decide) rfl rfl q1 ?_
  refine hh_goto (tgt := 4) dX12_isBilled_45 (by decide) ?_
  exact hh_forget [true, true, true, true] (hk4 _ _ _ _ h)
set_option maxRecDepth 20000 in
theorem w_X12_isBilled_36 {d : Nat} {Q : Int → hh_S → Prop} {k4 : Int → Int → Int → hh_S → Prop} (hk4 : ∀ (x1 x2 x3 : Int) (σ : hh_S), k4 x1 x2 x3 σ → hh_J (d + 1) hm_X12_isBilled 4 [some (hh_R 128), some (hh_I x1), some (hh_I x2), some (hh_I x3)] [] σ Q) (x1 x3 : Int) (σ : hh_S) (h : B_X12_isBilled_36 d Q k4 x1 x3 σ) : hh_J (d + 1) hm_X12_isBilled 36 [some (hh_R 128), some (hh_I x1), none, some (hh_I x3)] [] σ Q := by
  unfold B_X12_isBilled_36 at h
  refine hh_iconst dX12_isBilled_36 (by decide) ?_
  refine hh_goto (tgt := 41) dX12_isBilled_37 (by decide) ?_
  exact hh_forget [true, true, false, true] (w_X12_isBilled_41 hk4 _ _ _ _ h)
set_option maxRecDepth 20000 in
theorem w_X12_isBilled_4 {d : Nat} {Q : Int → hh_S → Prop} {k4 : Int → Int → Int → hh_S → Prop} (hk4 : ∀ (x1 x2 x3 : Int) (σ : hh_S), k4 x1 x2 x3 σ → hh_J (d + 1) hm_X12_isBilled 4 [some (hh_R 128), some (hh_I x1), some (hh_I x2), some (hh_I x3)] [] σ Q) (x1 x2 x3 : Int) (σ : hh_S) (h : B_X12_isBilled_4 d Q k4 x1 x2 x3 σ) : hh_J (d + 1) hm_X12_isBilled 4 [some (hh_R 128), some (hh_I x1), some (hh_I x2), some (hh_I x3)] [] σ Q := by
  unfold B_X12_isBilled_4 at h
  refine hh_iload_n dX12_isBilled_4 rfl ?_
  refine hh_aload_n dX12_isBilled_5 rfl ?_
  refine hh_getR dX12_isBilled_6 kf_X12_7 rf_128_0 ?_
  refine hh_bipush dX12_isBilled_9 (by decide) ?_
  refine hh_iald dX12_isBilled_11 ra_129 (by decide) rfl ?_
  refine hh_icmp_ge (tgt := 48) dX12_isBilled_12 (by decide) (fun c => ?_) (fun c => ?_)
  · replace h := h.1 c
    obtain ⟨q1, h⟩ := h
    refine hh_iload_n dX12_isBilled_48 rfl ?_
    exact hh_zreturn dX12_isBilled_49 rfl q1 h
  · replace h := h.2 c
    refine hh_iload_n dX12_isBilled_15 rfl ?_
    refine hh_if_ne (tgt := 36) dX12_isBilled_16 (by decide) (fun c => ?_) (fun c => ?_)
    · replace h := h.1 c
      exact hh_forget [true, true, false, true] (w_X12_isBilled_36 hk4 _ _ _ h)
    · replace h := h.2 c
      obtain ⟨⟨q1, q2, q3⟩, h⟩ := h
      refine hh_aload_n dX12_isBilled_19 rfl ?_
      refine hh_getR dX12_isBilled_20 kf_X12_7 rf_128_0 ?_
      refine hh_sipush dX12_isBilled_23 (by decide) ?_
      refine hh_bipush dX12_isBilled_26 (by decide) ?_
      refine hh_iload_n dX12_isBilled_28 rfl ?_
      refine hh_imul dX12_isBilled_29 q1 ?_
      refine hh_iadd dX12_isBilled_30 q2 ?_
      refine hh_iald dX12_isBilled_31 ra_129 q3 rfl ?_
      refine hh_iload_n dX12_isBilled_32 rfl ?_
      refine hh_icmp_ne (tgt := 40) dX12_isBilled_33 (by decide) (fun c => ?_) (fun c => ?_)
      · replace h := h.1 c
        refine hh_iconst dX12_isBilled_40 (by decide) ?_
        exact hh_forget [true, true, false, true] (w_X12_isBilled_41 hk4 _ _ _ _ h)
      · replace h := h.2 c
        exact hh_forget [true, true, false, true] (w_X12_isBilled_36 hk4 _ _ _ h)
theorem l_X12_isBilled_4 {d : Nat} {Q : Int → hh_S → Prop} : ∀ (n : Nat) (x1 x2 x3 : Int) (σ : hh_S), hh_lp3 (B_X12_isBilled_4 d Q) n x1 x2 x3 σ → hh_J (d + 1) hm_X12_isBilled 4 [some (hh_R 128), some (hh_I x1), some (hh_I x2), some (hh_I x3)] [] σ Q := by
  intro n
  induction n with
  | zero => intro _ _ _ _ h; exact h.elim
  | succ n ih => intro x1 x2 x3 σ h; exact w_X12_isBilled_4 ih x1 x2 x3 σ h
set_option maxRecDepth 20000 in
theorem w_X12_isBilled {d : Nat} {a1 : Int} {σ : hh_S} {Q : Int → hh_S → Prop} (h : P_X12_isBilled d a1 σ Q) : hh_J (d + 1) hm_X12_isBilled 0 [some (hh_R 128), some (hh_I a1), none, none] [] σ Q := by
  unfold P_X12_isBilled at h
  refine hh_iconst dX12_isBilled_0 (by decide) ?_
  refine hh_istore_n dX12_isBilled_1 (by decide) rfl ?_
  refine hh_iconst dX12_isBilled_2 (by decide) ?_
  refine hh_istore_n dX12_isBilled_3 (by decide) rfl ?_
  obtain ⟨n, h⟩ := h
  exact hh_forget [true, true, true, true] (l_X12_isBilled_4 n _ _ _ _ h)
theorem wp_X12_isBilled {d : Nat} (a1 : Int) {σ : hh_S} {Q : Int → hh_S → Prop} (h : hh_cs σ → hh_can a1 → P_X12_isBilled d a1 σ Q) : hh_Sp (d + 1) hm_X12_isBilled [hh_R 128, hh_I a1] σ Q :=
  hh_entry rfl (Nat.le_of_ble_eq_true rfl) rfl (fun hs hc => w_X12_isBilled (h hs (hc _ (List.mem_of_getElem? (i := 1) rfl))))
def P_X12_isShare (d : Nat) (a1 : Int) (σ : hh_S) (Q : Int → hh_S → Prop) : Prop :=
  (a1 < 0 → Q 0 σ) ∧ (¬ a1 < 0 → (0 ≤ a1) ∧ (hh_Sp d hm_X12_isClient [hh_R 128, hh_I (a1 / 100)] σ (fun r9 σ9 => (r9 = 0 → Q 0 σ9) ∧ (¬ r9 = 0 → (0 ≤ a1) ∧ ((a1 % 100 ≤ 0 → Q 0 σ9) ∧ (¬ a1 % 100 ≤ 0 → Q 1 σ9))))))
set_option maxRecDepth 20000 in
theorem w_X12_isShare {d : Nat} {a1 : Int} {σ : hh_S} {Q : Int → hh_S → Prop} (h : P_X12_isShare d a1 σ Q) : hh_J (d + 1) hm_X12_isShare 0 [some (hh_R 128), some (hh_I a1)] [] σ Q := by
  unfold P_X12_isShare at h
  refine hh_iload_n dX12_isShare_0 rfl ?_
  refine hh_if_lt (tgt := 26) dX12_isShare_1 (by decide) (fun c => ?_) (fun c => ?_)
  · replace h := h.1 c
    refine hh_iconst dX12_isShare_26 (by decide) ?_
    exact hh_zreturn dX12_isShare_27 rfl (by decide) h
  · replace h := h.2 c
    obtain ⟨q1, h⟩ := h
    refine hh_aload_n dX12_isShare_4 rfl ?_
    refine hh_iload_n dX12_isShare_5 rfl ?_
    refine hh_bipush dX12_isShare_6 (by decide) ?_
    refine hh_idiv dX12_isShare_8 q1 (by decide) ?_
    refine hh_cV1 dX12_isShare_9 lk_X12_78 mo_X12_isClient rc_128 (Nat.le_of_ble_eq_true rfl) h (fun r9 σ9 h => ?_)
    refine hh_if_eq (tgt := 26) dX12_isShare_12 (by decide) (fun c => ?_) (fun c => ?_)
    · replace h := h.1 c
      refine hh_iconst dX12_isShare_26 (by decide) ?_
      exact hh_zreturn dX12_isShare_27 rfl (by decide) h
    · replace h := h.2 c
      obtain ⟨q1, h⟩ := h
      refine hh_iload_n dX12_isShare_15 rfl ?_
      refine hh_bipush dX12_isShare_16 (by decide) ?_
      refine hh_irem dX12_isShare_18 q1 (by decide) ?_
      refine hh_if_le (tgt := 26) dX12_isShare_19 (by decide) (fun c => ?_) (fun c => ?_)
      · replace h := h.1 c
        refine hh_iconst dX12_isShare_26 (by decide) ?_
        exact hh_zreturn dX12_isShare_27 rfl (by decide) h
      · replace h := h.2 c
        refine hh_iconst dX12_isShare_22 (by decide) ?_
        refine hh_goto (tgt := 27) dX12_isShare_23 (by decide) ?_
        exact hh_zreturn dX12_isShare_27 rfl (by decide) h
theorem wp_X12_isShare {d : Nat} (a1 : Int) {σ : hh_S} {Q : Int → hh_S → Prop} (h : hh_cs σ → hh_can a1 → P_X12_isShare d a1 σ Q) : hh_Sp (d + 1) hm_X12_isShare [hh_R 128, hh_I a1] σ Q :=
  hh_entry rfl (Nat.le_of_ble_eq_true rfl) rfl (fun hs hc => w_X12_isShare (h hs (hc _ (List.mem_of_getElem? (i := 1) rfl))))
def B_X12_payers_257 (d : Nat) (Q : Int → hh_S → Prop) (x6 : Int) (σ : hh_S) : Prop :=
  ((-2147483648 ≤ x6 + 10 ∧ x6 + 10 ≤ 2147483647) ∧ (0 ≤ x6 + 10 ∧ x6 + 10 < 9100)) ∧ (Q (σ 129 (x6 + 10)) σ)
def B_X12_payers_213 (d : Nat) (Q : Int → hh_S → Prop) (k177 : Int → Int → Int → Int → Int → hh_S → Prop) (x2 x3 x4 x6 x7 s0 : Int) (σ : hh_S) : Prop :=
  ((-2147483648 ≤ x6 + 11 ∧ x6 + 11 ≤ 2147483647) ∧ (-2147483648 ≤ x6 + 11 + x7 ∧ x6 + 11 + x7 ≤ 2147483647) ∧ 0 ≤ s0 ∧ (0 ≤ x6 + 11 + x7 ∧ x6 + 11 + x7 < 9100) ∧ (-2147483648 ≤ x6 + 14 ∧ x6 + 14 ≤ 2147483647) ∧ (-2147483648 ≤ x6 + 14 + x7 ∧ x6 + 14 + x7 ≤ 2147483647) ∧ (0 ≤ x6 + 14 + x7 ∧ x6 + 14 + x7 < 9100) ∧ (-2147483648 ≤ x7 + 1 ∧ x7 + 1 ≤ 2147483647)) ∧ (k177 x2 x3 x4 x6 (x7 + 1) (hh_up (hh_up σ 129 (x6 + 11 + x7) (s0 / 100)) 129 (x6 + 14 + x7) (s0 % 100)))
def B_X12_payers_177 (d : Nat) (Q : Int → hh_S → Prop) (k177 : Int → Int → Int → Int → Int → hh_S → Prop) (x2 x3 x4 x6 x7 : Int) (σ : hh_S) : Prop :=
  ((-2147483648 ≤ x6 + 10 ∧ x6 + 10 ≤ 2147483647) ∧ (0 ≤ x6 + 10 ∧ x6 + 10 < 9100)) ∧ ((σ 129 (x6 + 10) ≤ x7 → B_X12_payers_257 d Q x6 σ) ∧ (¬ σ 129 (x6 + 10) ≤ x7 → (¬ x7 = 0 → (¬ x7 = 1 → B_X12_payers_213 d Q k177 x2 x3 x4 x6 x7 x4 σ) ∧ (x7 = 1 → B_X12_payers_213 d Q k177 x2 x3 x4 x6 x7 x3 σ)) ∧ (x7 = 0 → B_X12_payers_213 d Q k177 x2 x3 x4 x6 x7 x2 σ)))
def B_X12_payers_173 (d : Nat) (Q : Int → hh_S → Prop) (x2 x3 x4 x6 s1 s2 : Int) (σ : hh_S) : Prop :=
  ((0 ≤ s1 ∧ s1 < 9100)) ∧ (∃ n, hh_lp5 (B_X12_payers_177 d Q) n x2 x3 x4 x6 0 (hh_up σ 129 s1 s2))
def B_X12_payers_122 (d : Nat) (Q : Int → hh_S → Prop) (x1 x2 x3 x4 : Int) (σ : hh_S) : Prop :=
  hh_Sp d hm_X12_isBilled [hh_R 128, hh_I x1] σ (fun r124 σ124 => (r124 = 0 → ((-2147483648 ≤ 20 * x1 ∧ 20 * x1 ≤ 2147483647) ∧ (-2147483648 ≤ 50 + 20 * x1 ∧ 50 + 20 * x1 ≤ 2147483647) ∧ (-2147483648 ≤ 50 + 20 * x1 + 10 ∧ 50 + 20 * x1 + 10 ≤ 2147483647)) ∧ ((¬ x3 = (-1000000005) → (¬ x4 = (-1000000005) → B_X12_payers_173 d Q x2 x3 x4 (50 + 20 * x1) (50 + 20 * x1 + 10) 3 σ124) ∧ (x4 = (-1000000005) → B_X12_payers_173 d Q x2 x3 x4 (50 + 20 * x1) (50 + 20 * x1 + 10) 2 σ124)) ∧ (x3 = (-1000000005) → B_X12_payers_173 d Q x2 x3 x4 (50 + 20 * x1) (50 + 20 * x1 + 10) 1 σ124))) ∧ (¬ r124 = 0 → Q (-1000000002) σ124))
def B_X12_payers_88 (d : Nat) (Q : Int → hh_S → Prop) (x1 x2 x3 x4 : Int) (σ : hh_S) : Prop :=
  (x4 = (-1000000005) → B_X12_payers_122 d Q x1 x2 x3 x4 σ) ∧ (¬ x4 = (-1000000005) → (0 ≤ x2 ∧ 0 ≤ x4) ∧ ((x2 / 100 = x4 / 100 → Q (-1000000001) σ) ∧ (¬ x2 / 100 = x4 / 100 → (0 ≤ x3 ∧ 0 ≤ x4) ∧ ((¬ x3 / 100 = x4 / 100 → B_X12_payers_122 d Q x1 x2 x3 x4 σ) ∧ (x3 / 100 = x4 / 100 → Q (-1000000001) σ)))))
def B_X12_payers_64 (d : Nat) (Q : Int → hh_S → Prop) (x1 x2 x3 x4 s0 : Int) (σ : hh_S) : Prop :=
  (s0 = 0 → Q (-1000000001) σ) ∧ (¬ s0 = 0 → (x3 = (-1000000005) → B_X12_payers_88 d Q x1 x2 x3 x4 σ) ∧ (¬ x3 = (-1000000005) → (0 ≤ x2 ∧ 0 ≤ x3) ∧ ((x2 / 100 = x3 / 100 → Q (-1000000001) σ) ∧ (¬ x2 / 100 = x3 / 100 → B_X12_payers_88 d Q x1 x2 x3 x4 σ))))
def B_X12_payers_63 (d : Nat) (Q : Int → hh_S → Prop) (x1 x2 x3 x4 : Int) (σ : hh_S) : Prop :=
  B_X12_payers_64 d Q x1 x2 x3 x4 0 σ
def B_X12_payers_59 (d : Nat) (Q : Int → hh_S → Prop) (x1 x2 x3 x4 : Int) (σ : hh_S) : Prop :=
  B_X12_payers_64 d Q x1 x2 x3 x4 1 σ
def B_X12_payers_46 (d : Nat) (Q : Int → hh_S → Prop) (x1 x2 x3 x4 : Int) (σ : hh_S) : Prop :=
  (¬ x3 = (-1000000005) → B_X12_payers_59 d Q x1 x2 x3 x4 σ) ∧ (x3 = (-1000000005) → (¬ x4 = (-1000000005) → B_X12_payers_63 d Q x1 x2 x3 x4 σ) ∧ (x4 = (-1000000005) → B_X12_payers_59 d Q x1 x2 x3 x4 σ))
def B_X12_payers_30 (d : Nat) (Q : Int → hh_S → Prop) (x1 x2 x3 x4 : Int) (σ : hh_S) : Prop :=
  (x4 = (-1000000005) → B_X12_payers_46 d Q x1 x2 x3 x4 σ) ∧ (¬ x4 = (-1000000005) → hh_Sp d hm_X12_isShare [hh_R 128, hh_I x4] σ (fun r40 σ40 => (r40 = 0 → B_X12_payers_63 d Q x1 x2 x3 x4 σ40) ∧ (¬ r40 = 0 → B_X12_payers_46 d Q x1 x2 x3 x4 σ40)))
def P_X12_payers (d : Nat) (a1 a2 a3 a4 : Int) (σ : hh_S) (Q : Int → hh_S → Prop) : Prop :=
  hh_Sp d hm_X12_isMatter [hh_R 128, hh_I a1] σ (fun r2 σ2 => (r2 = 0 → B_X12_payers_63 d Q a1 a2 a3 a4 σ2) ∧ (¬ r2 = 0 → hh_Sp d hm_X12_isShare [hh_R 128, hh_I a2] σ2 (fun r10 σ10 => (r10 = 0 → B_X12_payers_63 d Q a1 a2 a3 a4 σ10) ∧ (¬ r10 = 0 → (a3 = (-1000000005) → B_X12_payers_30 d Q a1 a2 a3 a4 σ10) ∧ (¬ a3 = (-1000000005) → hh_Sp d hm_X12_isShare [hh_R 128, hh_I a3] σ10 (fun r24 σ24 => (r24 = 0 → B_X12_payers_63 d Q a1 a2 a3 a4 σ24) ∧ (¬ r24 = 0 → B_X12_payers_30 d Q a1 a2 a3 a4 σ24)))))))
set_option maxRecDepth 20000 in
theorem w_X12_payers_257 {d : Nat} {Q : Int → hh_S → Prop} (x6 : Int) (σ : hh_S) (h : B_X12_payers_257 d Q x6 σ) : hh_J (d + 1) hm_X12_payers 257 [some (hh_R 128), none, none, none, none, none, some (hh_I x6), none, none] [] σ Q := by
  unfold B_X12_payers_257 at h
  obtain ⟨⟨q1, q2⟩, h⟩ := h
  refine hh_aload_n dX12_payers_257 rfl ?_
  refine hh_getR dX12_payers_258 kf_X12_7 rf_128_0 ?_
  refine hh_iload dX12_payers_261 rfl ?_
  refine hh_bipush dX12_payers_263 (by decide) ?_
  refine hh_iadd dX12_payers_265 q1 ?_
  refine hh_iald dX12_payers_266 ra_129 q2 rfl ?_
  exact hh_ireturn dX12_payers_267 rfl h
set_option maxRecDepth 20000 in
theorem w_X12_payers_213 {d : Nat} {Q : Int → hh_S → Prop} {k177 : Int → Int → Int → Int → Int → hh_S → Prop} (hk177 : ∀ (x2 x3 x4 x6 x7 : Int) (σ : hh_S), k177 x2 x3 x4 x6 x7 σ → hh_J (d + 1) hm_X12_payers 177 [some (hh_R 128), none, some (hh_I x2), some (hh_I x3), some (hh_I x4), none, some (hh_I x6), some (hh_I x7), none] [] σ Q) (x2 x3 x4 x6 x7 s0 : Int) (σ : hh_S) (h : B_X12_payers_213 d Q k177 x2 x3 x4 x6 x7 s0 σ) : hh_J (d + 1) hm_X12_payers 213 [some (hh_R 128), none, some (hh_I x2), some (hh_I x3), some (hh_I x4), none, some (hh_I x6), some (hh_I x7), none] [hh_I s0] σ Q := by
  unfold B_X12_payers_213 at h
  obtain ⟨⟨q1, q2, q3, q4, q5, q6, q7, q8⟩, h⟩ := h
  refine hh_istore dX12_payers_213 (by decide) rfl ?_
  refine hh_aload_n dX12_payers_215 rfl ?_
  refine hh_getR dX12_payers_216 kf_X12_7 rf_128_0 ?_
  refine hh_iload dX12_payers_219 rfl ?_
  refine hh_bipush dX12_payers_221 (by decide) ?_
  refine hh_iadd dX12_payers_223 q1 ?_
  refine hh_iload dX12_payers_224 rfl ?_
  refine hh_iadd dX12_payers_226 q2 ?_
  refine hh_iload dX12_payers_227 rfl ?_
  refine hh_bipush dX12_payers_229 (by decide) ?_
  refine hh_idiv dX12_payers_231 q3 (by decide) ?_
  refine hh_iast dX12_payers_232 ra_129 q4 ?_
  refine hh_aload_n dX12_payers_233 rfl ?_
  refine hh_getR dX12_payers_234 kf_X12_7 rf_128_0 ?_
  refine hh_iload dX12_payers_237 rfl ?_
  refine hh_bipush dX12_payers_239 (by decide) ?_
  refine hh_iadd dX12_payers_241 q5 ?_
  refine hh_iload dX12_payers_242 rfl ?_
  refine hh_iadd dX12_payers_244 q6 ?_
  refine hh_iload dX12_payers_245 rfl ?_
  refine hh_bipush dX12_payers_247 (by decide) ?_
  refine hh_irem dX12_payers_249 q3 (by decide) ?_
  refine hh_iast dX12_payers_250 ra_129 q7 ?_
  refine hh_iinc dX12_payers_251 (by decide) rfl rfl q8 ?_
  refine hh_goto (tgt := 177) dX12_payers_254 (by decide) ?_
  exact hh_forget [true, false, true, true, true, false, true, true, false] (hk177 _ _ _ _ _ _ h)
set_option maxRecDepth 20000 in
theorem w_X12_payers_177 {d : Nat} {Q : Int → hh_S → Prop} {k177 : Int → Int → Int → Int → Int → hh_S → Prop} (hk177 : ∀ (x2 x3 x4 x6 x7 : Int) (σ : hh_S), k177 x2 x3 x4 x6 x7 σ → hh_J (d + 1) hm_X12_payers 177 [some (hh_R 128), none, some (hh_I x2), some (hh_I x3), some (hh_I x4), none, some (hh_I x6), some (hh_I x7), none] [] σ Q) (x2 x3 x4 x6 x7 : Int) (σ : hh_S) (h : B_X12_payers_177 d Q k177 x2 x3 x4 x6 x7 σ) : hh_J (d + 1) hm_X12_payers 177 [some (hh_R 128), none, some (hh_I x2), some (hh_I x3), some (hh_I x4), none, some (hh_I x6), some (hh_I x7), none] [] σ Q := by
  unfold B_X12_payers_177 at h
  obtain ⟨⟨q1, q2⟩, h⟩ := h
  refine hh_iload dX12_payers_177 rfl ?_
  refine hh_aload_n dX12_payers_179 rfl ?_
  refine hh_getR dX12_payers_180 kf_X12_7 rf_128_0 ?_
  refine hh_iload dX12_payers_183 rfl ?_
  refine hh_bipush dX12_payers_185 (by decide) ?_
  refine hh_iadd dX12_payers_187 q1 ?_
  refine hh_iald dX12_payers_188 ra_129 q2 rfl ?_
  refine hh_icmp_ge (tgt := 257) dX12_payers_189 (by decide) (fun c => ?_) (fun c => ?_)
  · replace h := h.1 c
    exact hh_forget [true, false, false, false, false, false, true, false, false] (w_X12_payers_257 _ _ h)
  · replace h := h.2 c
    refine hh_iload dX12_payers_192 rfl ?_
    refine hh_if_ne (tgt := 201) dX12_payers_194 (by decide) (fun c => ?_) (fun c => ?_)
    · replace h := h.1 c
      refine hh_iload dX12_payers_201 rfl ?_
      refine hh_iconst dX12_payers_203 (by decide) ?_
      refine hh_icmp_ne (tgt := 211) dX12_payers_204 (by decide) (fun c => ?_) (fun c => ?_)
      · replace h := h.1 c
        refine hh_iload dX12_payers_211 rfl ?_
        exact hh_forget [true, false, true, true, true, false, true, true, false] (w_X12_payers_213 hk177 _ _ _ _ _ _ _ h)
      · replace h := h.2 c
        refine hh_iload_n dX12_payers_207 rfl ?_
        refine hh_goto (tgt := 213) dX12_payers_208 (by decide) ?_
        exact hh_forget [true, false, true, true, true, false, true, true, false] (w_X12_payers_213 hk177 _ _ _ _ _ _ _ h)
    · replace h := h.2 c
      refine hh_iload_n dX12_payers_197 rfl ?_
      refine hh_goto (tgt := 213) dX12_payers_198 (by decide) ?_
      exact hh_forget [true, false, true, true, true, false, true, true, false] (w_X12_payers_213 hk177 _ _ _ _ _ _ _ h)
theorem l_X12_payers_177 {d : Nat} {Q : Int → hh_S → Prop} : ∀ (n : Nat) (x2 x3 x4 x6 x7 : Int) (σ : hh_S), hh_lp5 (B_X12_payers_177 d Q) n x2 x3 x4 x6 x7 σ → hh_J (d + 1) hm_X12_payers 177 [some (hh_R 128), none, some (hh_I x2), some (hh_I x3), some (hh_I x4), none, some (hh_I x6), some (hh_I x7), none] [] σ Q := by
  intro n
  induction n with
  | zero => intro _ _ _ _ _ _ h; exact h.elim
  | succ n ih => intro x2 x3 x4 x6 x7 σ h; exact w_X12_payers_177 ih x2 x3 x4 x6 x7 σ h
set_option maxRecDepth 20000 in
theorem w_X12_payers_173 {d : Nat} {Q : Int → hh_S → Prop} (x2 x3 x4 x6 s1 s2 : Int) (σ : hh_S) (h : B_X12_payers_173 d Q x2 x3 x4 x6 s1 s2 σ) : hh_J (d + 1) hm_X12_payers 173 [some (hh_R 128), none, some (hh_I x2), some (hh_I x3), some (hh_I x4), none, some (hh_I x6), none, none] [hh_I s2, hh_I s1, hh_R 129] σ Q := by
  unfold B_X12_payers_173 at h
  obtain ⟨q1, h⟩ := h
  refine hh_iast dX12_payers_173 ra_129 q1 ?_
  refine hh_iconst dX12_payers_174 (by decide) ?_
  refine hh_istore dX12_payers_175 (by decide) rfl ?_
  obtain ⟨n, h⟩ := h
  exact hh_forget [true, false, true, true, true, false, true, true, false] (l_X12_payers_177 n _ _ _ _ _ _ h)
set_option maxRecDepth 20000 in
theorem w_X12_payers_122 {d : Nat} {Q : Int → hh_S → Prop} (x1 x2 x3 x4 : Int) (σ : hh_S) (h : B_X12_payers_122 d Q x1 x2 x3 x4 σ) : hh_J (d + 1) hm_X12_payers 122 [some (hh_R 128), some (hh_I x1), some (hh_I x2), some (hh_I x3), some (hh_I x4), none, none, none, none] [] σ Q := by
  unfold B_X12_payers_122 at h
  refine hh_aload_n dX12_payers_122 rfl ?_
  refine hh_iload_n dX12_payers_123 rfl ?_
  refine hh_cV1 dX12_payers_124 lk_X12_88 mo_X12_isBilled rc_128 (Nat.le_of_ble_eq_true rfl) h (fun r124 σ124 h => ?_)
  refine hh_if_eq (tgt := 133) dX12_payers_127 (by decide) (fun c => ?_) (fun c => ?_)
  · replace h := h.1 c
    obtain ⟨⟨q1, q2, q3⟩, h⟩ := h
    refine hh_bipush dX12_payers_133 (by decide) ?_
    refine hh_bipush dX12_payers_135 (by decide) ?_
    refine hh_iload_n dX12_payers_137 rfl ?_
    refine hh_imul dX12_payers_138 q1 ?_
    refine hh_iadd dX12_payers_139 q2 ?_
    refine hh_istore dX12_payers_140 (by decide) rfl ?_
    refine hh_aload_n dX12_payers_142 rfl ?_
    refine hh_getR dX12_payers_143 kf_X12_7 rf_128_0 ?_
    refine hh_iload dX12_payers_146 rfl ?_
    refine hh_bipush dX12_payers_148 (by decide) ?_
    refine hh_iadd dX12_payers_150 q3 ?_
    refine hh_iload_n dX12_payers_151 rfl ?_
    refine hh_ldc (n := -1000000005) dX12_payers_152 kc_X12_67 (by decide) ?_
    refine hh_icmp_ne (tgt := 161) dX12_payers_154 (by decide) (fun c => ?_) (fun c => ?_)
    · replace h := h.1 c
      refine hh_iload dX12_payers_161 rfl ?_
      refine hh_ldc (n := -1000000005) dX12_payers_163 kc_X12_67 (by decide) ?_
      refine hh_icmp_ne (tgt := 172) dX12_payers_165 (by decide) (fun c => ?_) (fun c => ?_)
      · replace h := h.1 c
        refine hh_iconst dX12_payers_172 (by decide) ?_
        exact hh_forget [true, false, true, true, true, false, true, false, false] (w_X12_payers_173 _ _ _ _ _ _ _ h)
      · replace h := h.2 c
        refine hh_iconst dX12_payers_168 (by decide) ?_
        refine hh_goto (tgt := 173) dX12_payers_169 (by decide) ?_
        exact hh_forget [true, false, true, true, true, false, true, false, false] (w_X12_payers_173 _ _ _ _ _ _ _ h)
    · replace h := h.2 c
      refine hh_iconst dX12_payers_157 (by decide) ?_
      refine hh_goto (tgt := 173) dX12_payers_158 (by decide) ?_
      exact hh_forget [true, false, true, true, true, false, true, false, false] (w_X12_payers_173 _ _ _ _ _ _ _ h)
  · replace h := h.2 c
    refine hh_ldc (n := -1000000002) dX12_payers_130 kc_X12_91 (by decide) ?_
    exact hh_ireturn dX12_payers_132 rfl h
set_option maxRecDepth 20000 in
theorem w_X12_payers_88 {d : Nat} {Q : Int → hh_S → Prop} (x1 x2 x3 x4 : Int) (σ : hh_S) (h : B_X12_payers_88 d Q x1 x2 x3 x4 σ) : hh_J (d + 1) hm_X12_payers 88 [some (hh_R 128), some (hh_I x1), some (hh_I x2), some (hh_I x3), some (hh_I x4), none, none, none, none] [] σ Q := by
  unfold B_X12_payers_88 at h
  refine hh_iload dX12_payers_88 rfl ?_
  refine hh_ldc (n := -1000000005) dX12_payers_90 kc_X12_67 (by decide) ?_
  refine hh_icmp_eq (tgt := 122) dX12_payers_92 (by decide) (fun c => ?_) (fun c => ?_)
  · replace h := h.1 c
    exact hh_forget [true, true, true, true, true, false, false, false, false] (w_X12_payers_122 _ _ _ _ _ h)
  · replace h := h.2 c
    obtain ⟨⟨q1, q2⟩, h⟩ := h
    refine hh_iload_n dX12_payers_95 rfl ?_
    refine hh_bipush dX12_payers_96 (by decide) ?_
    refine hh_idiv dX12_payers_98 q1 (by decide) ?_
    refine hh_iload dX12_payers_99 rfl ?_
    refine hh_bipush dX12_payers_101 (by decide) ?_
    refine hh_idiv dX12_payers_103 q2 (by decide) ?_
    refine hh_icmp_eq (tgt := 119) dX12_payers_104 (by decide) (fun c => ?_) (fun c => ?_)
    · replace h := h.1 c
      refine hh_ldc (n := -1000000001) dX12_payers_119 kc_X12_72 (by decide) ?_
      exact hh_ireturn dX12_payers_121 rfl h
    · replace h := h.2 c
      obtain ⟨⟨q1, q2⟩, h⟩ := h
      refine hh_iload_n dX12_payers_107 rfl ?_
      refine hh_bipush dX12_payers_108 (by decide) ?_
      refine hh_idiv dX12_payers_110 q1 (by decide) ?_
      refine hh_iload dX12_payers_111 rfl ?_
      refine hh_bipush dX12_payers_113 (by decide) ?_
      refine hh_idiv dX12_payers_115 q2 (by decide) ?_
      refine hh_icmp_ne (tgt := 122) dX12_payers_116 (by decide) (fun c => ?_) (fun c => ?_)
      · replace h := h.1 c
        exact hh_forget [true, true, true, true, true, false, false, false, false] (w_X12_payers_122 _ _ _ _ _ h)
      · replace h := h.2 c
        refine hh_ldc (n := -1000000001) dX12_payers_119 kc_X12_72 (by decide) ?_
        exact hh_ireturn dX12_payers_121 rfl h
set_option maxRecDepth 20000 in
theorem w_X12_payers_64 {d : Nat} {Q : Int → hh_S → Prop} (x1 x2 x3 x4 s0 : Int) (σ : hh_S) (h : B_X12_payers_64 d Q x1 x2 x3 x4 s0 σ) : hh_J (d + 1) hm_X12_payers 64 [some (hh_R 128), some (hh_I x1), some (hh_I x2), some (hh_I x3), some (hh_I x4), none, none, none, none] [hh_I s0] σ Q := by
  unfold B_X12_payers_64 at h
  refine hh_istore dX12_payers_64 (by decide) rfl ?_
  refine hh_iload dX12_payers_66 rfl ?_
  refine hh_if_eq (tgt := 119) dX12_payers_68 (by decide) (fun c => ?_) (fun c => ?_)
  · replace h := h.1 c
    refine hh_ldc (n := -1000000001) dX12_payers_119 kc_X12_72 (by decide) ?_
    exact hh_ireturn dX12_payers_121 rfl h
  · replace h := h.2 c
    refine hh_iload_n dX12_payers_71 rfl ?_
    refine hh_ldc (n := -1000000005) dX12_payers_72 kc_X12_67 (by decide) ?_
    refine hh_icmp_eq (tgt := 88) dX12_payers_74 (by decide) (fun c => ?_) (fun c => ?_)
    · replace h := h.1 c
      exact hh_forget [true, true, true, true, true, false, false, false, false] (w_X12_payers_88 _ _ _ _ _ h)
    · replace h := h.2 c
      obtain ⟨⟨q1, q2⟩, h⟩ := h
      refine hh_iload_n dX12_payers_77 rfl ?_
      refine hh_bipush dX12_payers_78 (by decide) ?_
      refine hh_idiv dX12_payers_80 q1 (by decide) ?_
      refine hh_iload_n dX12_payers_81 rfl ?_
      refine hh_bipush dX12_payers_82 (by decide) ?_
      refine hh_idiv dX12_payers_84 q2 (by decide) ?_
      refine hh_icmp_eq (tgt := 119) dX12_payers_85 (by decide) (fun c => ?_) (fun c => ?_)
      · replace h := h.1 c
        refine hh_ldc (n := -1000000001) dX12_payers_119 kc_X12_72 (by decide) ?_
        exact hh_ireturn dX12_payers_121 rfl h
      · replace h := h.2 c
        exact hh_forget [true, true, true, true, true, false, false, false, false] (w_X12_payers_88 _ _ _ _ _ h)
set_option maxRecDepth 20000 in
theorem w_X12_payers_63 {d : Nat} {Q : Int → hh_S → Prop} (x1 x2 x3 x4 : Int) (σ : hh_S) (h : B_X12_payers_63 d Q x1 x2 x3 x4 σ) : hh_J (d + 1) hm_X12_payers 63 [some (hh_R 128), some (hh_I x1), some (hh_I x2), some (hh_I x3), some (hh_I x4), none, none, none, none] [] σ Q := by
  unfold B_X12_payers_63 at h
  refine hh_iconst dX12_payers_63 (by decide) ?_
  exact hh_forget [true, true, true, true, true, false, false, false, false] (w_X12_payers_64 _ _ _ _ _ _ h)
set_option maxRecDepth 20000 in
theorem w_X12_payers_59 {d : Nat} {Q : Int → hh_S → Prop} (x1 x2 x3 x4 : Int) (σ : hh_S) (h : B_X12_payers_59 d Q x1 x2 x3 x4 σ) : hh_J (d + 1) hm_X12_payers 59 [some (hh_R 128), some (hh_I x1), some (hh_I x2), some (hh_I x3), some (hh_I x4), none, none, none, none] [] σ Q := by
  unfold B_X12_payers_59 at h
  refine hh_iconst dX12_payers_59 (by decide) ?_
  refine hh_goto (tgt := 64) dX12_payers_60 (by decide) ?_
  exact hh_forget [true, true, true, true, true, false, false, false, false] (w_X12_payers_64 _ _ _ _ _ _ h)
set_option maxRecDepth 20000 in
theorem w_X12_payers_46 {d : Nat} {Q : Int → hh_S → Prop} (x1 x2 x3 x4 : Int) (σ : hh_S) (h : B_X12_payers_46 d Q x1 x2 x3 x4 σ) : hh_J (d + 1) hm_X12_payers 46 [some (hh_R 128), some (hh_I x1), some (hh_I x2), some (hh_I x3), some (hh_I x4), none, none, none, none] [] σ Q := by
  unfold B_X12_payers_46 at h
  refine hh_iload_n dX12_payers_46 rfl ?_
  refine hh_ldc (n := -1000000005) dX12_payers_47 kc_X12_67 (by decide) ?_
  refine hh_icmp_ne (tgt := 59) dX12_payers_49 (by decide) (fun c => ?_) (fun c => ?_)
  · replace h := h.1 c
    exact hh_forget [true, true, true, true, true, false, false, false, false] (w_X12_payers_59 _ _ _ _ _ h)
  · replace h := h.2 c
    refine hh_iload dX12_payers_52 rfl ?_
    refine hh_ldc (n := -1000000005) dX12_payers_54 kc_X12_67 (by decide) ?_
    refine hh_icmp_ne (tgt := 63) dX12_payers_56 (by decide) (fun c => ?_) (fun c => ?_)
    · replace h := h.1 c
      exact hh_forget [true, true, true, true, true, false, false, false, false] (w_X12_payers_63 _ _ _ _ _ h)
    · replace h := h.2 c
      exact hh_forget [true, true, true, true, true, false, false, false, false] (w_X12_payers_59 _ _ _ _ _ h)
set_option maxRecDepth 20000 in
theorem w_X12_payers_30 {d : Nat} {Q : Int → hh_S → Prop} (x1 x2 x3 x4 : Int) (σ : hh_S) (h : B_X12_payers_30 d Q x1 x2 x3 x4 σ) : hh_J (d + 1) hm_X12_payers 30 [some (hh_R 128), some (hh_I x1), some (hh_I x2), some (hh_I x3), some (hh_I x4), none, none, none, none] [] σ Q := by
  unfold B_X12_payers_30 at h
  refine hh_iload dX12_payers_30 rfl ?_
  refine hh_ldc (n := -1000000005) dX12_payers_32 kc_X12_67 (by decide) ?_
  refine hh_icmp_eq (tgt := 46) dX12_payers_34 (by decide) (fun c => ?_) (fun c => ?_)
  · replace h := h.1 c
    exact hh_forget [true, true, true, true, true, false, false, false, false] (w_X12_payers_46 _ _ _ _ _ h)
  · replace h := h.2 c
    refine hh_aload_n dX12_payers_37 rfl ?_
    refine hh_iload dX12_payers_38 rfl ?_
    refine hh_cV1 dX12_payers_40 lk_X12_85 mo_X12_isShare rc_128 (Nat.le_of_ble_eq_true rfl) h (fun r40 σ40 h => ?_)
    refine hh_if_eq (tgt := 63) dX12_payers_43 (by decide) (fun c => ?_) (fun c => ?_)
    · replace h := h.1 c
      exact hh_forget [true, true, true, true, true, false, false, false, false] (w_X12_payers_63 _ _ _ _ _ h)
    · replace h := h.2 c
      exact hh_forget [true, true, true, true, true, false, false, false, false] (w_X12_payers_46 _ _ _ _ _ h)
set_option maxRecDepth 20000 in
theorem w_X12_payers {d : Nat} {a1 a2 a3 a4 : Int} {σ : hh_S} {Q : Int → hh_S → Prop} (h : P_X12_payers d a1 a2 a3 a4 σ Q) : hh_J (d + 1) hm_X12_payers 0 [some (hh_R 128), some (hh_I a1), some (hh_I a2), some (hh_I a3), some (hh_I a4), none, none, none, none] [] σ Q := by
  unfold P_X12_payers at h
  refine hh_aload_n dX12_payers_0 rfl ?_
  refine hh_iload_n dX12_payers_1 rfl ?_
  refine hh_cV1 dX12_payers_2 lk_X12_82 mo_X12_isMatter rc_128 (Nat.le_of_ble_eq_true rfl) h (fun r2 σ2 h => ?_)
  refine hh_if_eq (tgt := 63) dX12_payers_5 (by decide) (fun c => ?_) (fun c => ?_)
  · replace h := h.1 c
    exact hh_forget [true, true, true, true, true, false, false, false, false] (w_X12_payers_63 _ _ _ _ _ h)
  · replace h := h.2 c
    refine hh_aload_n dX12_payers_8 rfl ?_
    refine hh_iload_n dX12_payers_9 rfl ?_
    refine hh_cV1 dX12_payers_10 lk_X12_85 mo_X12_isShare rc_128 (Nat.le_of_ble_eq_true rfl) h (fun r10 σ10 h => ?_)
    refine hh_if_eq (tgt := 63) dX12_payers_13 (by decide) (fun c => ?_) (fun c => ?_)
    · replace h := h.1 c
      exact hh_forget [true, true, true, true, true, false, false, false, false] (w_X12_payers_63 _ _ _ _ _ h)
    · replace h := h.2 c
      refine hh_iload_n dX12_payers_16 rfl ?_
      refine hh_ldc (n := -1000000005) dX12_payers_17 kc_X12_67 (by decide) ?_
      refine hh_icmp_eq (tgt := 30) dX12_payers_19 (by decide) (fun c => ?_) (fun c => ?_)
      · replace h := h.1 c
        exact hh_forget [true, true, true, true, true, false, false, false, false] (w_X12_payers_30 _ _ _ _ _ h)
      · replace h := h.2 c
        refine hh_aload_n dX12_payers_22 rfl ?_
        refine hh_iload_n dX12_payers_23 rfl ?_
        refine hh_cV1 dX12_payers_24 lk_X12_85 mo_X12_isShare rc_128 (Nat.le_of_ble_eq_true rfl) h (fun r24 σ24 h => ?_)
        refine hh_if_eq (tgt := 63) dX12_payers_27 (by decide) (fun c => ?_) (fun c => ?_)
        · replace h := h.1 c
          exact hh_forget [true, true, true, true, true, false, false, false, false] (w_X12_payers_63 _ _ _ _ _ h)
        · replace h := h.2 c
          exact hh_forget [true, true, true, true, true, false, false, false, false] (w_X12_payers_30 _ _ _ _ _ h)
theorem wp_X12_payers {d : Nat} (a1 a2 a3 a4 : Int) {σ : hh_S} {Q : Int → hh_S → Prop} (h : hh_cs σ → hh_can a1 → hh_can a2 → hh_can a3 → hh_can a4 → P_X12_payers d a1 a2 a3 a4 σ Q) : hh_Sp (d + 1) hm_X12_payers [hh_R 128, hh_I a1, hh_I a2, hh_I a3, hh_I a4] σ Q :=
  hh_entry rfl (Nat.le_of_ble_eq_true rfl) rfl (fun hs hc => w_X12_payers (h hs (hc _ (List.mem_of_getElem? (i := 1) rfl)) (hc _ (List.mem_of_getElem? (i := 2) rfl)) (hc _ (List.mem_of_getElem? (i := 3) rfl)) (hc _ (List.mem_of_getElem? (i := 4) rfl))))
def B_X12_wall_86 (d : Nat) (Q : Int → hh_S → Prop) (x5 s1 s2 : Int) (σ : hh_S) : Prop :=
  ((0 ≤ s1 ∧ s1 < 9100)) ∧ (Q x5 (hh_up σ 129 s1 s2))
def P_X12_wall (d : Nat) (a1 a2 a3 : Int) (σ : hh_S) (Q : Int → hh_S → Prop) : Prop :=
  hh_Sp d hm_X12_isPerson [hh_R 128, hh_I a1] σ (fun r2 σ2 => (r2 = 0 → Q (-1000000001) σ2) ∧ (¬ r2 = 0 → hh_Sp d hm_X12_isMatter [hh_R 128, hh_I a2] σ2 (fun r10 σ10 => (r10 = 0 → Q (-1000000001) σ10) ∧ (¬ r10 = 0 → hh_Sp d hm_X12_in [hh_I a3, hh_I 0, hh_I 1] σ10 (fun r19 σ19 => (¬ r19 = 0 → ((-2147483648 ≤ 20 * a2 ∧ 20 * a2 ≤ 2147483647) ∧ (-2147483648 ≤ 50 + 20 * a2 ∧ 50 + 20 * a2 ≤ 2147483647) ∧ (-2147483648 ≤ 50 + 20 * a2 + 17 ∧ 50 + 20 * a2 + 17 ≤ 2147483647) ∧ (0 ≤ 50 + 20 * a2 + 17 ∧ 50 + 20 * a2 + 17 < 9100)) ∧ ((¬ hh_and (hh_shr (σ19 129 (50 + 20 * a2 + 17)) a1) 1 = a3 → ((0 ≤ 50 + 20 * a2 + 17 ∧ 50 + 20 * a2 + 17 < 9100)) ∧ (B_X12_wall_86 d Q (hh_and (hh_shr (σ19 129 (50 + 20 * a2 + 17)) a1) 1) (50 + 20 * a2 + 17) (hh_xor (σ19 129 (50 + 20 * a2 + 17)) (hh_shl 1 a1)) σ19)) ∧ (hh_and (hh_shr (σ19 129 (50 + 20 * a2 + 17)) a1) 1 = a3 → ((0 ≤ 50 + 20 * a2 + 17 ∧ 50 + 20 * a2 + 17 < 9100)) ∧ (B_X12_wall_86 d Q (hh_and (hh_shr (σ19 129 (50 + 20 * a2 + 17)) a1) 1) (50 + 20 * a2 + 17) (σ19 129 (50 + 20 * a2 + 17)) σ19)))) ∧ (r19 = 0 → Q (-1000000001) σ19))))))
set_option maxRecDepth 20000 in
theorem w_X12_wall_86 {d : Nat} {Q : Int → hh_S → Prop} (x5 s1 s2 : Int) (σ : hh_S) (h : B_X12_wall_86 d Q x5 s1 s2 σ) : hh_J (d + 1) hm_X12_wall 86 [none, none, none, none, none, some (hh_I x5)] [hh_I s2, hh_I s1, hh_R 129] σ Q := by
  unfold B_X12_wall_86 at h
  obtain ⟨q1, h⟩ := h
  refine hh_iast dX12_wall_86 ra_129 q1 ?_
  refine hh_iload dX12_wall_87 rfl ?_
  exact hh_ireturn dX12_wall_89 rfl h
set_option maxRecDepth 20000 in
theorem w_X12_wall {d : Nat} {a1 a2 a3 : Int} {σ : hh_S} {Q : Int → hh_S → Prop} (h : P_X12_wall d a1 a2 a3 σ Q) : hh_J (d + 1) hm_X12_wall 0 [some (hh_R 128), some (hh_I a1), some (hh_I a2), some (hh_I a3), none, none] [] σ Q := by
  unfold P_X12_wall at h
  refine hh_aload_n dX12_wall_0 rfl ?_
  refine hh_iload_n dX12_wall_1 rfl ?_
  refine hh_cV1 dX12_wall_2 lk_X12_74 mo_X12_isPerson rc_128 (Nat.le_of_ble_eq_true rfl) h (fun r2 σ2 h => ?_)
  refine hh_if_eq (tgt := 25) dX12_wall_5 (by decide) (fun c => ?_) (fun c => ?_)
  · replace h := h.1 c
    refine hh_ldc (n := -1000000001) dX12_wall_25 kc_X12_72 (by decide) ?_
    exact hh_ireturn dX12_wall_27 rfl h
  · replace h := h.2 c
    refine hh_aload_n dX12_wall_8 rfl ?_
    refine hh_iload_n dX12_wall_9 rfl ?_
    refine hh_cV1 dX12_wall_10 lk_X12_82 mo_X12_isMatter rc_128 (Nat.le_of_ble_eq_true rfl) h (fun r10 σ10 h => ?_)
    refine hh_if_eq (tgt := 25) dX12_wall_13 (by decide) (fun c => ?_) (fun c => ?_)
    · replace h := h.1 c
      refine hh_ldc (n := -1000000001) dX12_wall_25 kc_X12_72 (by decide) ?_
      exact hh_ireturn dX12_wall_27 rfl h
    · replace h := h.2 c
      refine hh_iload_n dX12_wall_16 rfl ?_
      refine hh_iconst dX12_wall_17 (by decide) ?_
      refine hh_iconst dX12_wall_18 (by decide) ?_
      refine hh_cS3 dX12_wall_19 lk_X12_68 mo_X12_in (Nat.le_of_ble_eq_true rfl) h (fun r19 σ19 h => ?_)
      refine hh_if_ne (tgt := 28) dX12_wall_22 (by decide) (fun c => ?_) (fun c => ?_)
      · replace h := h.1 c
        obtain ⟨⟨q1, q2, q3, q4⟩, h⟩ := h
        refine hh_bipush dX12_wall_28 (by decide) ?_
        refine hh_bipush dX12_wall_30 (by decide) ?_
        refine hh_iload_n dX12_wall_32 rfl ?_
        refine hh_imul dX12_wall_33 q1 ?_
        refine hh_iadd dX12_wall_34 q2 ?_
        refine hh_bipush dX12_wall_35 (by decide) ?_
        refine hh_iadd dX12_wall_37 q3 ?_
        refine hh_istore dX12_wall_38 (by decide) rfl ?_
        refine hh_aload_n dX12_wall_40 rfl ?_
        refine hh_getR dX12_wall_41 kf_X12_7 rf_128_0 ?_
        refine hh_iload dX12_wall_44 rfl ?_
        refine hh_iald dX12_wall_46 ra_129 q4 rfl ?_
        refine hh_iload_n dX12_wall_47 rfl ?_
        refine hh_ishr dX12_wall_48 ?_
        refine hh_iconst dX12_wall_49 (by decide) ?_
        refine hh_iand dX12_wall_50 ?_
        refine hh_istore dX12_wall_51 (by decide) rfl ?_
        refine hh_aload_n dX12_wall_53 rfl ?_
        refine hh_getR dX12_wall_54 kf_X12_7 rf_128_0 ?_
        refine hh_iload dX12_wall_57 rfl ?_
        refine hh_iload dX12_wall_59 rfl ?_
        refine hh_iload_n dX12_wall_61 rfl ?_
        refine hh_icmp_ne (tgt := 75) dX12_wall_62 (by decide) (fun c => ?_) (fun c => ?_)
        · replace h := h.1 c
          obtain ⟨q1, h⟩ := h
          refine hh_aload_n dX12_wall_75 rfl ?_
          refine hh_getR dX12_wall_76 kf_X12_7 rf_128_0 ?_
          refine hh_iload dX12_wall_79 rfl ?_
          refine hh_iald dX12_wall_81 ra_129 q1 rfl ?_
          refine hh_iconst dX12_wall_82 (by decide) ?_
          refine hh_iload_n dX12_wall_83 rfl ?_
          refine hh_ishl dX12_wall_84 ?_
          refine hh_ixor dX12_wall_85 ?_
          exact hh_forget [false, false, false, false, false, true] (w_X12_wall_86 _ _ _ _ h)
        · replace h := h.2 c
          obtain ⟨q1, h⟩ := h
          refine hh_aload_n dX12_wall_65 rfl ?_
          refine hh_getR dX12_wall_66 kf_X12_7 rf_128_0 ?_
          refine hh_iload dX12_wall_69 rfl ?_
          refine hh_iald dX12_wall_71 ra_129 q1 rfl ?_
          refine hh_goto (tgt := 86) dX12_wall_72 (by decide) ?_
          exact hh_forget [false, false, false, false, false, true] (w_X12_wall_86 _ _ _ _ h)
      · replace h := h.2 c
        refine hh_ldc (n := -1000000001) dX12_wall_25 kc_X12_72 (by decide) ?_
        exact hh_ireturn dX12_wall_27 rfl h
theorem wp_X12_wall {d : Nat} (a1 a2 a3 : Int) {σ : hh_S} {Q : Int → hh_S → Prop} (h : hh_cs σ → hh_can a1 → hh_can a2 → hh_can a3 → P_X12_wall d a1 a2 a3 σ Q) : hh_Sp (d + 1) hm_X12_wall [hh_R 128, hh_I a1, hh_I a2, hh_I a3] σ Q :=
  hh_entry rfl (Nat.le_of_ble_eq_true rfl) rfl (fun hs hc => w_X12_wall (h hs (hc _ (List.mem_of_getElem? (i := 1) rfl)) (hc _ (List.mem_of_getElem? (i := 2) rfl)) (hc _ (List.mem_of_getElem? (i := 3) rfl))))
def P_X12_days (d : Nat) (a1 : Int) (σ : hh_S) (Q : Int → hh_S → Prop) : Prop :=
  hh_Sp d hm_X12_in [hh_I a1, hh_I 1, hh_I 100] σ (fun r4 σ4 => (r4 = 0 → Q (-1000000001) σ4) ∧ (¬ r4 = 0 → ((-2147483648 ≤ σ4 129 0 + a1 ∧ σ4 129 0 + a1 ≤ 2147483647)) ∧ ((σ4 129 0 + a1 ≤ 900 → ((-2147483648 ≤ σ4 129 0 + a1 ∧ σ4 129 0 + a1 ≤ 2147483647)) ∧ (Q (σ4 129 0 + a1) (hh_up σ4 129 0 (σ4 129 0 + a1)))) ∧ (¬ σ4 129 0 + a1 ≤ 900 → Q (-1000000001) σ4))))
set_option maxRecDepth 20000 in
theorem w_X12_days {d : Nat} {a1 : Int} {σ : hh_S} {Q : Int → hh_S → Prop} (h : P_X12_days d a1 σ Q) : hh_J (d + 1) hm_X12_days 0 [some (hh_R 128), some (hh_I a1)] [] σ Q := by
  unfold P_X12_days at h
  refine hh_iload_n dX12_days_0 rfl ?_
  refine hh_iconst dX12_days_1 (by decide) ?_
  refine hh_bipush dX12_days_2 (by decide) ?_
  refine hh_cS3 dX12_days_4 lk_X12_68 mo_X12_in (Nat.le_of_ble_eq_true rfl) h (fun r4 σ4 h => ?_)
  refine hh_if_eq (tgt := 24) dX12_days_7 (by decide) (fun c => ?_) (fun c => ?_)
  · replace h := h.1 c
    refine hh_ldc (n := -1000000001) dX12_days_24 kc_X12_72 (by decide) ?_
    exact hh_ireturn dX12_days_26 rfl h
  · replace h := h.2 c
    obtain ⟨q1, h⟩ := h
    refine hh_aload_n dX12_days_10 rfl ?_
    refine hh_getR dX12_days_11 kf_X12_7 rf_128_0 ?_
    refine hh_iconst dX12_days_14 (by decide) ?_
    refine hh_iald dX12_days_15 ra_129 (by decide) rfl ?_
    refine hh_iload_n dX12_days_16 rfl ?_
    refine hh_iadd dX12_days_17 q1 ?_
    refine hh_sipush dX12_days_18 (by decide) ?_
    refine hh_icmp_le (tgt := 27) dX12_days_21 (by decide) (fun c => ?_) (fun c => ?_)
    · replace h := h.1 c
      obtain ⟨q1, h⟩ := h
      refine hh_aload_n dX12_days_27 rfl ?_
      refine hh_getR dX12_days_28 kf_X12_7 rf_128_0 ?_
      refine hh_iconst dX12_days_31 (by decide) ?_
      refine hh_dup2 dX12_days_32 (fun _ => rfl) (fun _ => rfl) ?_
      refine hh_iald dX12_days_33 ra_129 (by decide) rfl ?_
      refine hh_iload_n dX12_days_34 rfl ?_
      refine hh_iadd dX12_days_35 q1 ?_
      refine hh_iast dX12_days_36 ra_129 (by decide) ?_
      refine hh_aload_n dX12_days_37 rfl ?_
      refine hh_getR dX12_days_38 kf_X12_7 rf_128_0 ?_
      refine hh_iconst dX12_days_41 (by decide) ?_
      refine hh_iald dX12_days_42 ra_129 (by decide) rfl ?_
      exact hh_ireturn dX12_days_43 rfl h
    · replace h := h.2 c
      refine hh_ldc (n := -1000000001) dX12_days_24 kc_X12_72 (by decide) ?_
      exact hh_ireturn dX12_days_26 rfl h
theorem wp_X12_days {d : Nat} (a1 : Int) {σ : hh_S} {Q : Int → hh_S → Prop} (h : hh_cs σ → hh_can a1 → P_X12_days d a1 σ Q) : hh_Sp (d + 1) hm_X12_days [hh_R 128, hh_I a1] σ Q :=
  hh_entry rfl (Nat.le_of_ble_eq_true rfl) rfl (fun hs hc => w_X12_days (h hs (hc _ (List.mem_of_getElem? (i := 1) rfl))))
def B_X12_rule_34 (d : Nat) (Q : Int → hh_S → Prop) (x1 x2 s0 s1 s2 : Int) (σ : hh_S) : Prop :=
  hh_Sp d hm_X12_in [hh_I s0, hh_I s1, hh_I s2] σ (fun r34 σ34 => (¬ r34 = 0 → ((-2147483648 ≤ 1 + x1 ∧ 1 + x1 ≤ 2147483647) ∧ (0 ≤ 1 + x1 ∧ 1 + x1 < 9100)) ∧ (Q (σ34 129 (1 + x1)) (hh_up σ34 129 (1 + x1) x2))) ∧ (r34 = 0 → Q (-1000000001) σ34))
def P_X12_rule (d : Nat) (a1 a2 : Int) (σ : hh_S) (Q : Int → hh_S → Prop) : Prop :=
  hh_Sp d hm_X12_in [hh_I a1, hh_I 0, hh_I 2] σ (fun r3 σ3 => (r3 = 0 → Q (-1000000001) σ3) ∧ (¬ r3 = 0 → (¬ a1 = 0 → (¬ a1 = 1 → B_X12_rule_34 d Q a1 a2 a2 0 900 σ3) ∧ (a1 = 1 → B_X12_rule_34 d Q a1 a2 a2 0 100 σ3)) ∧ (a1 = 0 → B_X12_rule_34 d Q a1 a2 a2 0 240 σ3)))
set_option maxRecDepth 20000 in
theorem w_X12_rule_34 {d : Nat} {Q : Int → hh_S → Prop} (x1 x2 s0 s1 s2 : Int) (σ : hh_S) (h : B_X12_rule_34 d Q x1 x2 s0 s1 s2 σ) : hh_J (d + 1) hm_X12_rule 34 [some (hh_R 128), some (hh_I x1), some (hh_I x2), none] [hh_I s2, hh_I s1, hh_I s0] σ Q := by
  unfold B_X12_rule_34 at h
  refine hh_cS3 dX12_rule_34 lk_X12_68 mo_X12_in (Nat.le_of_ble_eq_true rfl) h (fun r34 σ34 h => ?_)
  refine hh_if_ne (tgt := 43) dX12_rule_37 (by decide) (fun c => ?_) (fun c => ?_)
  · replace h := h.1 c
    obtain ⟨⟨q1, q2⟩, h⟩ := h
    refine hh_aload_n dX12_rule_43 rfl ?_
    refine hh_getR dX12_rule_44 kf_X12_7 rf_128_0 ?_
    refine hh_iconst dX12_rule_47 (by decide) ?_
    refine hh_iload_n dX12_rule_48 rfl ?_
    refine hh_iadd dX12_rule_49 q1 ?_
    refine hh_iald dX12_rule_50 ra_129 q2 rfl ?_
    refine hh_istore_n dX12_rule_51 (by decide) rfl ?_
    refine hh_aload_n dX12_rule_52 rfl ?_
    refine hh_getR dX12_rule_53 kf_X12_7 rf_128_0 ?_
    refine hh_iconst dX12_rule_56 (by decide) ?_
    refine hh_iload_n dX12_rule_57 rfl ?_
    refine hh_iadd dX12_rule_58 q1 ?_
    refine hh_iload_n dX12_rule_59 rfl ?_
    refine hh_iast dX12_rule_60 ra_129 q2 ?_
    refine hh_iload_n dX12_rule_61 rfl ?_
    exact hh_ireturn dX12_rule_62 rfl h
  · replace h := h.2 c
    refine hh_ldc (n := -1000000001) dX12_rule_40 kc_X12_72 (by decide) ?_
    exact hh_ireturn dX12_rule_42 rfl h
set_option maxRecDepth 20000 in
theorem w_X12_rule {d : Nat} {a1 a2 : Int} {σ : hh_S} {Q : Int → hh_S → Prop} (h : P_X12_rule d a1 a2 σ Q) : hh_J (d + 1) hm_X12_rule 0 [some (hh_R 128), some (hh_I a1), some (hh_I a2), none] [] σ Q := by
  unfold P_X12_rule at h
  refine hh_iload_n dX12_rule_0 rfl ?_
  refine hh_iconst dX12_rule_1 (by decide) ?_
  refine hh_iconst dX12_rule_2 (by decide) ?_
  refine hh_cS3 dX12_rule_3 lk_X12_68 mo_X12_in (Nat.le_of_ble_eq_true rfl) h (fun r3 σ3 h => ?_)
  refine hh_if_eq (tgt := 40) dX12_rule_6 (by decide) (fun c => ?_) (fun c => ?_)
  · replace h := h.1 c
    refine hh_ldc (n := -1000000001) dX12_rule_40 kc_X12_72 (by decide) ?_
    exact hh_ireturn dX12_rule_42 rfl h
  · replace h := h.2 c
    refine hh_iload_n dX12_rule_9 rfl ?_
    refine hh_iconst dX12_rule_10 (by decide) ?_
    refine hh_iload_n dX12_rule_11 rfl ?_
    refine hh_if_ne (tgt := 21) dX12_rule_12 (by decide) (fun c => ?_) (fun c => ?_)
    · replace h := h.1 c
      refine hh_iload_n dX12_rule_21 rfl ?_
      refine hh_iconst dX12_rule_22 (by decide) ?_
      refine hh_icmp_ne (tgt := 31) dX12_rule_23 (by decide) (fun c => ?_) (fun c => ?_)
      · replace h := h.1 c
        refine hh_sipush dX12_rule_31 (by decide) ?_
        exact hh_forget [true, true, true, false] (w_X12_rule_34 _ _ _ _ _ _ h)
      · replace h := h.2 c
        refine hh_bipush dX12_rule_26 (by decide) ?_
        refine hh_goto (tgt := 34) dX12_rule_28 (by decide) ?_
        exact hh_forget [true, true, true, false] (w_X12_rule_34 _ _ _ _ _ _ h)
    · replace h := h.2 c
      refine hh_sipush dX12_rule_15 (by decide) ?_
      refine hh_goto (tgt := 34) dX12_rule_18 (by decide) ?_
      exact hh_forget [true, true, true, false] (w_X12_rule_34 _ _ _ _ _ _ h)
theorem wp_X12_rule {d : Nat} (a1 a2 : Int) {σ : hh_S} {Q : Int → hh_S → Prop} (h : hh_cs σ → hh_can a1 → hh_can a2 → P_X12_rule d a1 a2 σ Q) : hh_Sp (d + 1) hm_X12_rule [hh_R 128, hh_I a1, hh_I a2] σ Q :=
  hh_entry rfl (Nat.le_of_ble_eq_true rfl) rfl (fun hs hc => w_X12_rule (h hs (hc _ (List.mem_of_getElem? (i := 1) rfl)) (hc _ (List.mem_of_getElem? (i := 2) rfl))))
def P_X12_areParts (d : Nat) (a0 : Int) (σ : hh_S) (Q : Int → hh_S → Prop) : Prop :=
  (a0 < 0 → Q 0 σ) ∧ (¬ a0 < 0 → (0 ≤ a0) ∧ ((a0 % 1000 ≤ 0 → Q 0 σ) ∧ (¬ a0 % 1000 ≤ 0 → (0 ≤ a0 ∧ (-2147483648 ≤ (a0 / 1000) + (a0 % 1000) ∧ (a0 / 1000) + (a0 % 1000) ≤ 2147483647)) ∧ ((240 < (a0 / 1000) + (a0 % 1000) → Q 0 σ) ∧ (¬ 240 < (a0 / 1000) + (a0 % 1000) → Q 1 σ)))))
set_option maxRecDepth 20000 in
theorem w_X12_areParts {d : Nat} {a0 : Int} {σ : hh_S} {Q : Int → hh_S → Prop} (h : P_X12_areParts d a0 σ Q) : hh_J (d + 1) hm_X12_areParts 0 [some (hh_I a0)] [] σ Q := by
  unfold P_X12_areParts at h
  refine hh_iload_n dX12_areParts_0 rfl ?_
  refine hh_if_lt (tgt := 33) dX12_areParts_1 (by decide) (fun c => ?_) (fun c => ?_)
  · replace h := h.1 c
    refine hh_iconst dX12_areParts_33 (by decide) ?_
    exact hh_zreturn dX12_areParts_34 rfl (by decide) h
  · replace h := h.2 c
    obtain ⟨q1, h⟩ := h
    refine hh_iload_n dX12_areParts_4 rfl ?_
    refine hh_sipush dX12_areParts_5 (by decide) ?_
    refine hh_irem dX12_areParts_8 q1 (by decide) ?_
    refine hh_if_le (tgt := 33) dX12_areParts_9 (by decide) (fun c => ?_) (fun c => ?_)
    · replace h := h.1 c
      refine hh_iconst dX12_areParts_33 (by decide) ?_
      exact hh_zreturn dX12_areParts_34 rfl (by decide) h
    · replace h := h.2 c
      obtain ⟨⟨q1, q2⟩, h⟩ := h
      refine hh_iload_n dX12_areParts_12 rfl ?_
      refine hh_sipush dX12_areParts_13 (by decide) ?_
      refine hh_idiv dX12_areParts_16 q1 (by decide) ?_
      refine hh_iload_n dX12_areParts_17 rfl ?_
      refine hh_sipush dX12_areParts_18 (by decide) ?_
      refine hh_irem dX12_areParts_21 q1 (by decide) ?_
      refine hh_iadd dX12_areParts_22 q2 ?_
      refine hh_sipush dX12_areParts_23 (by decide) ?_
      refine hh_icmp_gt (tgt := 33) dX12_areParts_26 (by decide) (fun c => ?_) (fun c => ?_)
      · replace h := h.1 c
        refine hh_iconst dX12_areParts_33 (by decide) ?_
        exact hh_zreturn dX12_areParts_34 rfl (by decide) h
      · replace h := h.2 c
        refine hh_iconst dX12_areParts_29 (by decide) ?_
        refine hh_goto (tgt := 34) dX12_areParts_30 (by decide) ?_
        exact hh_zreturn dX12_areParts_34 rfl (by decide) h
theorem wp_X12_areParts {d : Nat} (a0 : Int) {σ : hh_S} {Q : Int → hh_S → Prop} (h : hh_cs σ → hh_can a0 → P_X12_areParts d a0 σ Q) : hh_Sp (d + 1) hm_X12_areParts [hh_I a0] σ Q :=
  hh_entry rfl (Nat.le_of_ble_eq_true rfl) rfl (fun hs hc => w_X12_areParts (h hs (hc _ (List.mem_of_getElem? (i := 0) rfl))))
def P_X12_isPast (d : Nat) (a1 : Int) (σ : hh_S) (Q : Int → hh_S → Prop) : Prop :=
  hh_Sp d hm_X12_in [hh_I a1, hh_I 0, hh_I (σ 129 0)] σ (fun r8 σ8 => ((r8 = 0 ∨ r8 = 1)) ∧ (Q r8 σ8))
set_option maxRecDepth 20000 in
theorem w_X12_isPast {d : Nat} {a1 : Int} {σ : hh_S} {Q : Int → hh_S → Prop} (h : P_X12_isPast d a1 σ Q) : hh_J (d + 1) hm_X12_isPast 0 [some (hh_R 128), some (hh_I a1)] [] σ Q := by
  unfold P_X12_isPast at h
  refine hh_iload_n dX12_isPast_0 rfl ?_
  refine hh_iconst dX12_isPast_1 (by decide) ?_
  refine hh_aload_n dX12_isPast_2 rfl ?_
  refine hh_getR dX12_isPast_3 kf_X12_7 rf_128_0 ?_
  refine hh_iconst dX12_isPast_6 (by decide) ?_
  refine hh_iald dX12_isPast_7 ra_129 (by decide) rfl ?_
  refine hh_cS3 dX12_isPast_8 lk_X12_68 mo_X12_in (Nat.le_of_ble_eq_true rfl) h (fun r8 σ8 h => ?_)
  obtain ⟨q1, h⟩ := h
  exact hh_zreturn dX12_isPast_11 rfl q1 h
theorem wp_X12_isPast {d : Nat} (a1 : Int) {σ : hh_S} {Q : Int → hh_S → Prop} (h : hh_cs σ → hh_can a1 → P_X12_isPast d a1 σ Q) : hh_Sp (d + 1) hm_X12_isPast [hh_R 128, hh_I a1] σ Q :=
  hh_entry rfl (Nat.le_of_ble_eq_true rfl) rfl (fun hs hc => w_X12_isPast (h hs (hc _ (List.mem_of_getElem? (i := 1) rfl))))
def P_X12_entry (d : Nat) (a1 a2 a3 a4 a5 : Int) (σ : hh_S) (Q : Int → hh_S → Prop) : Prop :=
  hh_Sp d hm_X12_isPerson [hh_R 128, hh_I a1] σ (fun r2 σ2 => (r2 = 0 → Q (-1000000001) σ2) ∧ (¬ r2 = 0 → hh_Sp d hm_X12_isMatter [hh_R 128, hh_I a2] σ2 (fun r10 σ10 => (r10 = 0 → Q (-1000000001) σ10) ∧ (¬ r10 = 0 → hh_Sp d hm_X12_isPast [hh_R 128, hh_I a3] σ10 (fun r18 σ18 => (r18 = 0 → Q (-1000000001) σ18) ∧ (¬ r18 = 0 → hh_Sp d hm_X12_areParts [hh_I a4] σ18 (fun r26 σ26 => (r26 = 0 → Q (-1000000001) σ26) ∧ (¬ r26 = 0 → hh_Sp d hm_X12_in [hh_I a5, hh_I 0, hh_I 5] σ26 (fun r36 σ36 => (¬ r36 = 0 → ((-2147483648 ≤ 20 * a2 ∧ 20 * a2 ≤ 2147483647) ∧ (-2147483648 ≤ 50 + 20 * a2 ∧ 50 + 20 * a2 ≤ 2147483647) ∧ (-2147483648 ≤ 50 + 20 * a2 + 17 ∧ 50 + 20 * a2 + 17 ≤ 2147483647) ∧ (0 ≤ 50 + 20 * a2 + 17 ∧ 50 + 20 * a2 + 17 < 9100)) ∧ ((¬ hh_and (hh_shr (σ36 129 (50 + 20 * a2 + 17)) a1) 1 = 1 → (¬ σ36 129 7 = 90 → ((-2147483648 ≤ 12 * (σ36 129 7) ∧ 12 * (σ36 129 7) ≤ 2147483647) ∧ (-2147483648 ≤ 250 + (12 * (σ36 129 7)) ∧ 250 + (12 * (σ36 129 7)) ≤ 2147483647) ∧ (0 ≤ 250 + (12 * (σ36 129 7)) ∧ 250 + (12 * (σ36 129 7)) < 9100) ∧ (-2147483648 ≤ 250 + (12 * (σ36 129 7)) + 1 ∧ 250 + (12 * (σ36 129 7)) + 1 ≤ 2147483647) ∧ (0 ≤ 250 + (12 * (σ36 129 7)) + 1 ∧ 250 + (12 * (σ36 129 7)) + 1 < 9100) ∧ (-2147483648 ≤ 250 + (12 * (σ36 129 7)) + 2 ∧ 250 + (12 * (σ36 129 7)) + 2 ≤ 2147483647) ∧ (0 ≤ 250 + (12 * (σ36 129 7)) + 2 ∧ 250 + (12 * (σ36 129 7)) + 2 < 9100) ∧ (-2147483648 ≤ 250 + (12 * (σ36 129 7)) + 3 ∧ 250 + (12 * (σ36 129 7)) + 3 ≤ 2147483647) ∧ 0 ≤ a4 ∧ (0 ≤ 250 + (12 * (σ36 129 7)) + 3 ∧ 250 + (12 * (σ36 129 7)) + 3 < 9100) ∧ (-2147483648 ≤ 250 + (12 * (σ36 129 7)) + 4 ∧ 250 + (12 * (σ36 129 7)) + 4 ≤ 2147483647) ∧ (0 ≤ 250 + (12 * (σ36 129 7)) + 4 ∧ 250 + (12 * (σ36 129 7)) + 4 < 9100) ∧ (-2147483648 ≤ 250 + (12 * (σ36 129 7)) + 5 ∧ 250 + (12 * (σ36 129 7)) + 5 ≤ 2147483647) ∧ (0 ≤ 250 + (12 * (σ36 129 7)) + 5 ∧ 250 + (12 * (σ36 129 7)) + 5 < 9100) ∧ (-2147483648 ≤ 250 + (12 * (σ36 129 7)) + 6 ∧ 250 + (12 * (σ36 129 7)) + 6 ≤ 2147483647)) ∧ (∀ τ185 : hh_S, τ185 = (hh_up (hh_up (hh_up (hh_up (hh_up (hh_up σ36 129 (250 + (12 * (σ36 129 7))) a1) 129 (250 + (12 * (σ36 129 7)) + 1) a2) 129 (250 + (12 * (σ36 129 7)) + 2) a3) 129 (250 + (12 * (σ36 129 7)) + 3) (a4 / 1000)) 129 (250 + (12 * (σ36 129 7)) + 4) (a4 % 1000)) 129 (250 + (12 * (σ36 129 7)) + 5) a5) → ((0 ≤ 250 + (12 * (σ36 129 7)) + 6 ∧ 250 + (12 * (σ36 129 7)) + 6 < 9100) ∧ (-2147483648 ≤ 250 + (12 * (σ36 129 7)) + 7 ∧ 250 + (12 * (σ36 129 7)) + 7 ≤ 2147483647) ∧ (0 ≤ 250 + (12 * (σ36 129 7)) + 7 ∧ 250 + (12 * (σ36 129 7)) + 7 < 9100) ∧ (-2147483648 ≤ 250 + (12 * (σ36 129 7)) + 8 ∧ 250 + (12 * (σ36 129 7)) + 8 ≤ 2147483647) ∧ (0 ≤ 250 + (12 * (σ36 129 7)) + 8 ∧ 250 + (12 * (σ36 129 7)) + 8 < 9100) ∧ (-2147483648 ≤ 250 + (12 * (σ36 129 7)) + 9 ∧ 250 + (12 * (σ36 129 7)) + 9 ≤ 2147483647) ∧ (0 ≤ 250 + (12 * (σ36 129 7)) + 9 ∧ 250 + (12 * (σ36 129 7)) + 9 < 9100) ∧ (-2147483648 ≤ 250 + (12 * (σ36 129 7)) + 10 ∧ 250 + (12 * (σ36 129 7)) + 10 ≤ 2147483647) ∧ (0 ≤ 250 + (12 * (σ36 129 7)) + 10 ∧ 250 + (12 * (σ36 129 7)) + 10 < 9100)) ∧ (∀ τ238 : hh_S, τ238 = (hh_up (hh_up (hh_up (hh_up (hh_up τ185 129 (250 + (12 * (σ36 129 7)) + 6) (τ185 129 0)) 129 (250 + (12 * (σ36 129 7)) + 7) (-1)) 129 (250 + (12 * (σ36 129 7)) + 8) (-1)) 129 (250 + (12 * (σ36 129 7)) + 9) 0) 129 (250 + (12 * (σ36 129 7)) + 10) (-1)) → ((-2147483648 ≤ τ238 129 7 + 1 ∧ τ238 129 7 + 1 ≤ 2147483647) ∧ (-2147483648 ≤ τ238 129 7 + 1 - 1 ∧ τ238 129 7 + 1 - 1 ≤ 2147483647)) ∧ (Q (τ238 129 7 + 1 - 1) (hh_up τ238 129 7 (τ238 129 7 + 1)))))) ∧ (σ36 129 7 = 90 → Q (-1000000003) σ36)) ∧ (hh_and (hh_shr (σ36 129 (50 + 20 * a2 + 17)) a1) 1 = 1 → Q (-1000000002) σ36))) ∧ (r36 = 0 → Q (-1000000001) σ36))))))))))
set_option maxRecDepth 20000 in
theorem w_X12_entry {d : Nat} {a1 a2 a3 a4 a5 : Int} {σ : hh_S} {Q : Int → hh_S → Prop} (h : P_X12_entry d a1 a2 a3 a4 a5 σ Q) : hh_J (d + 1) hm_X12_entry 0 [some (hh_R 128), some (hh_I a1), some (hh_I a2), some (hh_I a3), some (hh_I a4), some (hh_I a5), none] [] σ Q := by
  unfold P_X12_entry at h
  refine hh_aload_n dX12_entry_0 rfl ?_
  refine hh_iload_n dX12_entry_1 rfl ?_
  refine hh_cV1 dX12_entry_2 lk_X12_74 mo_X12_isPerson rc_128 (Nat.le_of_ble_eq_true rfl) h (fun r2 σ2 h => ?_)
  refine hh_if_eq (tgt := 42) dX12_entry_5 (by decide) (fun c => ?_) (fun c => ?_)
  · replace h := h.1 c
    refine hh_ldc (n := -1000000001) dX12_entry_42 kc_X12_72 (by decide) ?_
    exact hh_ireturn dX12_entry_44 rfl h
  · replace h := h.2 c
    refine hh_aload_n dX12_entry_8 rfl ?_
    refine hh_iload_n dX12_entry_9 rfl ?_
    refine hh_cV1 dX12_entry_10 lk_X12_82 mo_X12_isMatter rc_128 (Nat.le_of_ble_eq_true rfl) h (fun r10 σ10 h => ?_)
    refine hh_if_eq (tgt := 42) dX12_entry_13 (by decide) (fun c => ?_) (fun c => ?_)
    · replace h := h.1 c
      refine hh_ldc (n := -1000000001) dX12_entry_42 kc_X12_72 (by decide) ?_
      exact hh_ireturn dX12_entry_44 rfl h
    · replace h := h.2 c
      refine hh_aload_n dX12_entry_16 rfl ?_
      refine hh_iload_n dX12_entry_17 rfl ?_
      refine hh_cV1 dX12_entry_18 lk_X12_92 mo_X12_isPast rc_128 (Nat.le_of_ble_eq_true rfl) h (fun r18 σ18 h => ?_)
      refine hh_if_eq (tgt := 42) dX12_entry_21 (by decide) (fun c => ?_) (fun c => ?_)
      · replace h := h.1 c
        refine hh_ldc (n := -1000000001) dX12_entry_42 kc_X12_72 (by decide) ?_
        exact hh_ireturn dX12_entry_44 rfl h
      · replace h := h.2 c
        refine hh_iload dX12_entry_24 rfl ?_
        refine hh_cS1 dX12_entry_26 lk_X12_95 mo_X12_areParts (Nat.le_of_ble_eq_true rfl) h (fun r26 σ26 h => ?_)
        refine hh_if_eq (tgt := 42) dX12_entry_29 (by decide) (fun c => ?_) (fun c => ?_)
        · replace h := h.1 c
          refine hh_ldc (n := -1000000001) dX12_entry_42 kc_X12_72 (by decide) ?_
          exact hh_ireturn dX12_entry_44 rfl h
        · replace h := h.2 c
          refine hh_iload dX12_entry_32 rfl ?_
          refine hh_iconst dX12_entry_34 (by decide) ?_
          refine hh_iconst dX12_entry_35 (by decide) ?_
          refine hh_cS3 dX12_entry_36 lk_X12_68 mo_X12_in (Nat.le_of_ble_eq_true rfl) h (fun r36 σ36 h => ?_)
          refine hh_if_ne (tgt := 45) dX12_entry_39 (by decide) (fun c => ?_) (fun c => ?_)
          · replace h := h.1 c
            obtain ⟨⟨q1, q2, q3, q4⟩, h⟩ := h
            refine hh_aload_n dX12_entry_45 rfl ?_
            refine hh_getR dX12_entry_46 kf_X12_7 rf_128_0 ?_
            refine hh_bipush dX12_entry_49 (by decide) ?_
            refine hh_bipush dX12_entry_51 (by decide) ?_
            refine hh_iload_n dX12_entry_53 rfl ?_
            refine hh_imul dX12_entry_54 q1 ?_
            refine hh_iadd dX12_entry_55 q2 ?_
            refine hh_bipush dX12_entry_56 (by decide) ?_
            refine hh_iadd dX12_entry_58 q3 ?_
            refine hh_iald dX12_entry_59 ra_129 q4 rfl ?_
            refine hh_iload_n dX12_entry_60 rfl ?_
            refine hh_ishr dX12_entry_61 ?_
            refine hh_iconst dX12_entry_62 (by decide) ?_
            refine hh_iand dX12_entry_63 ?_
            refine hh_iconst dX12_entry_64 (by decide) ?_
            refine hh_icmp_ne (tgt := 71) dX12_entry_65 (by decide) (fun c => ?_) (fun c => ?_)
            · replace h := h.1 c
              refine hh_aload_n dX12_entry_71 rfl ?_
              refine hh_getR dX12_entry_72 kf_X12_7 rf_128_0 ?_
              refine hh_bipush dX12_entry_75 (by decide) ?_
              refine hh_iald dX12_entry_77 ra_129 (by decide) rfl ?_
              refine hh_bipush dX12_entry_78 (by decide) ?_
              refine hh_icmp_ne (tgt := 86) dX12_entry_80 (by decide) (fun c => ?_) (fun c => ?_)
              · replace h := h.1 c
                obtain ⟨⟨q1, q2, q3, q4, q5, q6, q7, q8, q9, q10, q11, q12, q13, q14, q15⟩, h⟩ := h
                refine hh_sipush dX12_entry_86 (by decide) ?_
                refine hh_bipush dX12_entry_89 (by decide) ?_
                refine hh_aload_n dX12_entry_91 rfl ?_
                refine hh_getR dX12_entry_92 kf_X12_7 rf_128_0 ?_
                refine hh_bipush dX12_entry_95 (by decide) ?_
                refine hh_iald dX12_entry_97 ra_129 (by decide) rfl ?_
                refine hh_imul dX12_entry_98 q1 ?_
                refine hh_iadd dX12_entry_99 q2 ?_
                refine hh_istore dX12_entry_100 (by decide) rfl ?_
                refine hh_aload_n dX12_entry_102 rfl ?_
                refine hh_getR dX12_entry_103 kf_X12_7 rf_128_0 ?_
                refine hh_iload dX12_entry_106 rfl ?_
                refine hh_iload_n dX12_entry_108 rfl ?_
                refine hh_iast dX12_entry_109 ra_129 q3 ?_
                refine hh_aload_n dX12_entry_110 rfl ?_
                refine hh_getR dX12_entry_111 kf_X12_7 rf_128_0 ?_
                refine hh_iload dX12_entry_114 rfl ?_
                refine hh_iconst dX12_entry_116 (by decide) ?_
                refine hh_iadd dX12_entry_117 q4 ?_
                refine hh_iload_n dX12_entry_118 rfl ?_
                refine hh_iast dX12_entry_119 ra_129 q5 ?_
                refine hh_aload_n dX12_entry_120 rfl ?_
                refine hh_getR dX12_entry_121 kf_X12_7 rf_128_0 ?_
                refine hh_iload dX12_entry_124 rfl ?_
                refine hh_iconst dX12_entry_126 (by decide) ?_
                refine hh_iadd dX12_entry_127 q6 ?_
                refine hh_iload_n dX12_entry_128 rfl ?_
                refine hh_iast dX12_entry_129 ra_129 q7 ?_
                refine hh_aload_n dX12_entry_130 rfl ?_
                refine hh_getR dX12_entry_131 kf_X12_7 rf_128_0 ?_
                refine hh_iload dX12_entry_134 rfl ?_
                refine hh_iconst dX12_entry_136 (by decide) ?_
                refine hh_iadd dX12_entry_137 q8 ?_
                refine hh_iload dX12_entry_138 rfl ?_
                refine hh_sipush dX12_entry_140 (by decide) ?_
                refine hh_idiv dX12_entry_143 q9 (by decide) ?_
                refine hh_iast dX12_entry_144 ra_129 q10 ?_
                refine hh_aload_n dX12_entry_145 rfl ?_
                refine hh_getR dX12_entry_146 kf_X12_7 rf_128_0 ?_
                refine hh_iload dX12_entry_149 rfl ?_
                refine hh_iconst dX12_entry_151 (by decide) ?_
                refine hh_iadd dX12_entry_152 q11 ?_
                refine hh_iload dX12_entry_153 rfl ?_
                refine hh_sipush dX12_entry_155 (by decide) ?_
                refine hh_irem dX12_entry_158 q9 (by decide) ?_
                refine hh_iast dX12_entry_159 ra_129 q12 ?_
                refine hh_aload_n dX12_entry_160 rfl ?_
                refine hh_getR dX12_entry_161 kf_X12_7 rf_128_0 ?_
                refine hh_iload dX12_entry_164 rfl ?_
                refine hh_iconst dX12_entry_166 (by decide) ?_
                refine hh_iadd dX12_entry_167 q13 ?_
                refine hh_iload dX12_entry_168 rfl ?_
                refine hh_iast dX12_entry_170 ra_129 q14 ?_
                refine hh_aload_n dX12_entry_171 rfl ?_
                refine hh_getR dX12_entry_172 kf_X12_7 rf_128_0 ?_
                refine hh_iload dX12_entry_175 rfl ?_
                refine hh_bipush dX12_entry_177 (by decide) ?_
                refine hh_iadd dX12_entry_179 q15 ?_
                refine hh_aload_n dX12_entry_180 rfl ?_
                refine hh_getR dX12_entry_181 kf_X12_7 rf_128_0 ?_
                refine hh_iconst dX12_entry_184 (by decide) ?_
                replace h := h _ rfl
                obtain ⟨⟨q1, q2, q3, q4, q5, q6, q7, q8, q9⟩, h⟩ := h
                refine hh_iald dX12_entry_185 ra_129 (by decide) rfl ?_
                refine hh_iast dX12_entry_186 ra_129 q1 ?_
                refine hh_aload_n dX12_entry_187 rfl ?_
                refine hh_getR dX12_entry_188 kf_X12_7 rf_128_0 ?_
                refine hh_iload dX12_entry_191 rfl ?_
                refine hh_bipush dX12_entry_193 (by decide) ?_
                refine hh_iadd dX12_entry_195 q2 ?_
                refine hh_iconst dX12_entry_196 (by decide) ?_
                refine hh_iast dX12_entry_197 ra_129 q3 ?_
                refine hh_aload_n dX12_entry_198 rfl ?_
                refine hh_getR dX12_entry_199 kf_X12_7 rf_128_0 ?_
                refine hh_iload dX12_entry_202 rfl ?_
                refine hh_bipush dX12_entry_204 (by decide) ?_
                refine hh_iadd dX12_entry_206 q4 ?_
                refine hh_iconst dX12_entry_207 (by decide) ?_
                refine hh_iast dX12_entry_208 ra_129 q5 ?_
                refine hh_aload_n dX12_entry_209 rfl ?_
                refine hh_getR dX12_entry_210 kf_X12_7 rf_128_0 ?_
                refine hh_iload dX12_entry_213 rfl ?_
                refine hh_bipush dX12_entry_215 (by decide) ?_
                refine hh_iadd dX12_entry_217 q6 ?_
                refine hh_iconst dX12_entry_218 (by decide) ?_
                refine hh_iast dX12_entry_219 ra_129 q7 ?_
                refine hh_aload_n dX12_entry_220 rfl ?_
                refine hh_getR dX12_entry_221 kf_X12_7 rf_128_0 ?_
                refine hh_iload dX12_entry_224 rfl ?_
                refine hh_bipush dX12_entry_226 (by decide) ?_
                refine hh_iadd dX12_entry_228 q8 ?_
                refine hh_iconst dX12_entry_229 (by decide) ?_
                refine hh_iast dX12_entry_230 ra_129 q9 ?_
                refine hh_aload_n dX12_entry_231 rfl ?_
                refine hh_getR dX12_entry_232 kf_X12_7 rf_128_0 ?_
                refine hh_bipush dX12_entry_235 (by decide) ?_
                refine hh_dup2 dX12_entry_237 (fun _ => rfl) (fun _ => rfl) ?_
                replace h := h _ rfl
                obtain ⟨⟨q1, q2⟩, h⟩ := h
                refine hh_iald dX12_entry_238 ra_129 (by decide) rfl ?_
                refine hh_iconst dX12_entry_239 (by decide) ?_
                refine hh_iadd dX12_entry_240 q1 ?_
                refine hh_iast dX12_entry_241 ra_129 (by decide) ?_
                refine hh_aload_n dX12_entry_242 rfl ?_
                refine hh_getR dX12_entry_243 kf_X12_7 rf_128_0 ?_
                refine hh_bipush dX12_entry_246 (by decide) ?_
                refine hh_iald dX12_entry_248 ra_129 (by decide) rfl ?_
                refine hh_iconst dX12_entry_249 (by decide) ?_
                refine hh_isub dX12_entry_250 q2 ?_
                exact hh_ireturn dX12_entry_251 rfl h
              · replace h := h.2 c
                refine hh_ldc (n := -1000000003) dX12_entry_83 kc_X12_73 (by decide) ?_
                exact hh_ireturn dX12_entry_85 rfl h
            · replace h := h.2 c
              refine hh_ldc (n := -1000000002) dX12_entry_68 kc_X12_91 (by decide) ?_
              exact hh_ireturn dX12_entry_70 rfl h
          · replace h := h.2 c
            refine hh_ldc (n := -1000000001) dX12_entry_42 kc_X12_72 (by decide) ?_
            exact hh_ireturn dX12_entry_44 rfl h
theorem wp_X12_entry {d : Nat} (a1 a2 a3 a4 a5 : Int) {σ : hh_S} {Q : Int → hh_S → Prop} (h : hh_cs σ → hh_can a1 → hh_can a2 → hh_can a3 → hh_can a4 → hh_can a5 → P_X12_entry d a1 a2 a3 a4 a5 σ Q) : hh_Sp (d + 1) hm_X12_entry [hh_R 128, hh_I a1, hh_I a2, hh_I a3, hh_I a4, hh_I a5] σ Q :=
  hh_entry rfl (Nat.le_of_ble_eq_true rfl) rfl (fun hs hc => w_X12_entry (h hs (hc _ (List.mem_of_getElem? (i := 1) rfl)) (hc _ (List.mem_of_getElem? (i := 2) rfl)) (hc _ (List.mem_of_getElem? (i := 3) rfl)) (hc _ (List.mem_of_getElem? (i := 4) rfl)) (hc _ (List.mem_of_getElem? (i := 5) rfl))))
def P_X12_isEntry (d : Nat) (a1 : Int) (σ : hh_S) (Q : Int → hh_S → Prop) : Prop :=
  ((-2147483648 ≤ σ 129 7 - 1 ∧ σ 129 7 - 1 ≤ 2147483647)) ∧ (hh_Sp d hm_X12_in [hh_I a1, hh_I 0, hh_I (σ 129 7 - 1)] σ (fun r11 σ11 => ((r11 = 0 ∨ r11 = 1)) ∧ (Q r11 σ11)))
set_option maxRecDepth 20000 in
theorem w_X12_isEntry {d : Nat} {a1 : Int} {σ : hh_S} {Q : Int → hh_S → Prop} (h : P_X12_isEntry d a1 σ Q) : hh_J (d + 1) hm_X12_isEntry 0 [some (hh_R 128), some (hh_I a1)] [] σ Q := by
  unfold P_X12_isEntry at h
  obtain ⟨q1, h⟩ := h
  refine hh_iload_n dX12_isEntry_0 rfl ?_
  refine hh_iconst dX12_isEntry_1 (by decide) ?_
  refine hh_aload_n dX12_isEntry_2 rfl ?_
  refine hh_getR dX12_isEntry_3 kf_X12_7 rf_128_0 ?_
  refine hh_bipush dX12_isEntry_6 (by decide) ?_
  refine hh_iald dX12_isEntry_8 ra_129 (by decide) rfl ?_
  refine hh_iconst dX12_isEntry_9 (by decide) ?_
  refine hh_isub dX12_isEntry_10 q1 ?_
  refine hh_cS3 dX12_isEntry_11 lk_X12_68 mo_X12_in (Nat.le_of_ble_eq_true rfl) h (fun r11 σ11 h => ?_)
  obtain ⟨q1, h⟩ := h
  exact hh_zreturn dX12_isEntry_14 rfl q1 h
theorem wp_X12_isEntry {d : Nat} (a1 : Int) {σ : hh_S} {Q : Int → hh_S → Prop} (h : hh_cs σ → hh_can a1 → P_X12_isEntry d a1 σ Q) : hh_Sp (d + 1) hm_X12_isEntry [hh_R 128, hh_I a1] σ Q :=
  hh_entry rfl (Nat.le_of_ble_eq_true rfl) rfl (fun hs hc => w_X12_isEntry (h hs (hc _ (List.mem_of_getElem? (i := 1) rfl))))
def P_X12_withdraw (d : Nat) (a1 : Int) (σ : hh_S) (Q : Int → hh_S → Prop) : Prop :=
  hh_Sp d hm_X12_isEntry [hh_R 128, hh_I a1] σ (fun r2 σ2 => (¬ r2 = 0 → ((-2147483648 ≤ 12 * a1 ∧ 12 * a1 ≤ 2147483647) ∧ (-2147483648 ≤ 250 + 12 * a1 ∧ 250 + 12 * a1 ≤ 2147483647) ∧ (-2147483648 ≤ 250 + 12 * a1 + 7 ∧ 250 + 12 * a1 + 7 ≤ 2147483647) ∧ (0 ≤ 250 + 12 * a1 + 7 ∧ 250 + 12 * a1 + 7 < 9100)) ∧ ((¬ σ2 129 (250 + 12 * a1 + 7) = (-1) → Q (-1000000002) σ2) ∧ (σ2 129 (250 + 12 * a1 + 7) = (-1) → ((-2147483648 ≤ 250 + 12 * a1 + 8 ∧ 250 + 12 * a1 + 8 ≤ 2147483647) ∧ (0 ≤ 250 + 12 * a1 + 8 ∧ 250 + 12 * a1 + 8 < 9100)) ∧ ((σ2 129 (250 + 12 * a1 + 8) = (-1) → ((-2147483648 ≤ 250 + 12 * a1 + 7 ∧ 250 + 12 * a1 + 7 ≤ 2147483647) ∧ (0 ≤ 250 + 12 * a1 + 7 ∧ 250 + 12 * a1 + 7 < 9100)) ∧ (Q 1 (hh_up σ2 129 (250 + 12 * a1 + 7) (σ2 129 0)))) ∧ (¬ σ2 129 (250 + 12 * a1 + 8) = (-1) → Q (-1000000002) σ2))))) ∧ (r2 = 0 → Q (-1000000001) σ2))
set_option maxRecDepth 20000 in
theorem w_X12_withdraw {d : Nat} {a1 : Int} {σ : hh_S} {Q : Int → hh_S → Prop} (h : P_X12_withdraw d a1 σ Q) : hh_J (d + 1) hm_X12_withdraw 0 [some (hh_R 128), some (hh_I a1), none] [] σ Q := by
  unfold P_X12_withdraw at h
  refine hh_aload_n dX12_withdraw_0 rfl ?_
  refine hh_iload_n dX12_withdraw_1 rfl ?_
  refine hh_cV1 dX12_withdraw_2 lk_X12_98 mo_X12_isEntry rc_128 (Nat.le_of_ble_eq_true rfl) h (fun r2 σ2 h => ?_)
  refine hh_if_ne (tgt := 11) dX12_withdraw_5 (by decide) (fun c => ?_) (fun c => ?_)
  · replace h := h.1 c
    obtain ⟨⟨q1, q2, q3, q4⟩, h⟩ := h
    refine hh_sipush dX12_withdraw_11 (by decide) ?_
    refine hh_bipush dX12_withdraw_14 (by decide) ?_
    refine hh_iload_n dX12_withdraw_16 rfl ?_
    refine hh_imul dX12_withdraw_17 q1 ?_
    refine hh_iadd dX12_withdraw_18 q2 ?_
    refine hh_istore_n dX12_withdraw_19 (by decide) rfl ?_
    refine hh_aload_n dX12_withdraw_20 rfl ?_
    refine hh_getR dX12_withdraw_21 kf_X12_7 rf_128_0 ?_
    refine hh_iload_n dX12_withdraw_24 rfl ?_
    refine hh_bipush dX12_withdraw_25 (by decide) ?_
    refine hh_iadd dX12_withdraw_27 q3 ?_
    refine hh_iald dX12_withdraw_28 ra_129 q4 rfl ?_
    refine hh_iconst dX12_withdraw_29 (by decide) ?_
    refine hh_icmp_ne (tgt := 46) dX12_withdraw_30 (by decide) (fun c => ?_) (fun c => ?_)
    · replace h := h.1 c
      refine hh_ldc (n := -1000000002) dX12_withdraw_46 kc_X12_91 (by decide) ?_
      exact hh_ireturn dX12_withdraw_48 rfl h
    · replace h := h.2 c
      obtain ⟨⟨q1, q2⟩, h⟩ := h
      refine hh_aload_n dX12_withdraw_33 rfl ?_
      refine hh_getR dX12_withdraw_34 kf_X12_7 rf_128_0 ?_
      refine hh_iload_n dX12_withdraw_37 rfl ?_
      refine hh_bipush dX12_withdraw_38 (by decide) ?_
      refine hh_iadd dX12_withdraw_40 q1 ?_
      refine hh_iald dX12_withdraw_41 ra_129 q2 rfl ?_
      refine hh_iconst dX12_withdraw_42 (by decide) ?_
      refine hh_icmp_eq (tgt := 49) dX12_withdraw_43 (by decide) (fun c => ?_) (fun c => ?_)
      · replace h := h.1 c
        obtain ⟨⟨q1, q2⟩, h⟩ := h
        refine hh_aload_n dX12_withdraw_49 rfl ?_
        refine hh_getR dX12_withdraw_50 kf_X12_7 rf_128_0 ?_
        refine hh_iload_n dX12_withdraw_53 rfl ?_
        refine hh_bipush dX12_withdraw_54 (by decide) ?_
        refine hh_iadd dX12_withdraw_56 q1 ?_
        refine hh_aload_n dX12_withdraw_57 rfl ?_
        refine hh_getR dX12_withdraw_58 kf_X12_7 rf_128_0 ?_
        refine hh_iconst dX12_withdraw_61 (by decide) ?_
        refine hh_iald dX12_withdraw_62 ra_129 (by decide) rfl ?_
        refine hh_iast dX12_withdraw_63 ra_129 q2 ?_
        refine hh_iconst dX12_withdraw_64 (by decide) ?_
        exact hh_ireturn dX12_withdraw_65 rfl h
      · replace h := h.2 c
        refine hh_ldc (n := -1000000002) dX12_withdraw_46 kc_X12_91 (by decide) ?_
        exact hh_ireturn dX12_withdraw_48 rfl h
  · replace h := h.2 c
    refine hh_ldc (n := -1000000001) dX12_withdraw_8 kc_X12_72 (by decide) ?_
    exact hh_ireturn dX12_withdraw_10 rfl h
theorem wp_X12_withdraw {d : Nat} (a1 : Int) {σ : hh_S} {Q : Int → hh_S → Prop} (h : hh_cs σ → hh_can a1 → P_X12_withdraw d a1 σ Q) : hh_Sp (d + 1) hm_X12_withdraw [hh_R 128, hh_I a1] σ Q :=
  hh_entry rfl (Nat.le_of_ble_eq_true rfl) rfl (fun hs hc => w_X12_withdraw (h hs (hc _ (List.mem_of_getElem? (i := 1) rfl))))
def P_X12_door (d : Nat) (a1 a2 a3 : Int) (σ : hh_S) (Q : Int → hh_S → Prop) : Prop :=
  hh_Sp d hm_X12_isPerson [hh_R 128, hh_I a1] σ (fun r2 σ2 => (r2 = 0 → Q (-1000000001) σ2) ∧ (¬ r2 = 0 → hh_Sp d hm_X12_isPast [hh_R 128, hh_I a2] σ2 (fun r10 σ10 => (r10 = 0 → Q (-1000000001) σ10) ∧ (¬ r10 = 0 → hh_Sp d hm_X12_areParts [hh_I a3] σ10 (fun r17 σ17 => (¬ r17 = 0 → (¬ σ17 129 8 = 60 → ((-2147483648 ≤ 5 * (σ17 129 8) ∧ 5 * (σ17 129 8) ≤ 2147483647) ∧ (-2147483648 ≤ 1330 + (5 * (σ17 129 8)) ∧ 1330 + (5 * (σ17 129 8)) ≤ 2147483647) ∧ (0 ≤ 1330 + (5 * (σ17 129 8)) ∧ 1330 + (5 * (σ17 129 8)) < 9100) ∧ (-2147483648 ≤ 1330 + (5 * (σ17 129 8)) + 1 ∧ 1330 + (5 * (σ17 129 8)) + 1 ≤ 2147483647) ∧ (0 ≤ 1330 + (5 * (σ17 129 8)) + 1 ∧ 1330 + (5 * (σ17 129 8)) + 1 < 9100) ∧ (-2147483648 ≤ 1330 + (5 * (σ17 129 8)) + 2 ∧ 1330 + (5 * (σ17 129 8)) + 2 ≤ 2147483647) ∧ 0 ≤ a3 ∧ (0 ≤ 1330 + (5 * (σ17 129 8)) + 2 ∧ 1330 + (5 * (σ17 129 8)) + 2 < 9100) ∧ (-2147483648 ≤ 1330 + (5 * (σ17 129 8)) + 3 ∧ 1330 + (5 * (σ17 129 8)) + 3 ≤ 2147483647) ∧ (0 ≤ 1330 + (5 * (σ17 129 8)) + 3 ∧ 1330 + (5 * (σ17 129 8)) + 3 < 9100) ∧ (-2147483648 ≤ 1330 + (5 * (σ17 129 8)) + 4 ∧ 1330 + (5 * (σ17 129 8)) + 4 ≤ 2147483647)) ∧ (∀ τ115 : hh_S, τ115 = (hh_up (hh_up (hh_up (hh_up σ17 129 (1330 + (5 * (σ17 129 8))) a1) 129 (1330 + (5 * (σ17 129 8)) + 1) a2) 129 (1330 + (5 * (σ17 129 8)) + 2) (a3 / 1000)) 129 (1330 + (5 * (σ17 129 8)) + 3) (a3 % 1000)) → ((0 ≤ 1330 + (5 * (σ17 129 8)) + 4 ∧ 1330 + (5 * (σ17 129 8)) + 4 < 9100)) ∧ (∀ τ124 : hh_S, τ124 = (hh_up τ115 129 (1330 + (5 * (σ17 129 8)) + 4) (τ115 129 0)) → ((-2147483648 ≤ τ124 129 8 + 1 ∧ τ124 129 8 + 1 ≤ 2147483647)) ∧ (Q (τ124 129 8 + 1) (hh_up τ124 129 8 (τ124 129 8 + 1)))))) ∧ (σ17 129 8 = 60 → Q (-1000000003) σ17)) ∧ (r17 = 0 → Q (-1000000001) σ17))))))
set_option maxRecDepth 20000 in
theorem w_X12_door {d : Nat} {a1 a2 a3 : Int} {σ : hh_S} {Q : Int → hh_S → Prop} (h : P_X12_door d a1 a2 a3 σ Q) : hh_J (d + 1) hm_X12_door 0 [some (hh_R 128), some (hh_I a1), some (hh_I a2), some (hh_I a3), none] [] σ Q := by
  unfold P_X12_door at h
  refine hh_aload_n dX12_door_0 rfl ?_
  refine hh_iload_n dX12_door_1 rfl ?_
  refine hh_cV1 dX12_door_2 lk_X12_74 mo_X12_isPerson rc_128 (Nat.le_of_ble_eq_true rfl) h (fun r2 σ2 h => ?_)
  refine hh_if_eq (tgt := 23) dX12_door_5 (by decide) (fun c => ?_) (fun c => ?_)
  · replace h := h.1 c
    refine hh_ldc (n := -1000000001) dX12_door_23 kc_X12_72 (by decide) ?_
    exact hh_ireturn dX12_door_25 rfl h
  · replace h := h.2 c
    refine hh_aload_n dX12_door_8 rfl ?_
    refine hh_iload_n dX12_door_9 rfl ?_
    refine hh_cV1 dX12_door_10 lk_X12_92 mo_X12_isPast rc_128 (Nat.le_of_ble_eq_true rfl) h (fun r10 σ10 h => ?_)
    refine hh_if_eq (tgt := 23) dX12_door_13 (by decide) (fun c => ?_) (fun c => ?_)
    · replace h := h.1 c
      refine hh_ldc (n := -1000000001) dX12_door_23 kc_X12_72 (by decide) ?_
      exact hh_ireturn dX12_door_25 rfl h
    · replace h := h.2 c
      refine hh_iload_n dX12_door_16 rfl ?_
      refine hh_cS1 dX12_door_17 lk_X12_95 mo_X12_areParts (Nat.le_of_ble_eq_true rfl) h (fun r17 σ17 h => ?_)
      refine hh_if_ne (tgt := 26) dX12_door_20 (by decide) (fun c => ?_) (fun c => ?_)
      · replace h := h.1 c
        refine hh_aload_n dX12_door_26 rfl ?_
        refine hh_getR dX12_door_27 kf_X12_7 rf_128_0 ?_
        refine hh_bipush dX12_door_30 (by decide) ?_
        refine hh_iald dX12_door_32 ra_129 (by decide) rfl ?_
        refine hh_bipush dX12_door_33 (by decide) ?_
        refine hh_icmp_ne (tgt := 41) dX12_door_35 (by decide) (fun c => ?_) (fun c => ?_)
        · replace h := h.1 c
          obtain ⟨⟨q1, q2, q3, q4, q5, q6, q7, q8, q9, q10, q11⟩, h⟩ := h
          refine hh_sipush dX12_door_41 (by decide) ?_
          refine hh_iconst dX12_door_44 (by decide) ?_
          refine hh_aload_n dX12_door_45 rfl ?_
          refine hh_getR dX12_door_46 kf_X12_7 rf_128_0 ?_
          refine hh_bipush dX12_door_49 (by decide) ?_
          refine hh_iald dX12_door_51 ra_129 (by decide) rfl ?_
          refine hh_imul dX12_door_52 q1 ?_
          refine hh_iadd dX12_door_53 q2 ?_
          refine hh_istore dX12_door_54 (by decide) rfl ?_
          refine hh_aload_n dX12_door_56 rfl ?_
          refine hh_getR dX12_door_57 kf_X12_7 rf_128_0 ?_
          refine hh_iload dX12_door_60 rfl ?_
          refine hh_iload_n dX12_door_62 rfl ?_
          refine hh_iast dX12_door_63 ra_129 q3 ?_
          refine hh_aload_n dX12_door_64 rfl ?_
          refine hh_getR dX12_door_65 kf_X12_7 rf_128_0 ?_
          refine hh_iload dX12_door_68 rfl ?_
          refine hh_iconst dX12_door_70 (by decide) ?_
          refine hh_iadd dX12_door_71 q4 ?_
          refine hh_iload_n dX12_door_72 rfl ?_
          refine hh_iast dX12_door_73 ra_129 q5 ?_
          refine hh_aload_n dX12_door_74 rfl ?_
          refine hh_getR dX12_door_75 kf_X12_7 rf_128_0 ?_
          refine hh_iload dX12_door_78 rfl ?_
          refine hh_iconst dX12_door_80 (by decide) ?_
          refine hh_iadd dX12_door_81 q6 ?_
          refine hh_iload_n dX12_door_82 rfl ?_
          refine hh_sipush dX12_door_83 (by decide) ?_
          refine hh_idiv dX12_door_86 q7 (by decide) ?_
          refine hh_iast dX12_door_87 ra_129 q8 ?_
          refine hh_aload_n dX12_door_88 rfl ?_
          refine hh_getR dX12_door_89 kf_X12_7 rf_128_0 ?_
          refine hh_iload dX12_door_92 rfl ?_
          refine hh_iconst dX12_door_94 (by decide) ?_
          refine hh_iadd dX12_door_95 q9 ?_
          refine hh_iload_n dX12_door_96 rfl ?_
          refine hh_sipush dX12_door_97 (by decide) ?_
          refine hh_irem dX12_door_100 q7 (by decide) ?_
          refine hh_iast dX12_door_101 ra_129 q10 ?_
          refine hh_aload_n dX12_door_102 rfl ?_
          refine hh_getR dX12_door_103 kf_X12_7 rf_128_0 ?_
          refine hh_iload dX12_door_106 rfl ?_
          refine hh_iconst dX12_door_108 (by decide) ?_
          refine hh_iadd dX12_door_109 q11 ?_
          refine hh_aload_n dX12_door_110 rfl ?_
          refine hh_getR dX12_door_111 kf_X12_7 rf_128_0 ?_
          refine hh_iconst dX12_door_114 (by decide) ?_
          replace h := h _ rfl
          obtain ⟨q1, h⟩ := h
          refine hh_iald dX12_door_115 ra_129 (by decide) rfl ?_
          refine hh_iast dX12_door_116 ra_129 q1 ?_
          refine hh_aload_n dX12_door_117 rfl ?_
          refine hh_getR dX12_door_118 kf_X12_7 rf_128_0 ?_
          refine hh_bipush dX12_door_121 (by decide) ?_
          refine hh_dup2 dX12_door_123 (fun _ => rfl) (fun _ => rfl) ?_
          replace h := h _ rfl
          obtain ⟨q1, h⟩ := h
          refine hh_iald dX12_door_124 ra_129 (by decide) rfl ?_
          refine hh_iconst dX12_door_125 (by decide) ?_
          refine hh_iadd dX12_door_126 q1 ?_
          refine hh_iast dX12_door_127 ra_129 (by decide) ?_
          refine hh_aload_n dX12_door_128 rfl ?_
          refine hh_getR dX12_door_129 kf_X12_7 rf_128_0 ?_
          refine hh_bipush dX12_door_132 (by decide) ?_
          refine hh_iald dX12_door_134 ra_129 (by decide) rfl ?_
          exact hh_ireturn dX12_door_135 rfl h
        · replace h := h.2 c
          refine hh_ldc (n := -1000000003) dX12_door_38 kc_X12_73 (by decide) ?_
          exact hh_ireturn dX12_door_40 rfl h
      · replace h := h.2 c
        refine hh_ldc (n := -1000000001) dX12_door_23 kc_X12_72 (by decide) ?_
        exact hh_ireturn dX12_door_25 rfl h
theorem wp_X12_door {d : Nat} (a1 a2 a3 : Int) {σ : hh_S} {Q : Int → hh_S → Prop} (h : hh_cs σ → hh_can a1 → hh_can a2 → hh_can a3 → P_X12_door d a1 a2 a3 σ Q) : hh_Sp (d + 1) hm_X12_door [hh_R 128, hh_I a1, hh_I a2, hh_I a3] σ Q :=
  hh_entry rfl (Nat.le_of_ble_eq_true rfl) rfl (fun hs hc => w_X12_door (h hs (hc _ (List.mem_of_getElem? (i := 1) rfl)) (hc _ (List.mem_of_getElem? (i := 2) rfl)) (hc _ (List.mem_of_getElem? (i := 3) rfl))))
def B_X12_isKnown_48 (d : Nat) (Q : Int → hh_S → Prop) (σ : hh_S) : Prop :=
  Q 1 σ
def P_X12_isKnown (d : Nat) (a1 a2 : Int) (σ : hh_S) (Q : Int → hh_S → Prop) : Prop :=
  ((-2147483648 ≤ 12 * a1 ∧ 12 * a1 ≤ 2147483647) ∧ (-2147483648 ≤ 250 + 12 * a1 ∧ 250 + 12 * a1 ≤ 2147483647) ∧ (-2147483648 ≤ 250 + 12 * a1 + 6 ∧ 250 + 12 * a1 + 6 ≤ 2147483647) ∧ (0 ≤ 250 + 12 * a1 + 6 ∧ 250 + 12 * a1 + 6 < 9100)) ∧ ((a2 < σ 129 (250 + 12 * a1 + 6) → Q 0 σ) ∧ (¬ a2 < σ 129 (250 + 12 * a1 + 6) → ((-2147483648 ≤ 250 + 12 * a1 + 7 ∧ 250 + 12 * a1 + 7 ≤ 2147483647) ∧ (0 ≤ 250 + 12 * a1 + 7 ∧ 250 + 12 * a1 + 7 < 9100)) ∧ ((σ 129 (250 + 12 * a1 + 7) = (-1) → B_X12_isKnown_48 d Q σ) ∧ (¬ σ 129 (250 + 12 * a1 + 7) = (-1) → ((-2147483648 ≤ 250 + 12 * a1 + 7 ∧ 250 + 12 * a1 + 7 ≤ 2147483647) ∧ (0 ≤ 250 + 12 * a1 + 7 ∧ 250 + 12 * a1 + 7 < 9100)) ∧ ((σ 129 (250 + 12 * a1 + 7) ≤ a2 → Q 0 σ) ∧ (¬ σ 129 (250 + 12 * a1 + 7) ≤ a2 → B_X12_isKnown_48 d Q σ))))))
set_option maxRecDepth 20000 in
theorem w_X12_isKnown_48 {d : Nat} {Q : Int → hh_S → Prop} (σ : hh_S) (h : B_X12_isKnown_48 d Q σ) : hh_J (d + 1) hm_X12_isKnown 48 [none, none, none, none] [] σ Q := by
  unfold B_X12_isKnown_48 at h
  refine hh_iconst dX12_isKnown_48 (by decide) ?_
  refine hh_goto (tgt := 53) dX12_isKnown_49 (by decide) ?_
  exact hh_zreturn dX12_isKnown_53 rfl (by decide) h
set_option maxRecDepth 20000 in
theorem w_X12_isKnown {d : Nat} {a1 a2 : Int} {σ : hh_S} {Q : Int → hh_S → Prop} (h : P_X12_isKnown d a1 a2 σ Q) : hh_J (d + 1) hm_X12_isKnown 0 [some (hh_R 128), some (hh_I a1), some (hh_I a2), none] [] σ Q := by
  unfold P_X12_isKnown at h
  obtain ⟨⟨q1, q2, q3, q4⟩, h⟩ := h
  refine hh_sipush dX12_isKnown_0 (by decide) ?_
  refine hh_bipush dX12_isKnown_3 (by decide) ?_
  refine hh_iload_n dX12_isKnown_5 rfl ?_
  refine hh_imul dX12_isKnown_6 q1 ?_
  refine hh_iadd dX12_isKnown_7 q2 ?_
  refine hh_istore_n dX12_isKnown_8 (by decide) rfl ?_
  refine hh_aload_n dX12_isKnown_9 rfl ?_
  refine hh_getR dX12_isKnown_10 kf_X12_7 rf_128_0 ?_
  refine hh_iload_n dX12_isKnown_13 rfl ?_
  refine hh_bipush dX12_isKnown_14 (by decide) ?_
  refine hh_iadd dX12_isKnown_16 q3 ?_
  refine hh_iald dX12_isKnown_17 ra_129 q4 rfl ?_
  refine hh_iload_n dX12_isKnown_18 rfl ?_
  refine hh_icmp_gt (tgt := 52) dX12_isKnown_19 (by decide) (fun c => ?_) (fun c => ?_)
  · replace h := h.1 c
    refine hh_iconst dX12_isKnown_52 (by decide) ?_
    exact hh_zreturn dX12_isKnown_53 rfl (by decide) h
  · replace h := h.2 c
    obtain ⟨⟨q1, q2⟩, h⟩ := h
    refine hh_aload_n dX12_isKnown_22 rfl ?_
    refine hh_getR dX12_isKnown_23 kf_X12_7 rf_128_0 ?_
    refine hh_iload_n dX12_isKnown_26 rfl ?_
    refine hh_bipush dX12_isKnown_27 (by decide) ?_
    refine hh_iadd dX12_isKnown_29 q1 ?_
    refine hh_iald dX12_isKnown_30 ra_129 q2 rfl ?_
    refine hh_iconst dX12_isKnown_31 (by decide) ?_
    refine hh_icmp_eq (tgt := 48) dX12_isKnown_32 (by decide) (fun c => ?_) (fun c => ?_)
    · replace h := h.1 c
      exact hh_forget [false, false, false, false] (w_X12_isKnown_48 _ h)
    · replace h := h.2 c
      obtain ⟨⟨q1, q2⟩, h⟩ := h
      refine hh_aload_n dX12_isKnown_35 rfl ?_
      refine hh_getR dX12_isKnown_36 kf_X12_7 rf_128_0 ?_
      refine hh_iload_n dX12_isKnown_39 rfl ?_
      refine hh_bipush dX12_isKnown_40 (by decide) ?_
      refine hh_iadd dX12_isKnown_42 q1 ?_
      refine hh_iald dX12_isKnown_43 ra_129 q2 rfl ?_
      refine hh_iload_n dX12_isKnown_44 rfl ?_
      refine hh_icmp_le (tgt := 52) dX12_isKnown_45 (by decide) (fun c => ?_) (fun c => ?_)
      · replace h := h.1 c
        refine hh_iconst dX12_isKnown_52 (by decide) ?_
        exact hh_zreturn dX12_isKnown_53 rfl (by decide) h
      · replace h := h.2 c
        exact hh_forget [false, false, false, false] (w_X12_isKnown_48 _ h)
theorem wp_X12_isKnown {d : Nat} (a1 a2 : Int) {σ : hh_S} {Q : Int → hh_S → Prop} (h : hh_cs σ → hh_can a1 → hh_can a2 → P_X12_isKnown d a1 a2 σ Q) : hh_Sp (d + 1) hm_X12_isKnown [hh_R 128, hh_I a1, hh_I a2] σ Q :=
  hh_entry rfl (Nat.le_of_ble_eq_true rfl) rfl (fun hs hc => w_X12_isKnown (h hs (hc _ (List.mem_of_getElem? (i := 1) rfl)) (hc _ (List.mem_of_getElem? (i := 2) rfl))))
def P_X12_more (d : Nat) (a0 a1 : Int) (σ : hh_S) (Q : Int → hh_S → Prop) : Prop :=
  (a0 ≤ a1 → Q a1 σ) ∧ (¬ a0 ≤ a1 → Q a0 σ)
set_option maxRecDepth 20000 in
theorem w_X12_more {d : Nat} {a0 a1 : Int} {σ : hh_S} {Q : Int → hh_S → Prop} (h : P_X12_more d a0 a1 σ Q) : hh_J (d + 1) hm_X12_more 0 [some (hh_I a0), some (hh_I a1)] [] σ Q := by
  unfold P_X12_more at h
  refine hh_iload_n dX12_more_0 rfl ?_
  refine hh_iload_n dX12_more_1 rfl ?_
  refine hh_icmp_le (tgt := 9) dX12_more_2 (by decide) (fun c => ?_) (fun c => ?_)
  · replace h := h.1 c
    refine hh_iload_n dX12_more_9 rfl ?_
    exact hh_ireturn dX12_more_10 rfl h
  · replace h := h.2 c
    refine hh_iload_n dX12_more_5 rfl ?_
    refine hh_goto (tgt := 10) dX12_more_6 (by decide) ?_
    exact hh_ireturn dX12_more_10 rfl h
theorem wp_X12_more {d : Nat} (a0 a1 : Int) {σ : hh_S} {Q : Int → hh_S → Prop} (h : hh_cs σ → hh_can a0 → hh_can a1 → P_X12_more d a0 a1 σ Q) : hh_Sp (d + 1) hm_X12_more [hh_I a0, hh_I a1] σ Q :=
  hh_entry rfl (Nat.le_of_ble_eq_true rfl) rfl (fun hs hc => w_X12_more (h hs (hc _ (List.mem_of_getElem? (i := 0) rfl)) (hc _ (List.mem_of_getElem? (i := 1) rfl))))
def B_X12_written_400 (d : Nat) (Q : Int → hh_S → Prop) (x4 x5 x7 x8 : Int) (σ : hh_S) : Prop :=
  (¬ x4 = 0 → (¬ x4 = 1 → (¬ x4 = 2 → Q x8 σ) ∧ (x4 = 2 → Q x7 σ)) ∧ (x4 = 1 → ((-2147483648 ≤ x5 - (σ 129 1) ∧ x5 - (σ 129 1) ≤ 2147483647)) ∧ (hh_Sp d hm_X12_more [hh_I 0, hh_I (x5 - (σ 129 1))] σ (fun r426 σ426 => Q r426 σ426)))) ∧ (x4 = 0 → Q x5 σ)
def B_X12_written_391 (d : Nat) (Q : Int → hh_S → Prop) (k330 : Int → Int → Int → Int → Int → Int → hh_S → Prop) (x4 x5 x6 x7 x9 s0 s1 : Int) (σ : hh_S) : Prop :=
  ((-2147483648 ≤ s0 + s1 ∧ s0 + s1 ≤ 2147483647) ∧ (-2147483648 ≤ x9 + 1 ∧ x9 + 1 ≤ 2147483647)) ∧ (k330 x4 x5 x6 x7 (s0 + s1) (x9 + 1) σ)
def B_X12_written_390 (d : Nat) (Q : Int → hh_S → Prop) (k330 : Int → Int → Int → Int → Int → Int → hh_S → Prop) (x4 x5 x6 x7 x9 s0 : Int) (σ : hh_S) : Prop :=
  B_X12_written_391 d Q k330 x4 x5 x6 x7 x9 s0 0 σ
def B_X12_written_356 (d : Nat) (Q : Int → hh_S → Prop) (k330 : Int → Int → Int → Int → Int → Int → hh_S → Prop) (x4 x5 x6 x8 x9 s0 s1 : Int) (σ : hh_S) : Prop :=
  ((-2147483648 ≤ s0 + s1 ∧ s0 + s1 ≤ 2147483647)) ∧ ((x6 ≤ 0 → B_X12_written_390 d Q k330 x4 x5 x6 (s0 + s1) x9 x8 σ) ∧ (¬ x6 ≤ 0 → ((0 ≤ x9 ∧ x9 < 240)) ∧ ((σ 131 x9 ≤ 0 → B_X12_written_390 d Q k330 x4 x5 x6 (s0 + s1) x9 x8 σ) ∧ (¬ σ 131 x9 ≤ 0 → ((0 ≤ x9 ∧ x9 < 240)) ∧ ((¬ σ 132 x9 = 0 → B_X12_written_390 d Q k330 x4 x5 x6 (s0 + s1) x9 x8 σ) ∧ (σ 132 x9 = 0 → B_X12_written_391 d Q k330 x4 x5 x6 (s0 + s1) x9 x8 1 σ))))))
def B_X12_written_330 (d : Nat) (Q : Int → hh_S → Prop) (k330 : Int → Int → Int → Int → Int → Int → hh_S → Prop) (x4 x5 x6 x7 x8 x9 : Int) (σ : hh_S) : Prop :=
  (240 ≤ x9 → B_X12_written_400 d Q x4 x5 x7 x8 σ) ∧ (¬ 240 ≤ x9 → ((0 ≤ x9 ∧ x9 < 240)) ∧ ((σ 131 x9 ≤ 1 → B_X12_written_356 d Q k330 x4 x5 x6 x8 x9 x7 0 σ) ∧ (¬ σ 131 x9 ≤ 1 → B_X12_written_356 d Q k330 x4 x5 x6 x8 x9 x7 1 σ)))
def B_X12_written_321 (d : Nat) (Q : Int → hh_S → Prop) (x4 x5 x6 : Int) (σ : hh_S) : Prop :=
  ∃ n, hh_lp6 (B_X12_written_330 d Q) n x4 x5 x6 0 0 0 σ
def B_X12_written_315 (d : Nat) (Q : Int → hh_S → Prop) (k206 : Int → Int → Int → Int → Int → Int → Int → hh_S → Prop) (x1 x2 x3 x4 x5 x6 x7 : Int) (σ : hh_S) : Prop :=
  ((-2147483648 ≤ x7 + 1 ∧ x7 + 1 ≤ 2147483647)) ∧ (k206 x1 x2 x3 x4 x5 x6 (x7 + 1) σ)
def B_X12_written_274 (d : Nat) (Q : Int → hh_S → Prop) (k206 : Int → Int → Int → Int → Int → Int → Int → hh_S → Prop) (k274 : Int → Int → Int → Int → Int → Int → Int → Int → Int → hh_S → Prop) (x1 x2 x3 x4 x5 x6 x7 x8 x9 : Int) (σ : hh_S) : Prop :=
  ((-2147483648 ≤ x8 + 3 ∧ x8 + 3 ≤ 2147483647) ∧ (0 ≤ x8 + 3 ∧ x8 + 3 < 9100)) ∧ ((σ 129 (x8 + 3) ≤ x9 → B_X12_written_315 d Q k206 x1 x2 x3 x4 x5 x6 x7 σ) ∧ (¬ σ 129 (x8 + 3) ≤ x9 → ((-2147483648 ≤ x8 + 2 ∧ x8 + 2 ≤ 2147483647) ∧ (0 ≤ x8 + 2 ∧ x8 + 2 < 9100) ∧ (-2147483648 ≤ σ 129 (x8 + 2) + x9 ∧ σ 129 (x8 + 2) + x9 ≤ 2147483647) ∧ (0 ≤ σ 129 (x8 + 2) + x9 ∧ σ 129 (x8 + 2) + x9 < 240) ∧ (-2147483648 ≤ σ 132 (σ 129 (x8 + 2) + x9) + 1 ∧ σ 132 (σ 129 (x8 + 2) + x9) + 1 ≤ 2147483647) ∧ (-2147483648 ≤ x9 + 1 ∧ x9 + 1 ≤ 2147483647)) ∧ (k274 x1 x2 x3 x4 x5 x6 x7 x8 (x9 + 1) (hh_up σ 132 (σ 129 (x8 + 2) + x9) (σ 132 (σ 129 (x8 + 2) + x9) + 1)))))
def B_X12_written_206 (d : Nat) (Q : Int → hh_S → Prop) (k206 : Int → Int → Int → Int → Int → Int → Int → hh_S → Prop) (x1 x2 x3 x4 x5 x6 x7 : Int) (σ : hh_S) : Prop :=
  (σ 129 8 ≤ x7 → B_X12_written_321 d Q x4 x5 x6 σ) ∧ (¬ σ 129 8 ≤ x7 → ((-2147483648 ≤ 5 * x7 ∧ 5 * x7 ≤ 2147483647) ∧ (-2147483648 ≤ 1330 + 5 * x7 ∧ 1330 + 5 * x7 ≤ 2147483647) ∧ (0 ≤ 1330 + 5 * x7 ∧ 1330 + 5 * x7 < 9100)) ∧ ((¬ σ 129 (1330 + 5 * x7) = x1 → B_X12_written_315 d Q k206 x1 x2 x3 x4 x5 x6 x7 σ) ∧ (σ 129 (1330 + 5 * x7) = x1 → ((-2147483648 ≤ 1330 + 5 * x7 + 1 ∧ 1330 + 5 * x7 + 1 ≤ 2147483647) ∧ (0 ≤ 1330 + 5 * x7 + 1 ∧ 1330 + 5 * x7 + 1 < 9100)) ∧ ((¬ σ 129 (1330 + 5 * x7 + 1) = x2 → B_X12_written_315 d Q k206 x1 x2 x3 x4 x5 x6 x7 σ) ∧ (σ 129 (1330 + 5 * x7 + 1) = x2 → ((-2147483648 ≤ 1330 + 5 * x7 + 4 ∧ 1330 + 5 * x7 + 4 ≤ 2147483647) ∧ (0 ≤ 1330 + 5 * x7 + 4 ∧ 1330 + 5 * x7 + 4 < 9100)) ∧ ((σ 129 (1330 + 5 * x7 + 4) ≤ x3 → ((-2147483648 ≤ x6 + 1 ∧ x6 + 1 ≤ 2147483647)) ∧ (∃ n, hh_lp9 (B_X12_written_274 d Q k206) n x1 x2 x3 x4 x5 (x6 + 1) x7 (1330 + 5 * x7) 0 σ)) ∧ (¬ σ 129 (1330 + 5 * x7 + 4) ≤ x3 → B_X12_written_315 d Q k206 x1 x2 x3 x4 x5 x6 x7 σ)))))))
def B_X12_written_200 (d : Nat) (Q : Int → hh_S → Prop) (x1 x2 x3 x4 x5 : Int) (σ : hh_S) : Prop :=
  ∃ n, hh_lp7 (B_X12_written_206 d Q) n x1 x2 x3 x4 x5 0 0 σ
def B_X12_written_194 (d : Nat) (Q : Int → hh_S → Prop) (k76 : Int → Int → Int → Int → Int → Int → hh_S → Prop) (x1 x2 x3 x4 x5 x6 : Int) (σ : hh_S) : Prop :=
  ((-2147483648 ≤ x6 + 1 ∧ x6 + 1 ≤ 2147483647)) ∧ (k76 x1 x2 x3 x4 x5 (x6 + 1) σ)
def B_X12_written_153 (d : Nat) (Q : Int → hh_S → Prop) (k76 : Int → Int → Int → Int → Int → Int → hh_S → Prop) (k153 : Int → Int → Int → Int → Int → Int → Int → Int → hh_S → Prop) (x1 x2 x3 x4 x5 x6 x7 x8 : Int) (σ : hh_S) : Prop :=
  ((-2147483648 ≤ x7 + 4 ∧ x7 + 4 ≤ 2147483647) ∧ (0 ≤ x7 + 4 ∧ x7 + 4 < 9100)) ∧ ((σ 129 (x7 + 4) ≤ x8 → B_X12_written_194 d Q k76 x1 x2 x3 x4 x5 x6 σ) ∧ (¬ σ 129 (x7 + 4) ≤ x8 → ((-2147483648 ≤ x7 + 3 ∧ x7 + 3 ≤ 2147483647) ∧ (0 ≤ x7 + 3 ∧ x7 + 3 < 9100) ∧ (-2147483648 ≤ σ 129 (x7 + 3) + x8 ∧ σ 129 (x7 + 3) + x8 ≤ 2147483647) ∧ (0 ≤ σ 129 (x7 + 3) + x8 ∧ σ 129 (x7 + 3) + x8 < 240) ∧ (-2147483648 ≤ σ 131 (σ 129 (x7 + 3) + x8) + 1 ∧ σ 131 (σ 129 (x7 + 3) + x8) + 1 ≤ 2147483647) ∧ (-2147483648 ≤ x8 + 1 ∧ x8 + 1 ≤ 2147483647)) ∧ (k153 x1 x2 x3 x4 x5 x6 x7 (x8 + 1) (hh_up σ 131 (σ 129 (x7 + 3) + x8) (σ 131 (σ 129 (x7 + 3) + x8) + 1)))))
def B_X12_written_76 (d : Nat) (Q : Int → hh_S → Prop) (k76 : Int → Int → Int → Int → Int → Int → hh_S → Prop) (x1 x2 x3 x4 x5 x6 : Int) (σ : hh_S) : Prop :=
  (σ 129 7 ≤ x6 → B_X12_written_200 d Q x1 x2 x3 x4 x5 σ) ∧ (¬ σ 129 7 ≤ x6 → ((-2147483648 ≤ 12 * x6 ∧ 12 * x6 ≤ 2147483647) ∧ (-2147483648 ≤ 250 + 12 * x6 ∧ 250 + 12 * x6 ≤ 2147483647) ∧ (0 ≤ 250 + 12 * x6 ∧ 250 + 12 * x6 < 9100)) ∧ ((¬ σ 129 (250 + 12 * x6) = x1 → B_X12_written_194 d Q k76 x1 x2 x3 x4 x5 x6 σ) ∧ (σ 129 (250 + 12 * x6) = x1 → ((-2147483648 ≤ 250 + 12 * x6 + 2 ∧ 250 + 12 * x6 + 2 ≤ 2147483647) ∧ (0 ≤ 250 + 12 * x6 + 2 ∧ 250 + 12 * x6 + 2 < 9100)) ∧ ((¬ σ 129 (250 + 12 * x6 + 2) = x2 → B_X12_written_194 d Q k76 x1 x2 x3 x4 x5 x6 σ) ∧ (σ 129 (250 + 12 * x6 + 2) = x2 → hh_Sp d hm_X12_isKnown [hh_R 128, hh_I x6, hh_I x3] σ (fun r127 σ127 => (¬ r127 = 0 → ((-2147483648 ≤ 250 + 12 * x6 + 4 ∧ 250 + 12 * x6 + 4 ≤ 2147483647) ∧ (0 ≤ 250 + 12 * x6 + 4 ∧ 250 + 12 * x6 + 4 < 9100) ∧ (-2147483648 ≤ x5 + (σ127 129 (250 + 12 * x6 + 4)) ∧ x5 + (σ127 129 (250 + 12 * x6 + 4)) ≤ 2147483647)) ∧ (∃ n, hh_lp8 (B_X12_written_153 d Q k76) n x1 x2 x3 x4 (x5 + (σ127 129 (250 + 12 * x6 + 4))) x6 (250 + 12 * x6) 0 σ127)) ∧ (r127 = 0 → B_X12_written_194 d Q k76 x1 x2 x3 x4 x5 x6 σ127)))))))
def B_X12_written_70 (d : Nat) (Q : Int → hh_S → Prop) (x1 x2 x3 x4 : Int) (σ : hh_S) : Prop :=
  ∃ n, hh_lp6 (B_X12_written_76 d Q) n x1 x2 x3 x4 0 0 σ
def B_X12_written_40 (d : Nat) (Q : Int → hh_S → Prop) (k40 : Int → Int → Int → Int → Int → hh_S → Prop) (x1 x2 x3 x4 x5 : Int) (σ : hh_S) : Prop :=
  (240 ≤ x5 → B_X12_written_70 d Q x1 x2 x3 x4 σ) ∧ (¬ 240 ≤ x5 → ((0 ≤ x5 ∧ x5 < 240) ∧ (-2147483648 ≤ x5 + 1 ∧ x5 + 1 ≤ 2147483647)) ∧ (k40 x1 x2 x3 x4 (x5 + 1) (hh_up (hh_up σ 131 x5 0) 132 x5 0)))
def P_X12_written (d : Nat) (a1 a2 a3 a4 : Int) (σ : hh_S) (Q : Int → hh_S → Prop) : Prop :=
  hh_Sp d hm_X12_isPerson [hh_R 128, hh_I a1] σ (fun r2 σ2 => (r2 = 0 → Q (-1000000001) σ2) ∧ (¬ r2 = 0 → hh_Sp d hm_X12_isPast [hh_R 128, hh_I a2] σ2 (fun r10 σ10 => (r10 = 0 → Q (-1000000001) σ10) ∧ (¬ r10 = 0 → hh_Sp d hm_X12_isPast [hh_R 128, hh_I a3] σ10 (fun r18 σ18 => (r18 = 0 → Q (-1000000001) σ18) ∧ (¬ r18 = 0 → hh_Sp d hm_X12_in [hh_I a4, hh_I 0, hh_I 3] σ18 (fun r28 σ28 => (¬ r28 = 0 → ∃ n, hh_lp5 (B_X12_written_40 d Q) n a1 a2 a3 a4 0 σ28) ∧ (r28 = 0 → Q (-1000000001) σ28))))))))
set_option maxRecDepth 20000 in
theorem w_X12_written_400 {d : Nat} {Q : Int → hh_S → Prop} (x4 x5 x7 x8 : Int) (σ : hh_S) (h : B_X12_written_400 d Q x4 x5 x7 x8 σ) : hh_J (d + 1) hm_X12_written 400 [some (hh_R 128), none, none, none, some (hh_I x4), some (hh_I x5), none, some (hh_I x7), some (hh_I x8), none] [] σ Q := by
  unfold B_X12_written_400 at h
  refine hh_iload dX12_written_400 rfl ?_
  refine hh_if_ne (tgt := 410) dX12_written_402 (by decide) (fun c => ?_) (fun c => ?_)
  · replace h := h.1 c
    refine hh_iload dX12_written_410 rfl ?_
    refine hh_iconst dX12_written_412 (by decide) ?_
    refine hh_icmp_ne (tgt := 432) dX12_written_413 (by decide) (fun c => ?_) (fun c => ?_)
    · replace h := h.1 c
      refine hh_iload dX12_written_432 rfl ?_
      refine hh_iconst dX12_written_434 (by decide) ?_
      refine hh_icmp_ne (tgt := 443) dX12_written_435 (by decide) (fun c => ?_) (fun c => ?_)
      · replace h := h.1 c
        refine hh_iload dX12_written_443 rfl ?_
        exact hh_ireturn dX12_written_445 rfl h
      · replace h := h.2 c
        refine hh_iload dX12_written_438 rfl ?_
        refine hh_goto (tgt := 445) dX12_written_440 (by decide) ?_
        exact hh_ireturn dX12_written_445 rfl h
    · replace h := h.2 c
      obtain ⟨q1, h⟩ := h
      refine hh_iconst dX12_written_416 (by decide) ?_
      refine hh_iload dX12_written_417 rfl ?_
      refine hh_aload_n dX12_written_419 rfl ?_
      refine hh_getR dX12_written_420 kf_X12_7 rf_128_0 ?_
      refine hh_iconst dX12_written_423 (by decide) ?_
      refine hh_iald dX12_written_424 ra_129 (by decide) rfl ?_
      refine hh_isub dX12_written_425 q1 ?_
      refine hh_cS2 dX12_written_426 lk_X12_105 mo_X12_more (Nat.le_of_ble_eq_true rfl) h (fun r426 σ426 h => ?_)
      refine hh_goto (tgt := 445) dX12_written_429 (by decide) ?_
      exact hh_ireturn dX12_written_445 rfl h
  · replace h := h.2 c
    refine hh_iload dX12_written_405 rfl ?_
    refine hh_goto (tgt := 445) dX12_written_407 (by decide) ?_
    exact hh_ireturn dX12_written_445 rfl h
set_option maxRecDepth 20000 in
theorem w_X12_written_391 {d : Nat} {Q : Int → hh_S → Prop} {k330 : Int → Int → Int → Int → Int → Int → hh_S → Prop} (hk330 : ∀ (x4 x5 x6 x7 x8 x9 : Int) (σ : hh_S), k330 x4 x5 x6 x7 x8 x9 σ → hh_J (d + 1) hm_X12_written 330 [some (hh_R 128), none, none, none, some (hh_I x4), some (hh_I x5), some (hh_I x6), some (hh_I x7), some (hh_I x8), some (hh_I x9)] [] σ Q) (x4 x5 x6 x7 x9 s0 s1 : Int) (σ : hh_S) (h : B_X12_written_391 d Q k330 x4 x5 x6 x7 x9 s0 s1 σ) : hh_J (d + 1) hm_X12_written 391 [some (hh_R 128), none, none, none, some (hh_I x4), some (hh_I x5), some (hh_I x6), some (hh_I x7), none, some (hh_I x9)] [hh_I s1, hh_I s0] σ Q := by
  unfold B_X12_written_391 at h
  obtain ⟨⟨q1, q2⟩, h⟩ := h
  refine hh_iadd dX12_written_391 q1 ?_
  refine hh_istore dX12_written_392 (by decide) rfl ?_
  refine hh_iinc dX12_written_394 (by decide) rfl rfl q2 ?_
  refine hh_goto (tgt := 330) dX12_written_397 (by decide) ?_
  exact hh_forget [true, false, false, false, true, true, true, true, true, true] (hk330 _ _ _ _ _ _ _ h)
set_option maxRecDepth 20000 in
theorem w_X12_written_390 {d : Nat} {Q : Int → hh_S → Prop} {k330 : Int → Int → Int → Int → Int → Int → hh_S → Prop} (hk330 : ∀ (x4 x5 x6 x7 x8 x9 : Int) (σ : hh_S), k330 x4 x5 x6 x7 x8 x9 σ → hh_J (d + 1) hm_X12_written 330 [some (hh_R 128), none, none, none, some (hh_I x4), some (hh_I x5), some (hh_I x6), some (hh_I x7), some (hh_I x8), some (hh_I x9)] [] σ Q) (x4 x5 x6 x7 x9 s0 : Int) (σ : hh_S) (h : B_X12_written_390 d Q k330 x4 x5 x6 x7 x9 s0 σ) : hh_J (d + 1) hm_X12_written 390 [some (hh_R 128), none, none, none, some (hh_I x4), some (hh_I x5), some (hh_I x6), some (hh_I x7), none, some (hh_I x9)] [hh_I s0] σ Q := by
  unfold B_X12_written_390 at h
  refine hh_iconst dX12_written_390 (by decide) ?_
  exact hh_forget [true, false, false, false, true, true, true, true, false, true] (w_X12_written_391 hk330 _ _ _ _ _ _ _ _ h)
set_option maxRecDepth 20000 in
theorem w_X12_written_356 {d : Nat} {Q : Int → hh_S → Prop} {k330 : Int → Int → Int → Int → Int → Int → hh_S → Prop} (hk330 : ∀ (x4 x5 x6 x7 x8 x9 : Int) (σ : hh_S), k330 x4 x5 x6 x7 x8 x9 σ → hh_J (d + 1) hm_X12_written 330 [some (hh_R 128), none, none, none, some (hh_I x4), some (hh_I x5), some (hh_I x6), some (hh_I x7), some (hh_I x8), some (hh_I x9)] [] σ Q) (x4 x5 x6 x8 x9 s0 s1 : Int) (σ : hh_S) (h : B_X12_written_356 d Q k330 x4 x5 x6 x8 x9 s0 s1 σ) : hh_J (d + 1) hm_X12_written 356 [some (hh_R 128), none, none, none, some (hh_I x4), some (hh_I x5), some (hh_I x6), none, some (hh_I x8), some (hh_I x9)] [hh_I s1, hh_I s0] σ Q := by
  unfold B_X12_written_356 at h
  obtain ⟨q1, h⟩ := h
  refine hh_iadd dX12_written_356 q1 ?_
  refine hh_istore dX12_written_357 (by decide) rfl ?_
  refine hh_iload dX12_written_359 rfl ?_
  refine hh_iload dX12_written_361 rfl ?_
  refine hh_if_le (tgt := 390) dX12_written_363 (by decide) (fun c => ?_) (fun c => ?_)
  · replace h := h.1 c
    exact hh_forget [true, false, false, false, true, true, true, true, false, true] (w_X12_written_390 hk330 _ _ _ _ _ _ _ h)
  · replace h := h.2 c
    obtain ⟨q1, h⟩ := h
    refine hh_aload_n dX12_written_366 rfl ?_
    refine hh_getR dX12_written_367 kf_X12_16 rf_128_3 ?_
    refine hh_iload dX12_written_370 rfl ?_
    refine hh_iald dX12_written_372 ra_131 q1 rfl ?_
    refine hh_if_le (tgt := 390) dX12_written_373 (by decide) (fun c => ?_) (fun c => ?_)
    · replace h := h.1 c
      exact hh_forget [true, false, false, false, true, true, true, true, false, true] (w_X12_written_390 hk330 _ _ _ _ _ _ _ h)
    · replace h := h.2 c
      obtain ⟨q1, h⟩ := h
      refine hh_aload_n dX12_written_376 rfl ?_
      refine hh_getR dX12_written_377 kf_X12_19 rf_128_4 ?_
      refine hh_iload dX12_written_380 rfl ?_
      refine hh_iald dX12_written_382 ra_132 q1 rfl ?_
      refine hh_if_ne (tgt := 390) dX12_written_383 (by decide) (fun c => ?_) (fun c => ?_)
      · replace h := h.1 c
        exact hh_forget [true, false, false, false, true, true, true, true, false, true] (w_X12_written_390 hk330 _ _ _ _ _ _ _ h)
      · replace h := h.2 c
        refine hh_iconst dX12_written_386 (by decide) ?_
        refine hh_goto (tgt := 391) dX12_written_387 (by decide) ?_
        exact hh_forget [true, false, false, false, true, true, true, true, false, true] (w_X12_written_391 hk330 _ _ _ _ _ _ _ _ h)
set_option maxRecDepth 20000 in
theorem w_X12_written_330 {d : Nat} {Q : Int → hh_S → Prop} {k330 : Int → Int → Int → Int → Int → Int → hh_S → Prop} (hk330 : ∀ (x4 x5 x6 x7 x8 x9 : Int) (σ : hh_S), k330 x4 x5 x6 x7 x8 x9 σ → hh_J (d + 1) hm_X12_written 330 [some (hh_R 128), none, none, none, some (hh_I x4), some (hh_I x5), some (hh_I x6), some (hh_I x7), some (hh_I x8), some (hh_I x9)] [] σ Q) (x4 x5 x6 x7 x8 x9 : Int) (σ : hh_S) (h : B_X12_written_330 d Q k330 x4 x5 x6 x7 x8 x9 σ) : hh_J (d + 1) hm_X12_written 330 [some (hh_R 128), none, none, none, some (hh_I x4), some (hh_I x5), some (hh_I x6), some (hh_I x7), some (hh_I x8), some (hh_I x9)] [] σ Q := by
  unfold B_X12_written_330 at h
  refine hh_iload dX12_written_330 rfl ?_
  refine hh_sipush dX12_written_332 (by decide) ?_
  refine hh_icmp_ge (tgt := 400) dX12_written_335 (by decide) (fun c => ?_) (fun c => ?_)
  · replace h := h.1 c
    exact hh_forget [true, false, false, false, true, true, false, true, true, false] (w_X12_written_400 _ _ _ _ _ h)
  · replace h := h.2 c
    obtain ⟨q1, h⟩ := h
    refine hh_iload dX12_written_338 rfl ?_
    refine hh_aload_n dX12_written_340 rfl ?_
    refine hh_getR dX12_written_341 kf_X12_16 rf_128_3 ?_
    refine hh_iload dX12_written_344 rfl ?_
    refine hh_iald dX12_written_346 ra_131 q1 rfl ?_
    refine hh_iconst dX12_written_347 (by decide) ?_
    refine hh_icmp_le (tgt := 355) dX12_written_348 (by decide) (fun c => ?_) (fun c => ?_)
    · replace h := h.1 c
      refine hh_iconst dX12_written_355 (by decide) ?_
      exact hh_forget [true, false, false, false, true, true, true, false, true, true] (w_X12_written_356 hk330 _ _ _ _ _ _ _ _ h)
    · replace h := h.2 c
      refine hh_iconst dX12_written_351 (by decide) ?_
      refine hh_goto (tgt := 356) dX12_written_352 (by decide) ?_
      exact hh_forget [true, false, false, false, true, true, true, false, true, true] (w_X12_written_356 hk330 _ _ _ _ _ _ _ _ h)
theorem l_X12_written_330 {d : Nat} {Q : Int → hh_S → Prop} : ∀ (n : Nat) (x4 x5 x6 x7 x8 x9 : Int) (σ : hh_S), hh_lp6 (B_X12_written_330 d Q) n x4 x5 x6 x7 x8 x9 σ → hh_J (d + 1) hm_X12_written 330 [some (hh_R 128), none, none, none, some (hh_I x4), some (hh_I x5), some (hh_I x6), some (hh_I x7), some (hh_I x8), some (hh_I x9)] [] σ Q := by
  intro n
  induction n with
  | zero => intro _ _ _ _ _ _ _ h; exact h.elim
  | succ n ih => intro x4 x5 x6 x7 x8 x9 σ h; exact w_X12_written_330 ih x4 x5 x6 x7 x8 x9 σ h
set_option maxRecDepth 20000 in
theorem w_X12_written_321 {d : Nat} {Q : Int → hh_S → Prop} (x4 x5 x6 : Int) (σ : hh_S) (h : B_X12_written_321 d Q x4 x5 x6 σ) : hh_J (d + 1) hm_X12_written 321 [some (hh_R 128), none, none, none, some (hh_I x4), some (hh_I x5), some (hh_I x6), none, none, none] [] σ Q := by
  unfold B_X12_written_321 at h
  refine hh_iconst dX12_written_321 (by decide) ?_
  refine hh_istore dX12_written_322 (by decide) rfl ?_
  refine hh_iconst dX12_written_324 (by decide) ?_
  refine hh_istore dX12_written_325 (by decide) rfl ?_
  refine hh_iconst dX12_written_327 (by decide) ?_
  refine hh_istore dX12_written_328 (by decide) rfl ?_
  obtain ⟨n, h⟩ := h
  exact hh_forget [true, false, false, false, true, true, true, true, true, true] (l_X12_written_330 n _ _ _ _ _ _ _ h)
set_option maxRecDepth 20000 in
theorem w_X12_written_315 {d : Nat} {Q : Int → hh_S → Prop} {k206 : Int → Int → Int → Int → Int → Int → Int → hh_S → Prop} (hk206 : ∀ (x1 x2 x3 x4 x5 x6 x7 : Int) (σ : hh_S), k206 x1 x2 x3 x4 x5 x6 x7 σ → hh_J (d + 1) hm_X12_written 206 [some (hh_R 128), some (hh_I x1), some (hh_I x2), some (hh_I x3), some (hh_I x4), some (hh_I x5), some (hh_I x6), some (hh_I x7), none, none] [] σ Q) (x1 x2 x3 x4 x5 x6 x7 : Int) (σ : hh_S) (h : B_X12_written_315 d Q k206 x1 x2 x3 x4 x5 x6 x7 σ) : hh_J (d + 1) hm_X12_written 315 [some (hh_R 128), some (hh_I x1), some (hh_I x2), some (hh_I x3), some (hh_I x4), some (hh_I x5), some (hh_I x6), some (hh_I x7), none, none] [] σ Q := by
  unfold B_X12_written_315 at h
  obtain ⟨q1, h⟩ := h
  refine hh_iinc dX12_written_315 (by decide) rfl rfl q1 ?_
  refine hh_goto (tgt := 206) dX12_written_318 (by decide) ?_
  exact hh_forget [true, true, true, true, true, true, true, true, false, false] (hk206 _ _ _ _ _ _ _ _ h)
set_option maxRecDepth 20000 in
theorem w_X12_written_274 {d : Nat} {Q : Int → hh_S → Prop} {k206 : Int → Int → Int → Int → Int → Int → Int → hh_S → Prop} {k274 : Int → Int → Int → Int → Int → Int → Int → Int → Int → hh_S → Prop} (hk206 : ∀ (x1 x2 x3 x4 x5 x6 x7 : Int) (σ : hh_S), k206 x1 x2 x3 x4 x5 x6 x7 σ → hh_J (d + 1) hm_X12_written 206 [some (hh_R 128), some (hh_I x1), some (hh_I x2), some (hh_I x3), some (hh_I x4), some (hh_I x5), some (hh_I x6), some (hh_I x7), none, none] [] σ Q) (hk274 : ∀ (x1 x2 x3 x4 x5 x6 x7 x8 x9 : Int) (σ : hh_S), k274 x1 x2 x3 x4 x5 x6 x7 x8 x9 σ → hh_J (d + 1) hm_X12_written 274 [some (hh_R 128), some (hh_I x1), some (hh_I x2), some (hh_I x3), some (hh_I x4), some (hh_I x5), some (hh_I x6), some (hh_I x7), some (hh_I x8), some (hh_I x9)] [] σ Q) (x1 x2 x3 x4 x5 x6 x7 x8 x9 : Int) (σ : hh_S) (h : B_X12_written_274 d Q k206 k274 x1 x2 x3 x4 x5 x6 x7 x8 x9 σ) : hh_J (d + 1) hm_X12_written 274 [some (hh_R 128), some (hh_I x1), some (hh_I x2), some (hh_I x3), some (hh_I x4), some (hh_I x5), some (hh_I x6), some (hh_I x7), some (hh_I x8), some (hh_I x9)] [] σ Q := by
  unfold B_X12_written_274 at h
  obtain ⟨⟨q1, q2⟩, h⟩ := h
  refine hh_iload dX12_written_274 rfl ?_
  refine hh_aload_n dX12_written_276 rfl ?_
  refine hh_getR dX12_written_277 kf_X12_7 rf_128_0 ?_
  refine hh_iload dX12_written_280 rfl ?_
  refine hh_iconst dX12_written_282 (by decide) ?_
  refine hh_iadd dX12_written_283 q1 ?_
  refine hh_iald dX12_written_284 ra_129 q2 rfl ?_
  refine hh_icmp_ge (tgt := 315) dX12_written_285 (by decide) (fun c => ?_) (fun c => ?_)
  · replace h := h.1 c
    exact hh_forget [true, true, true, true, true, true, true, true, false, false] (w_X12_written_315 hk206 _ _ _ _ _ _ _ _ h)
  · replace h := h.2 c
    obtain ⟨⟨q1, q2, q3, q4, q5, q6⟩, h⟩ := h
    refine hh_aload_n dX12_written_288 rfl ?_
    refine hh_getR dX12_written_289 kf_X12_19 rf_128_4 ?_
    refine hh_aload_n dX12_written_292 rfl ?_
    refine hh_getR dX12_written_293 kf_X12_7 rf_128_0 ?_
    refine hh_iload dX12_written_296 rfl ?_
    refine hh_iconst dX12_written_298 (by decide) ?_
    refine hh_iadd dX12_written_299 q1 ?_
    refine hh_iald dX12_written_300 ra_129 q2 rfl ?_
    refine hh_iload dX12_written_301 rfl ?_
    refine hh_iadd dX12_written_303 q3 ?_
    refine hh_dup2 dX12_written_304 (fun _ => rfl) (fun _ => rfl) ?_
    refine hh_iald dX12_written_305 ra_132 q4 rfl ?_
    refine hh_iconst dX12_written_306 (by decide) ?_
    refine hh_iadd dX12_written_307 q5 ?_
    refine hh_iast dX12_written_308 ra_132 q4 ?_
    refine hh_iinc dX12_written_309 (by decide) rfl rfl q6 ?_
    refine hh_goto (tgt := 274) dX12_written_312 (by decide) ?_
    exact hh_forget [true, true, true, true, true, true, true, true, true, true] (hk274 _ _ _ _ _ _ _ _ _ _ h)
theorem l_X12_written_274 {d : Nat} {Q : Int → hh_S → Prop} {k206 : Int → Int → Int → Int → Int → Int → Int → hh_S → Prop} (hk206 : ∀ (x1 x2 x3 x4 x5 x6 x7 : Int) (σ : hh_S), k206 x1 x2 x3 x4 x5 x6 x7 σ → hh_J (d + 1) hm_X12_written 206 [some (hh_R 128), some (hh_I x1), some (hh_I x2), some (hh_I x3), some (hh_I x4), some (hh_I x5), some (hh_I x6), some (hh_I x7), none, none] [] σ Q) : ∀ (n : Nat) (x1 x2 x3 x4 x5 x6 x7 x8 x9 : Int) (σ : hh_S), hh_lp9 (B_X12_written_274 d Q k206) n x1 x2 x3 x4 x5 x6 x7 x8 x9 σ → hh_J (d + 1) hm_X12_written 274 [some (hh_R 128), some (hh_I x1), some (hh_I x2), some (hh_I x3), some (hh_I x4), some (hh_I x5), some (hh_I x6), some (hh_I x7), some (hh_I x8), some (hh_I x9)] [] σ Q := by
  intro n
  induction n with
  | zero => intro _ _ _ _ _ _ _ _ _ _ h; exact h.elim
  | succ n ih => intro x1 x2 x3 x4 x5 x6 x7 x8 x9 σ h; exact w_X12_written_274 hk206 ih x1 x2 x3 x4 x5 x6 x7 x8 x9 σ h
set_option maxRecDepth 20000 in
theorem w_X12_written_206 {d : Nat} {Q : Int → hh_S → Prop} {k206 : Int → Int → Int → Int → Int → Int → Int → hh_S → Prop} (hk206 : ∀ (x1 x2 x3 x4 x5 x6 x7 : Int) (σ : hh_S), k206 x1 x2 x3 x4 x5 x6 x7 σ → hh_J (d + 1) hm_X12_written 206 [some (hh_R 128), some (hh_I x1), some (hh_I x2), some (hh_I x3), some (hh_I x4), some (hh_I x5), some (hh_I x6), some (hh_I x7), none, none] [] σ Q) (x1 x2 x3 x4 x5 x6 x7 : Int) (σ : hh_S) (h : B_X12_written_206 d Q k206 x1 x2 x3 x4 x5 x6 x7 σ) : hh_J (d + 1) hm_X12_written 206 [some (hh_R 128), some (hh_I x1), some (hh_I x2), some (hh_I x3), some (hh_I x4), some (hh_I x5), some (hh_I x6), some (hh_I x7), none, none] [] σ Q := by
  unfold B_X12_written_206 at h
  refine hh_iload dX12_written_206 rfl ?_
  refine hh_aload_n dX12_written_208 rfl ?_
  refine hh_getR dX12_written_209 kf_X12_7 rf_128_0 ?_
  refine hh_bipush dX12_written_212 (by decide) ?_
  refine hh_iald dX12_written_214 ra_129 (by decide) rfl ?_
  refine hh_icmp_ge (tgt := 321) dX12_written_215 (by decide) (fun c => ?_) (fun c => ?_)
  · replace h := h.1 c
    exact hh_forget [true, false, false, false, true, true, true, false, false, false] (w_X12_written_321 _ _ _ _ h)
  · replace h := h.2 c
    obtain ⟨⟨q1, q2, q3⟩, h⟩ := h
    refine hh_sipush dX12_written_218 (by decide) ?_
    refine hh_iconst dX12_written_221 (by decide) ?_
    refine hh_iload dX12_written_222 rfl ?_
    refine hh_imul dX12_written_224 q1 ?_
    refine hh_iadd dX12_written_225 q2 ?_
    refine hh_istore dX12_written_226 (by decide) rfl ?_
    refine hh_aload_n dX12_written_228 rfl ?_
    refine hh_getR dX12_written_229 kf_X12_7 rf_128_0 ?_
    refine hh_iload dX12_written_232 rfl ?_
    refine hh_iald dX12_written_234 ra_129 q3 rfl ?_
    refine hh_iload_n dX12_written_235 rfl ?_
    refine hh_icmp_ne (tgt := 315) dX12_written_236 (by decide) (fun c => ?_) (fun c => ?_)
    · replace h := h.1 c
      exact hh_forget [true, true, true, true, true, true, true, true, false, false] (w_X12_written_315 hk206 _ _ _ _ _ _ _ _ h)
    · replace h := h.2 c
      obtain ⟨⟨q1, q2⟩, h⟩ := h
      refine hh_aload_n dX12_written_239 rfl ?_
      refine hh_getR dX12_written_240 kf_X12_7 rf_128_0 ?_
      refine hh_iload dX12_written_243 rfl ?_
      refine hh_iconst dX12_written_245 (by decide) ?_
      refine hh_iadd dX12_written_246 q1 ?_
      refine hh_iald dX12_written_247 ra_129 q2 rfl ?_
      refine hh_iload_n dX12_written_248 rfl ?_
      refine hh_icmp_ne (tgt := 315) dX12_written_249 (by decide) (fun c => ?_) (fun c => ?_)
      · replace h := h.1 c
        exact hh_forget [true, true, true, true, true, true, true, true, false, false] (w_X12_written_315 hk206 _ _ _ _ _ _ _ _ h)
      · replace h := h.2 c
        obtain ⟨⟨q1, q2⟩, h⟩ := h
        refine hh_aload_n dX12_written_252 rfl ?_
        refine hh_getR dX12_written_253 kf_X12_7 rf_128_0 ?_
        refine hh_iload dX12_written_256 rfl ?_
        refine hh_iconst dX12_written_258 (by decide) ?_
        refine hh_iadd dX12_written_259 q1 ?_
        refine hh_iald dX12_written_260 ra_129 q2 rfl ?_
        refine hh_iload_n dX12_written_261 rfl ?_
        refine hh_icmp_le (tgt := 268) dX12_written_262 (by decide) (fun c => ?_) (fun c => ?_)
        · replace h := h.1 c
          obtain ⟨q1, h⟩ := h
          refine hh_iinc dX12_written_268 (by decide) rfl rfl q1 ?_
          refine hh_iconst dX12_written_271 (by decide) ?_
          refine hh_istore dX12_written_272 (by decide) rfl ?_
          obtain ⟨n, h⟩ := h
          exact hh_forget [true, true, true, true, true, true, true, true, true, true] (l_X12_written_274 hk206 n _ _ _ _ _ _ _ _ _ _ h)
        · replace h := h.2 c
          refine hh_goto (tgt := 315) dX12_written_265 (by decide) ?_
          exact hh_forget [true, true, true, true, true, true, true, true, false, false] (w_X12_written_315 hk206 _ _ _ _ _ _ _ _ h)
theorem l_X12_written_206 {d : Nat} {Q : Int → hh_S → Prop} : ∀ (n : Nat) (x1 x2 x3 x4 x5 x6 x7 : Int) (σ : hh_S), hh_lp7 (B_X12_written_206 d Q) n x1 x2 x3 x4 x5 x6 x7 σ → hh_J (d + 1) hm_X12_written 206 [some (hh_R 128), some (hh_I x1), some (hh_I x2), some (hh_I x3), some (hh_I x4), some (hh_I x5), some (hh_I x6), some (hh_I x7), none, none] [] σ Q := by
  intro n
  induction n with
  | zero => intro _ _ _ _ _ _ _ _ h; exact h.elim
  | succ n ih => intro x1 x2 x3 x4 x5 x6 x7 σ h; exact w_X12_written_206 ih x1 x2 x3 x4 x5 x6 x7 σ h
set_option maxRecDepth 20000 in
theorem w_X12_written_200 {d : Nat} {Q : Int → hh_S → Prop} (x1 x2 x3 x4 x5 : Int) (σ : hh_S) (h : B_X12_written_200 d Q x1 x2 x3 x4 x5 σ) : hh_J (d + 1) hm_X12_written 200 [some (hh_R 128), some (hh_I x1), some (hh_I x2), some (hh_I x3), some (hh_I x4), some (hh_I x5), none, none, none, none] [] σ Q := by
  unfold B_X12_written_200 at h
  refine hh_iconst dX12_written_200 (by decide) ?_
  refine hh_istore dX12_written_201 (by decide) rfl ?_
  refine hh_iconst dX12_written_203 (by decide) ?_
  refine hh_istore dX12_written_204 (by decide) rfl ?_
  obtain ⟨n, h⟩ := h
  exact hh_forget [true, true, true, true, true, true, true, true, false, false] (l_X12_written_206 n _ _ _ _ _ _ _ _ h)
set_option maxRecDepth 20000 in
theorem w_X12_written_194 {d : Nat} {Q : Int → hh_S → Prop} {k76 : Int → Int → Int → Int → Int → Int → hh_S → Prop} (hk76 : ∀ (x1 x2 x3 x4 x5 x6 : Int) (σ : hh_S), k76 x1 x2 x3 x4 x5 x6 σ → hh_J (d + 1) hm_X12_written 76 [some (hh_R 128), some (hh_I x1), some (hh_I x2), some (hh_I x3), some (hh_I x4), some (hh_I x5), some (hh_I x6), none, none, none] [] σ Q) (x1 x2 x3 x4 x5 x6 : Int) (σ : hh_S) (h : B_X12_written_194 d Q k76 x1 x2 x3 x4 x5 x6 σ) : hh_J (d + 1) hm_X12_written 194 [some (hh_R 128), some (hh_I x1), some (hh_I x2), some (hh_I x3), some (hh_I x4), some (hh_I x5), some (hh_I x6), none, none, none] [] σ Q := by
  unfold B_X12_written_194 at h
  obtain ⟨q1, h⟩ := h
  refine hh_iinc dX12_written_194 (by decide) rfl rfl q1 ?_
  refine hh_goto (tgt := 76) dX12_written_197 (by decide) ?_
  exact hh_forget [true, true, true, true, true, true, true, false, false, false] (hk76 _ _ _ _ _ _ _ h)
set_option maxRecDepth 20000 in
theorem w_X12_written_153 {d : Nat} {Q : Int → hh_S → Prop} {k76 : Int → Int → Int → Int → Int → Int → hh_S → Prop} {k153 : Int → Int → Int → Int → Int → Int → Int → Int → hh_S → Prop} (hk76 : ∀ (x1 x2 x3 x4 x5 x6 : Int) (σ : hh_S), k76 x1 x2 x3 x4 x5 x6 σ → hh_J (d + 1) hm_X12_written 76 [some (hh_R 128), some (hh_I x1), some (hh_I x2), some (hh_I x3), some (hh_I x4), some (hh_I x5), some (hh_I x6), none, none, none] [] σ Q) (hk153 : ∀ (x1 x2 x3 x4 x5 x6 x7 x8 : Int) (σ : hh_S), k153 x1 x2 x3 x4 x5 x6 x7 x8 σ → hh_J (d + 1) hm_X12_written 153 [some (hh_R 128), some (hh_I x1), some (hh_I x2), some (hh_I x3), some (hh_I x4), some (hh_I x5), some (hh_I x6), some (hh_I x7), some (hh_I x8), none] [] σ Q) (x1 x2 x3 x4 x5 x6 x7 x8 : Int) (σ : hh_S) (h : B_X12_written_153 d Q k76 k153 x1 x2 x3 x4 x5 x6 x7 x8 σ) : hh_J (d + 1) hm_X12_written 153 [some (hh_R 128), some (hh_I x1), some (hh_I x2), some (hh_I x3), some (hh_I x4), some (hh_I x5), some (hh_I x6), some (hh_I x7), some (hh_I x8), none] [] σ Q := by
  unfold B_X12_written_153 at h
  obtain ⟨⟨q1, q2⟩, h⟩ := h
  refine hh_iload dX12_written_153 rfl ?_
  refine hh_aload_n dX12_written_155 rfl ?_
  refine hh_getR dX12_written_156 kf_X12_7 rf_128_0 ?_
  refine hh_iload dX12_written_159 rfl ?_
  refine hh_iconst dX12_written_161 (by decide) ?_
  refine hh_iadd dX12_written_162 q1 ?_
  refine hh_iald dX12_written_163 ra_129 q2 rfl ?_
  refine hh_icmp_ge (tgt := 194) dX12_written_164 (by decide) (fun c => ?_) (fun c => ?_)
  · replace h := h.1 c
    exact hh_forget [true, true, true, true, true, true, true, false, false, false] (w_X12_written_194 hk76 _ _ _ _ _ _ _ h)
  · replace h := h.2 c
    obtain ⟨⟨q1, q2, q3, q4, q5, q6⟩, h⟩ := h
    refine hh_aload_n dX12_written_167 rfl ?_
    refine hh_getR dX12_written_168 kf_X12_16 rf_128_3 ?_
    refine hh_aload_n dX12_written_171 rfl ?_
    refine hh_getR dX12_written_172 kf_X12_7 rf_128_0 ?_
    refine hh_iload dX12_written_175 rfl ?_
    refine hh_iconst dX12_written_177 (by decide) ?_
    refine hh_iadd dX12_written_178 q1 ?_
    refine hh_iald dX12_written_179 ra_129 q2 rfl ?_
    refine hh_iload dX12_written_180 rfl ?_
    refine hh_iadd dX12_written_182 q3 ?_
    refine hh_dup2 dX12_written_183 (fun _ => rfl) (fun _ => rfl) ?_
    refine hh_iald dX12_written_184 ra_131 q4 rfl ?_
    refine hh_iconst dX12_written_185 (by decide) ?_
    refine hh_iadd dX12_written_186 q5 ?_
    refine hh_iast dX12_written_187 ra_131 q4 ?_
    refine hh_iinc dX12_written_188 (by decide) rfl rfl q6 ?_
    refine hh_goto (tgt := 153) dX12_written_191 (by decide) ?_
    exact hh_forget [true, true, true, true, true, true, true, true, true, false] (hk153 _ _ _ _ _ _ _ _ _ h)
theorem l_X12_written_153 {d : Nat} {Q : Int → hh_S → Prop} {k76 : Int → Int → Int → Int → Int → Int → hh_S → Prop} (hk76 : ∀ (x1 x2 x3 x4 x5 x6 : Int) (σ : hh_S), k76 x1 x2 x3 x4 x5 x6 σ → hh_J (d + 1) hm_X12_written 76 [some (hh_R 128), some (hh_I x1), some (hh_I x2), some (hh_I x3), some (hh_I x4), some (hh_I x5), some (hh_I x6), none, none, none] [] σ Q) : ∀ (n : Nat) (x1 x2 x3 x4 x5 x6 x7 x8 : Int) (σ : hh_S), hh_lp8 (B_X12_written_153 d Q k76) n x1 x2 x3 x4 x5 x6 x7 x8 σ → hh_J (d + 1) hm_X12_written 153 [some (hh_R 128), some (hh_I x1), some (hh_I x2), some (hh_I x3), some (hh_I x4), some (hh_I x5), some (hh_I x6), some (hh_I x7), some (hh_I x8), none] [] σ Q := by
  intro n
  induction n with
  | zero => intro _ _ _ _ _ _ _ _ _ h; exact h.elim
  | succ n ih => intro x1 x2 x3 x4 x5 x6 x7 x8 σ h; exact w_X12_written_153 hk76 ih x1 x2 x3 x4 x5 x6 x7 x8 σ h
set_option maxRecDepth 20000 in
theorem w_X12_written_76 {d : Nat} {Q : Int → hh_S → Prop} {k76 : Int → Int → Int → Int → Int → Int → hh_S → Prop} (hk76 : ∀ (x1 x2 x3 x4 x5 x6 : Int) (σ : hh_S), k76 x1 x2 x3 x4 x5 x6 σ → hh_J (d + 1) hm_X12_written 76 [some (hh_R 128), some (hh_I x1), some (hh_I x2), some (hh_I x3), some (hh_I x4), some (hh_I x5), some (hh_I x6), none, none, none] [] σ Q) (x1 x2 x3 x4 x5 x6 : Int) (σ : hh_S) (h : B_X12_written_76 d Q k76 x1 x2 x3 x4 x5 x6 σ) : hh_J (d + 1) hm_X12_written 76 [some (hh_R 128), some (hh_I x1), some (hh_I x2), some (hh_I x3), some (hh_I x4), some (hh_I x5), some (hh_I x6), none, none, none] [] σ Q := by
  unfold B_X12_written_76 at h
  refine hh_iload dX12_written_76 rfl ?_
  refine hh_aload_n dX12_written_78 rfl ?_
  refine hh_getR dX12_written_79 kf_X12_7 rf_128_0 ?_
  refine hh_bipush dX12_written_82 (by decide) ?_
  refine hh_iald dX12_written_84 ra_129 (by decide) rfl ?_
  refine hh_icmp_ge (tgt := 200) dX12_written_85 (by decide) (fun c => ?_) (fun c => ?_)
  · replace h := h.1 c
    exact hh_forget [true, true, true, true, true, true, false, false, false, false] (w_X12_written_200 _ _ _ _ _ _ h)
  · replace h := h.2 c
    obtain ⟨⟨q1, q2, q3⟩, h⟩ := h
    refine hh_sipush dX12_written_88 (by decide) ?_
    refine hh_bipush dX12_written_91 (by decide) ?_
    refine hh_iload dX12_written_93 rfl ?_
    refine hh_imul dX12_written_95 q1 ?_
    refine hh_iadd dX12_written_96 q2 ?_
    refine hh_istore dX12_written_97 (by decide) rfl ?_
    refine hh_aload_n dX12_written_99 rfl ?_
    refine hh_getR dX12_written_100 kf_X12_7 rf_128_0 ?_
    refine hh_iload dX12_written_103 rfl ?_
    refine hh_iald dX12_written_105 ra_129 q3 rfl ?_
    refine hh_iload_n dX12_written_106 rfl ?_
    refine hh_icmp_ne (tgt := 194) dX12_written_107 (by decide) (fun c => ?_) (fun c => ?_)
    · replace h := h.1 c
      exact hh_forget [true, true, true, true, true, true, true, false, false, false] (w_X12_written_194 hk76 _ _ _ _ _ _ _ h)
    · replace h := h.2 c
      obtain ⟨⟨q1, q2⟩, h⟩ := h
      refine hh_aload_n dX12_written_110 rfl ?_
      refine hh_getR dX12_written_111 kf_X12_7 rf_128_0 ?_
      refine hh_iload dX12_written_114 rfl ?_
      refine hh_iconst dX12_written_116 (by decide) ?_
      refine hh_iadd dX12_written_117 q1 ?_
      refine hh_iald dX12_written_118 ra_129 q2 rfl ?_
      refine hh_iload_n dX12_written_119 rfl ?_
      refine hh_icmp_ne (tgt := 194) dX12_written_120 (by decide) (fun c => ?_) (fun c => ?_)
      · replace h := h.1 c
        exact hh_forget [true, true, true, true, true, true, true, false, false, false] (w_X12_written_194 hk76 _ _ _ _ _ _ _ h)
      · replace h := h.2 c
        refine hh_aload_n dX12_written_123 rfl ?_
        refine hh_iload dX12_written_124 rfl ?_
        refine hh_iload_n dX12_written_126 rfl ?_
        refine hh_cV2 dX12_written_127 lk_X12_101 mo_X12_isKnown rc_128 (Nat.le_of_ble_eq_true rfl) h (fun r127 σ127 h => ?_)
        refine hh_if_ne (tgt := 136) dX12_written_130 (by decide) (fun c => ?_) (fun c => ?_)
        · replace h := h.1 c
          obtain ⟨⟨q1, q2, q3⟩, h⟩ := h
          refine hh_iload dX12_written_136 rfl ?_
          refine hh_aload_n dX12_written_138 rfl ?_
          refine hh_getR dX12_written_139 kf_X12_7 rf_128_0 ?_
          refine hh_iload dX12_written_142 rfl ?_
          refine hh_iconst dX12_written_144 (by decide) ?_
          refine hh_iadd dX12_written_145 q1 ?_
          refine hh_iald dX12_written_146 ra_129 q2 rfl ?_
          refine hh_iadd dX12_written_147 q3 ?_
          refine hh_istore dX12_written_148 (by decide) rfl ?_
          refine hh_iconst dX12_written_150 (by decide) ?_
          refine hh_istore dX12_written_151 (by decide) rfl ?_
          obtain ⟨n, h⟩ := h
          exact hh_forget [true, true, true, true, true, true, true, true, true, false] (l_X12_written_153 hk76 n _ _ _ _ _ _ _ _ _ h)
        · replace h := h.2 c
          refine hh_goto (tgt := 194) dX12_written_133 (by decide) ?_
          exact hh_forget [true, true, true, true, true, true, true, false, false, false] (w_X12_written_194 hk76 _ _ _ _ _ _ _ h)
theorem l_X12_written_76 {d : Nat} {Q : Int → hh_S → Prop} : ∀ (n : Nat) (x1 x2 x3 x4 x5 x6 : Int) (σ : hh_S), hh_lp6 (B_X12_written_76 d Q) n x1 x2 x3 x4 x5 x6 σ → hh_J (d + 1) hm_X12_written 76 [some (hh_R 128), some (hh_I x1), some (hh_I x2), some (hh_I x3), some (hh_I x4), some (hh_I x5), some (hh_I x6), none, none, none] [] σ Q := by
  intro n
  induction n with
  | zero => intro _ _ _ _ _ _ _ h; exact h.elim
  | succ n ih => intro x1 x2 x3 x4 x5 x6 σ h; exact w_X12_written_76 ih x1 x2 x3 x4 x5 x6 σ h
set_option maxRecDepth 20000 in
theorem w_X12_written_70 {d : Nat} {Q : Int → hh_S → Prop} (x1 x2 x3 x4 : Int) (σ : hh_S) (h : B_X12_written_70 d Q x1 x2 x3 x4 σ) : hh_J (d + 1) hm_X12_written 70 [some (hh_R 128), some (hh_I x1), some (hh_I x2), some (hh_I x3), some (hh_I x4), none, none, none, none, none] [] σ Q := by
  unfold B_X12_written_70 at h
  refine hh_iconst dX12_written_70 (by decide) ?_
  refine hh_istore dX12_written_71 (by decide) rfl ?_
  refine hh_iconst dX12_written_73 (by decide) ?_
  refine hh_istore dX12_written_74 (by decide) rfl ?_
  obtain ⟨n, h⟩ := h
  exact hh_forget [true, true, true, true, true, true, true, false, false, false] (l_X12_written_76 n _ _ _ _ _ _ _ h)
set_option maxRecDepth 20000 in
theorem w_X12_written_40 {d : Nat} {Q : Int → hh_S → Prop} {k40 : Int → Int → Int → Int → Int → hh_S → Prop} (hk40 : ∀ (x1 x2 x3 x4 x5 : Int) (σ : hh_S), k40 x1 x2 x3 x4 x5 σ → hh_J (d + 1) hm_X12_written 40 [some (hh_R 128), some (hh_I x1), some (hh_I x2), some (hh_I x3), some (hh_I x4), some (hh_I x5), none, none, none, none] [] σ Q) (x1 x2 x3 x4 x5 : Int) (σ : hh_S) (h : B_X12_written_40 d Q k40 x1 x2 x3 x4 x5 σ) : hh_J (d + 1) hm_X12_written 40 [some (hh_R 128), some (hh_I x1), some (hh_I x2), some (hh_I x3), some (hh_I x4), some (hh_I x5), none, none, none, none] [] σ Q := by
  unfold B_X12_written_40 at h
  refine hh_iload dX12_written_40 rfl ?_
  refine hh_sipush dX12_written_42 (by decide) ?_
  refine hh_icmp_ge (tgt := 70) dX12_written_45 (by decide) (fun c => ?_) (fun c => ?_)
  · replace h := h.1 c
    exact hh_forget [true, true, true, true, true, false, false, false, false, false] (w_X12_written_70 _ _ _ _ _ h)
  · replace h := h.2 c
    obtain ⟨⟨q1, q2⟩, h⟩ := h
    refine hh_aload_n dX12_written_48 rfl ?_
    refine hh_getR dX12_written_49 kf_X12_16 rf_128_3 ?_
    refine hh_iload dX12_written_52 rfl ?_
    refine hh_iconst dX12_written_54 (by decide) ?_
    refine hh_iast dX12_written_55 ra_131 q1 ?_
    refine hh_aload_n dX12_written_56 rfl ?_
    refine hh_getR dX12_written_57 kf_X12_19 rf_128_4 ?_
    refine hh_iload dX12_written_60 rfl ?_
    refine hh_iconst dX12_written_62 (by decide) ?_
    refine hh_iast dX12_written_63 ra_132 q1 ?_
    refine hh_iinc dX12_written_64 (by decide) rfl rfl q2 ?_
    refine hh_goto (tgt := 40) dX12_written_67 (by decide) ?_
    exact hh_forget [true, true, true, true, true, true, false, false, false, false] (hk40 _ _ _ _ _ _ h)
theorem l_X12_written_40 {d : Nat} {Q : Int → hh_S → Prop} : ∀ (n : Nat) (x1 x2 x3 x4 x5 : Int) (σ : hh_S), hh_lp5 (B_X12_written_40 d Q) n x1 x2 x3 x4 x5 σ → hh_J (d + 1) hm_X12_written 40 [some (hh_R 128), some (hh_I x1), some (hh_I x2), some (hh_I x3), some (hh_I x4), some (hh_I x5), none, none, none, none] [] σ Q := by
  intro n
  induction n with
  | zero => intro _ _ _ _ _ _ h; exact h.elim
  | succ n ih => intro x1 x2 x3 x4 x5 σ h; exact w_X12_written_40 ih x1 x2 x3 x4 x5 σ h
set_option maxRecDepth 20000 in
theorem w_X12_written {d : Nat} {a1 a2 a3 a4 : Int} {σ : hh_S} {Q : Int → hh_S → Prop} (h : P_X12_written d a1 a2 a3 a4 σ Q) : hh_J (d + 1) hm_X12_written 0 [some (hh_R 128), some (hh_I a1), some (hh_I a2), some (hh_I a3), some (hh_I a4), none, none, none, none, none] [] σ Q := by
  unfold P_X12_written at h
  refine hh_aload_n dX12_written_0 rfl ?_
  refine hh_iload_n dX12_written_1 rfl ?_
  refine hh_cV1 dX12_written_2 lk_X12_74 mo_X12_isPerson rc_128 (Nat.le_of_ble_eq_true rfl) h (fun r2 σ2 h => ?_)
  refine hh_if_eq (tgt := 34) dX12_written_5 (by decide) (fun c => ?_) (fun c => ?_)
  · replace h := h.1 c
    refine hh_ldc (n := -1000000001) dX12_written_34 kc_X12_72 (by decide) ?_
    exact hh_ireturn dX12_written_36 rfl h
  · replace h := h.2 c
    refine hh_aload_n dX12_written_8 rfl ?_
    refine hh_iload_n dX12_written_9 rfl ?_
    refine hh_cV1 dX12_written_10 lk_X12_92 mo_X12_isPast rc_128 (Nat.le_of_ble_eq_true rfl) h (fun r10 σ10 h => ?_)
    refine hh_if_eq (tgt := 34) dX12_written_13 (by decide) (fun c => ?_) (fun c => ?_)
    · replace h := h.1 c
      refine hh_ldc (n := -1000000001) dX12_written_34 kc_X12_72 (by decide) ?_
      exact hh_ireturn dX12_written_36 rfl h
    · replace h := h.2 c
      refine hh_aload_n dX12_written_16 rfl ?_
      refine hh_iload_n dX12_written_17 rfl ?_
      refine hh_cV1 dX12_written_18 lk_X12_92 mo_X12_isPast rc_128 (Nat.le_of_ble_eq_true rfl) h (fun r18 σ18 h => ?_)
      refine hh_if_eq (tgt := 34) dX12_written_21 (by decide) (fun c => ?_) (fun c => ?_)
      · replace h := h.1 c
        refine hh_ldc (n := -1000000001) dX12_written_34 kc_X12_72 (by decide) ?_
        exact hh_ireturn dX12_written_36 rfl h
      · replace h := h.2 c
        refine hh_iload dX12_written_24 rfl ?_
        refine hh_iconst dX12_written_26 (by decide) ?_
        refine hh_iconst dX12_written_27 (by decide) ?_
        refine hh_cS3 dX12_written_28 lk_X12_68 mo_X12_in (Nat.le_of_ble_eq_true rfl) h (fun r28 σ28 h => ?_)
        refine hh_if_ne (tgt := 37) dX12_written_31 (by decide) (fun c => ?_) (fun c => ?_)
        · replace h := h.1 c
          refine hh_iconst dX12_written_37 (by decide) ?_
          refine hh_istore dX12_written_38 (by decide) rfl ?_
          obtain ⟨n, h⟩ := h
          exact hh_forget [true, true, true, true, true, true, false, false, false, false] (l_X12_written_40 n _ _ _ _ _ _ h)
        · replace h := h.2 c
          refine hh_ldc (n := -1000000001) dX12_written_34 kc_X12_72 (by decide) ?_
          exact hh_ireturn dX12_written_36 rfl h
theorem wp_X12_written {d : Nat} (a1 a2 a3 a4 : Int) {σ : hh_S} {Q : Int → hh_S → Prop} (h : hh_cs σ → hh_can a1 → hh_can a2 → hh_can a3 → hh_can a4 → P_X12_written d a1 a2 a3 a4 σ Q) : hh_Sp (d + 1) hm_X12_written [hh_R 128, hh_I a1, hh_I a2, hh_I a3, hh_I a4] σ Q :=
  hh_entry rfl (Nat.le_of_ble_eq_true rfl) rfl (fun hs hc => w_X12_written (h hs (hc _ (List.mem_of_getElem? (i := 1) rfl)) (hc _ (List.mem_of_getElem? (i := 2) rfl)) (hc _ (List.mem_of_getElem? (i := 3) rfl)) (hc _ (List.mem_of_getElem? (i := 4) rfl))))
def P_X12_orNone (d : Nat) (a0 : Int) (σ : hh_S) (Q : Int → hh_S → Prop) : Prop :=
  (¬ a0 = (-1) → Q a0 σ) ∧ (a0 = (-1) → Q (-1000000005) σ)
set_option maxRecDepth 20000 in
theorem w_X12_orNone {d : Nat} {a0 : Int} {σ : hh_S} {Q : Int → hh_S → Prop} (h : P_X12_orNone d a0 σ Q) : hh_J (d + 1) hm_X12_orNone 0 [some (hh_I a0)] [] σ Q := by
  unfold P_X12_orNone at h
  refine hh_iload_n dX12_orNone_0 rfl ?_
  refine hh_iconst dX12_orNone_1 (by decide) ?_
  refine hh_icmp_ne (tgt := 10) dX12_orNone_2 (by decide) (fun c => ?_) (fun c => ?_)
  · replace h := h.1 c
    refine hh_iload_n dX12_orNone_10 rfl ?_
    exact hh_ireturn dX12_orNone_11 rfl h
  · replace h := h.2 c
    refine hh_ldc (n := -1000000005) dX12_orNone_5 kc_X12_67 (by decide) ?_
    refine hh_goto (tgt := 11) dX12_orNone_7 (by decide) ?_
    exact hh_ireturn dX12_orNone_11 rfl h
theorem wp_X12_orNone {d : Nat} (a0 : Int) {σ : hh_S} {Q : Int → hh_S → Prop} (h : hh_cs σ → hh_can a0 → P_X12_orNone d a0 σ Q) : hh_Sp (d + 1) hm_X12_orNone [hh_I a0] σ Q :=
  hh_entry rfl (Nat.le_of_ble_eq_true rfl) rfl (fun hs hc => w_X12_orNone (h hs (hc _ (List.mem_of_getElem? (i := 0) rfl))))
def B_X12_told_55 (d : Nat) (Q : Int → hh_S → Prop) (x3 : Int) (σ : hh_S) : Prop :=
  hh_Sp d hm_X12_orNone [hh_I x3] σ (fun r56 σ56 => Q r56 σ56)
def P_X12_told (d : Nat) (a1 a2 : Int) (σ : hh_S) (Q : Int → hh_S → Prop) : Prop :=
  hh_Sp d hm_X12_isEntry [hh_R 128, hh_I a1] σ (fun r2 σ2 => (r2 = 0 → Q (-1000000001) σ2) ∧ (¬ r2 = 0 → hh_Sp d hm_X12_in [hh_I a2, hh_I 0, hh_I 10] σ2 (fun r12 σ12 => (¬ r12 = 0 → ((-2147483648 ≤ 12 * a1 ∧ 12 * a1 ≤ 2147483647) ∧ (-2147483648 ≤ 250 + 12 * a1 ∧ 250 + 12 * a1 ≤ 2147483647) ∧ (-2147483648 ≤ 250 + 12 * a1 + a2 ∧ 250 + 12 * a1 + a2 ≤ 2147483647) ∧ (0 ≤ 250 + 12 * a1 + a2 ∧ 250 + 12 * a1 + a2 < 9100)) ∧ ((a2 = 7 → B_X12_told_55 d Q (σ12 129 (250 + 12 * a1 + a2)) σ12) ∧ (¬ a2 = 7 → (a2 = 8 → B_X12_told_55 d Q (σ12 129 (250 + 12 * a1 + a2)) σ12) ∧ (¬ a2 = 8 → (¬ a2 = 10 → Q (σ12 129 (250 + 12 * a1 + a2)) σ12) ∧ (a2 = 10 → B_X12_told_55 d Q (σ12 129 (250 + 12 * a1 + a2)) σ12))))) ∧ (r12 = 0 → Q (-1000000001) σ12))))
set_option maxRecDepth 20000 in
theorem w_X12_told_55 {d : Nat} {Q : Int → hh_S → Prop} (x3 : Int) (σ : hh_S) (h : B_X12_told_55 d Q x3 σ) : hh_J (d + 1) hm_X12_told 55 [none, none, none, some (hh_I x3)] [] σ Q := by
  unfold B_X12_told_55 at h
  refine hh_iload_n dX12_told_55 rfl ?_
  refine hh_cS1 dX12_told_56 lk_X12_109 mo_X12_orNone (Nat.le_of_ble_eq_true rfl) h (fun r56 σ56 h => ?_)
  refine hh_goto (tgt := 63) dX12_told_59 (by decide) ?_
  exact hh_ireturn dX12_told_63 rfl h
set_option maxRecDepth 20000 in
theorem w_X12_told {d : Nat} {a1 a2 : Int} {σ : hh_S} {Q : Int → hh_S → Prop} (h : P_X12_told d a1 a2 σ Q) : hh_J (d + 1) hm_X12_told 0 [some (hh_R 128), some (hh_I a1), some (hh_I a2), none] [] σ Q := by
  unfold P_X12_told at h
  refine hh_aload_n dX12_told_0 rfl ?_
  refine hh_iload_n dX12_told_1 rfl ?_
  refine hh_cV1 dX12_told_2 lk_X12_98 mo_X12_isEntry rc_128 (Nat.le_of_ble_eq_true rfl) h (fun r2 σ2 h => ?_)
  refine hh_if_eq (tgt := 18) dX12_told_5 (by decide) (fun c => ?_) (fun c => ?_)
  · replace h := h.1 c
    refine hh_ldc (n := -1000000001) dX12_told_18 kc_X12_72 (by decide) ?_
    exact hh_ireturn dX12_told_20 rfl h
  · replace h := h.2 c
    refine hh_iload_n dX12_told_8 rfl ?_
    refine hh_iconst dX12_told_9 (by decide) ?_
    refine hh_bipush dX12_told_10 (by decide) ?_
    refine hh_cS3 dX12_told_12 lk_X12_68 mo_X12_in (Nat.le_of_ble_eq_true rfl) h (fun r12 σ12 h => ?_)
    refine hh_if_ne (tgt := 21) dX12_told_15 (by decide) (fun c => ?_) (fun c => ?_)
    · replace h := h.1 c
      obtain ⟨⟨q1, q2, q3, q4⟩, h⟩ := h
      refine hh_aload_n dX12_told_21 rfl ?_
      refine hh_getR dX12_told_22 kf_X12_7 rf_128_0 ?_
      refine hh_sipush dX12_told_25 (by decide) ?_
      refine hh_bipush dX12_told_28 (by decide) ?_
      refine hh_iload_n dX12_told_30 rfl ?_
      refine hh_imul dX12_told_31 q1 ?_
      refine hh_iadd dX12_told_32 q2 ?_
      refine hh_iload_n dX12_told_33 rfl ?_
      refine hh_iadd dX12_told_34 q3 ?_
      refine hh_iald dX12_told_35 ra_129 q4 rfl ?_
      refine hh_istore_n dX12_told_36 (by decide) rfl ?_
      refine hh_iload_n dX12_told_37 rfl ?_
      refine hh_bipush dX12_told_38 (by decide) ?_
      refine hh_icmp_eq (tgt := 55) dX12_told_40 (by decide) (fun c => ?_) (fun c => ?_)
      · replace h := h.1 c
        exact hh_forget [false, false, false, true] (w_X12_told_55 _ _ h)
      · replace h := h.2 c
        refine hh_iload_n dX12_told_43 rfl ?_
        refine hh_bipush dX12_told_44 (by decide) ?_
        refine hh_icmp_eq (tgt := 55) dX12_told_46 (by decide) (fun c => ?_) (fun c => ?_)
        · replace h := h.1 c
          exact hh_forget [false, false, false, true] (w_X12_told_55 _ _ h)
        · replace h := h.2 c
          refine hh_iload_n dX12_told_49 rfl ?_
          refine hh_bipush dX12_told_50 (by decide) ?_
          refine hh_icmp_ne (tgt := 62) dX12_told_52 (by decide) (fun c => ?_) (fun c => ?_)
          · replace h := h.1 c
            refine hh_iload_n dX12_told_62 rfl ?_
            exact hh_ireturn dX12_told_63 rfl h
          · replace h := h.2 c
            exact hh_forget [false, false, false, true] (w_X12_told_55 _ _ h)
    · replace h := h.2 c
      refine hh_ldc (n := -1000000001) dX12_told_18 kc_X12_72 (by decide) ?_
      exact hh_ireturn dX12_told_20 rfl h
theorem wp_X12_told {d : Nat} (a1 a2 : Int) {σ : hh_S} {Q : Int → hh_S → Prop} (h : hh_cs σ → hh_can a1 → hh_can a2 → P_X12_told d a1 a2 σ Q) : hh_Sp (d + 1) hm_X12_told [hh_R 128, hh_I a1, hh_I a2] σ Q :=
  hh_entry rfl (Nat.le_of_ble_eq_true rfl) rfl (fun hs hc => w_X12_told (h hs (hc _ (List.mem_of_getElem? (i := 1) rfl)) (hc _ (List.mem_of_getElem? (i := 2) rfl))))
def P_X12_less (d : Nat) (a0 a1 : Int) (σ : hh_S) (Q : Int → hh_S → Prop) : Prop :=
  (a1 ≤ a0 → Q a1 σ) ∧ (¬ a1 ≤ a0 → Q a0 σ)
set_option maxRecDepth 20000 in
theorem w_X12_less {d : Nat} {a0 a1 : Int} {σ : hh_S} {Q : Int → hh_S → Prop} (h : P_X12_less d a0 a1 σ Q) : hh_J (d + 1) hm_X12_less 0 [some (hh_I a0), some (hh_I a1)] [] σ Q := by
  unfold P_X12_less at h
  refine hh_iload_n dX12_less_0 rfl ?_
  refine hh_iload_n dX12_less_1 rfl ?_
  refine hh_icmp_ge (tgt := 9) dX12_less_2 (by decide) (fun c => ?_) (fun c => ?_)
  · replace h := h.1 c
    refine hh_iload_n dX12_less_9 rfl ?_
    exact hh_ireturn dX12_less_10 rfl h
  · replace h := h.2 c
    refine hh_iload_n dX12_less_5 rfl ?_
    refine hh_goto (tgt := 10) dX12_less_6 (by decide) ?_
    exact hh_ireturn dX12_less_10 rfl h
theorem wp_X12_less {d : Nat} (a0 a1 : Int) {σ : hh_S} {Q : Int → hh_S → Prop} (h : hh_cs σ → hh_can a0 → hh_can a1 → P_X12_less d a0 a1 σ Q) : hh_Sp (d + 1) hm_X12_less [hh_I a0, hh_I a1] σ Q :=
  hh_entry rfl (Nat.le_of_ble_eq_true rfl) rfl (fun hs hc => w_X12_less (h hs (hc _ (List.mem_of_getElem? (i := 0) rfl)) (hc _ (List.mem_of_getElem? (i := 1) rfl))))
def B_X12_beside_217 (d : Nat) (Q : Int → hh_S → Prop) (k217 : Int → Int → Int → hh_S → Prop) (x4 x5 x6 : Int) (σ : hh_S) : Prop :=
  (8 ≤ x6 → Q x5 σ) ∧ (¬ 8 ≤ x6 → ((-2147483648 ≤ x5 + (hh_and (hh_shr x4 x6) 1) ∧ x5 + (hh_and (hh_shr x4 x6) 1) ≤ 2147483647) ∧ (-2147483648 ≤ x6 + 1 ∧ x6 + 1 ≤ 2147483647)) ∧ (k217 x4 (x5 + (hh_and (hh_shr x4 x6) 1)) (x6 + 1) σ))
def B_X12_beside_211 (d : Nat) (Q : Int → hh_S → Prop) (x4 : Int) (σ : hh_S) : Prop :=
  ∃ n, hh_lp3 (B_X12_beside_217 d Q) n x4 0 0 σ
def B_X12_beside_202 (d : Nat) (Q : Int → hh_S → Prop) (k15 : Int → Int → Int → Int → hh_S → Prop) (x2 x3 x5 s0 s1 : Int) (σ : hh_S) : Prop :=
  ((-2147483648 ≤ x5 + 1 ∧ x5 + 1 ≤ 2147483647)) ∧ (k15 x2 x3 (hh_or s0 s1) (x5 + 1) σ)
def B_X12_beside_201 (d : Nat) (Q : Int → hh_S → Prop) (k15 : Int → Int → Int → Int → hh_S → Prop) (x2 x3 x5 s0 : Int) (σ : hh_S) : Prop :=
  B_X12_beside_202 d Q k15 x2 x3 x5 s0 0 σ
def B_X12_beside_175 (d : Nat) (Q : Int → hh_S → Prop) (k15 : Int → Int → Int → Int → hh_S → Prop) (x2 x3 x4 x5 x6 x7 s0 : Int) (σ : hh_S) : Prop :=
  (x7 = 0 → B_X12_beside_201 d Q k15 x2 x3 x5 x4 σ) ∧ (¬ x7 = 0 → (s0 = 0 → B_X12_beside_201 d Q k15 x2 x3 x5 x4 σ) ∧ (¬ s0 = 0 → ((0 ≤ x6 ∧ x6 < 9100)) ∧ (B_X12_beside_202 d Q k15 x2 x3 x5 x4 (hh_shl 1 (σ 129 x6)) σ)))
def B_X12_beside_174 (d : Nat) (Q : Int → hh_S → Prop) (k15 : Int → Int → Int → Int → hh_S → Prop) (x2 x3 x4 x5 x6 x7 : Int) (σ : hh_S) : Prop :=
  B_X12_beside_175 d Q k15 x2 x3 x4 x5 x6 x7 0 σ
def B_X12_beside_109 (d : Nat) (Q : Int → hh_S → Prop) (k15 : Int → Int → Int → Int → hh_S → Prop) (x2 x3 x4 x5 x6 s0 : Int) (σ : hh_S) : Prop :=
  ((-2147483648 ≤ x6 + 3 ∧ x6 + 3 ≤ 2147483647) ∧ (0 ≤ x6 + 3 ∧ x6 + 3 < 9100) ∧ (-2147483648 ≤ x3 + 3 ∧ x3 + 3 ≤ 2147483647) ∧ (0 ≤ x3 + 3 ∧ x3 + 3 < 9100) ∧ (-2147483648 ≤ x3 + 4 ∧ x3 + 4 ≤ 2147483647) ∧ (0 ≤ x3 + 4 ∧ x3 + 4 < 9100) ∧ (-2147483648 ≤ σ 129 (x3 + 3) + (σ 129 (x3 + 4)) ∧ σ 129 (x3 + 3) + (σ 129 (x3 + 4)) ≤ 2147483647)) ∧ ((σ 129 (x3 + 3) + (σ 129 (x3 + 4)) ≤ σ 129 (x6 + 3) → B_X12_beside_174 d Q k15 x2 x3 x4 x5 x6 s0 σ) ∧ (¬ σ 129 (x3 + 3) + (σ 129 (x3 + 4)) ≤ σ 129 (x6 + 3) → ((-2147483648 ≤ x3 + 3 ∧ x3 + 3 ≤ 2147483647) ∧ (0 ≤ x3 + 3 ∧ x3 + 3 < 9100) ∧ (-2147483648 ≤ x6 + 3 ∧ x6 + 3 ≤ 2147483647) ∧ (0 ≤ x6 + 3 ∧ x6 + 3 < 9100) ∧ (-2147483648 ≤ x6 + 4 ∧ x6 + 4 ≤ 2147483647) ∧ (0 ≤ x6 + 4 ∧ x6 + 4 < 9100) ∧ (-2147483648 ≤ σ 129 (x6 + 3) + (σ 129 (x6 + 4)) ∧ σ 129 (x6 + 3) + (σ 129 (x6 + 4)) ≤ 2147483647)) ∧ ((σ 129 (x6 + 3) + (σ 129 (x6 + 4)) ≤ σ 129 (x3 + 3) → B_X12_beside_174 d Q k15 x2 x3 x4 x5 x6 s0 σ) ∧ (¬ σ 129 (x6 + 3) + (σ 129 (x6 + 4)) ≤ σ 129 (x3 + 3) → B_X12_beside_175 d Q k15 x2 x3 x4 x5 x6 s0 1 σ))))
def B_X12_beside_108 (d : Nat) (Q : Int → hh_S → Prop) (k15 : Int → Int → Int → Int → hh_S → Prop) (x2 x3 x4 x5 x6 : Int) (σ : hh_S) : Prop :=
  B_X12_beside_109 d Q k15 x2 x3 x4 x5 x6 0 σ
def B_X12_beside_15 (d : Nat) (Q : Int → hh_S → Prop) (k15 : Int → Int → Int → Int → hh_S → Prop) (x2 x3 x4 x5 : Int) (σ : hh_S) : Prop :=
  (σ 129 7 ≤ x5 → B_X12_beside_211 d Q x4 σ) ∧ (¬ σ 129 7 ≤ x5 → ((-2147483648 ≤ 12 * x5 ∧ 12 * x5 ≤ 2147483647) ∧ (-2147483648 ≤ 250 + 12 * x5 ∧ 250 + 12 * x5 ≤ 2147483647) ∧ (0 ≤ 250 + 12 * x5 ∧ 250 + 12 * x5 < 9100) ∧ (0 ≤ x3 ∧ x3 < 9100)) ∧ ((σ 129 (250 + 12 * x5) = σ 129 x3 → B_X12_beside_108 d Q k15 x2 x3 x4 x5 (250 + 12 * x5) σ) ∧ (¬ σ 129 (250 + 12 * x5) = σ 129 x3 → ((-2147483648 ≤ 250 + 12 * x5 + 1 ∧ 250 + 12 * x5 + 1 ≤ 2147483647) ∧ (0 ≤ 250 + 12 * x5 + 1 ∧ 250 + 12 * x5 + 1 < 9100) ∧ (-2147483648 ≤ x3 + 1 ∧ x3 + 1 ≤ 2147483647) ∧ (0 ≤ x3 + 1 ∧ x3 + 1 < 9100)) ∧ ((¬ σ 129 (250 + 12 * x5 + 1) = σ 129 (x3 + 1) → B_X12_beside_108 d Q k15 x2 x3 x4 x5 (250 + 12 * x5) σ) ∧ (σ 129 (250 + 12 * x5 + 1) = σ 129 (x3 + 1) → ((-2147483648 ≤ 250 + 12 * x5 + 2 ∧ 250 + 12 * x5 + 2 ≤ 2147483647) ∧ (0 ≤ 250 + 12 * x5 + 2 ∧ 250 + 12 * x5 + 2 < 9100) ∧ (-2147483648 ≤ x3 + 2 ∧ x3 + 2 ≤ 2147483647) ∧ (0 ≤ x3 + 2 ∧ x3 + 2 < 9100)) ∧ ((¬ σ 129 (250 + 12 * x5 + 2) = σ 129 (x3 + 2) → B_X12_beside_108 d Q k15 x2 x3 x4 x5 (250 + 12 * x5) σ) ∧ (σ 129 (250 + 12 * x5 + 2) = σ 129 (x3 + 2) → hh_Sp d hm_X12_isKnown [hh_R 128, hh_I x5, hh_I x2] σ (fun r98 σ98 => (r98 = 0 → B_X12_beside_108 d Q k15 x2 x3 x4 x5 (250 + 12 * x5) σ98) ∧ (¬ r98 = 0 → B_X12_beside_109 d Q k15 x2 x3 x4 x5 (250 + 12 * x5) 1 σ98)))))))))
def P_X12_beside (d : Nat) (a1 a2 : Int) (σ : hh_S) (Q : Int → hh_S → Prop) : Prop :=
  ((-2147483648 ≤ 12 * a1 ∧ 12 * a1 ≤ 2147483647) ∧ (-2147483648 ≤ 250 + 12 * a1 ∧ 250 + 12 * a1 ≤ 2147483647)) ∧ (∃ n, hh_lp4 (B_X12_beside_15 d Q) n a2 (250 + 12 * a1) 0 0 σ)
set_option maxRecDepth 20000 in
theorem w_X12_beside_217 {d : Nat} {Q : Int → hh_S → Prop} {k217 : Int → Int → Int → hh_S → Prop} (hk217 : ∀ (x4 x5 x6 : Int) (σ : hh_S), k217 x4 x5 x6 σ → hh_J (d + 1) hm_X12_beside 217 [none, none, none, none, some (hh_I x4), some (hh_I x5), some (hh_I x6), none, none] [] σ Q) (x4 x5 x6 : Int) (σ : hh_S) (h : B_X12_beside_217 d Q k217 x4 x5 x6 σ) : hh_J (d + 1) hm_X12_beside 217 [none, none, none, none, some (hh_I x4), some (hh_I x5), some (hh_I x6), none, none] [] σ Q := by
  unfold B_X12_beside_217 at h
  refine hh_iload dX12_beside_217 rfl ?_
  refine hh_bipush dX12_beside_219 (by decide) ?_
  refine hh_icmp_ge (tgt := 242) dX12_beside_221 (by decide) (fun c => ?_) (fun c => ?_)
  · replace h := h.1 c
    refine hh_iload dX12_beside_242 rfl ?_
    exact hh_ireturn dX12_beside_244 rfl h
  · replace h := h.2 c
    obtain ⟨⟨q1, q2⟩, h⟩ := h
    refine hh_iload dX12_beside_224 rfl ?_
    refine hh_iload dX12_beside_226 rfl ?_
    refine hh_iload dX12_beside_228 rfl ?_
    refine hh_ishr dX12_beside_230 ?_
    refine hh_iconst dX12_beside_231 (by decide) ?_
    refine hh_iand dX12_beside_232 ?_
    refine hh_iadd dX12_beside_233 q1 ?_
    refine hh_istore dX12_beside_234 (by decide) rfl ?_
    refine hh_iinc dX12_beside_236 (by decide) rfl rfl q2 ?_
    refine hh_goto (tgt := 217) dX12_beside_239 (by decide) ?_
    exact hh_forget [false, false, false, false, true, true, true, false, false] (hk217 _ _ _ _ h)
theorem l_X12_beside_217 {d : Nat} {Q : Int → hh_S → Prop} : ∀ (n : Nat) (x4 x5 x6 : Int) (σ : hh_S), hh_lp3 (B_X12_beside_217 d Q) n x4 x5 x6 σ → hh_J (d + 1) hm_X12_beside 217 [none, none, none, none, some (hh_I x4), some (hh_I x5), some (hh_I x6), none, none] [] σ Q := by
  intro n
  induction n with
  | zero => intro _ _ _ _ h; exact h.elim
  | succ n ih => intro x4 x5 x6 σ h; exact w_X12_beside_217 ih x4 x5 x6 σ h
set_option maxRecDepth 20000 in
theorem w_X12_beside_211 {d : Nat} {Q : Int → hh_S → Prop} (x4 : Int) (σ : hh_S) (h : B_X12_beside_211 d Q x4 σ) : hh_J (d + 1) hm_X12_beside 211 [none, none, none, none, some (hh_I x4), none, none, none, none] [] σ Q := by
  unfold B_X12_beside_211 at h
  refine hh_iconst dX12_beside_211 (by decide) ?_
  refine hh_istore dX12_beside_212 (by decide) rfl ?_
  refine hh_iconst dX12_beside_214 (by decide) ?_
  refine hh_istore dX12_beside_215 (by decide) rfl ?_
  obtain ⟨n, h⟩ := h
  exact hh_forget [false, false, false, false, true, true, true, false, false] (l_X12_beside_217 n _ _ _ _ h)
set_option maxRecDepth 20000 in
theorem w_X12_beside_202 {d : Nat} {Q : Int → hh_S → Prop} {k15 : Int → Int → Int → Int → hh_S → Prop} (hk15 : ∀ (x2 x3 x4 x5 : Int) (σ : hh_S), k15 x2 x3 x4 x5 σ → hh_J (d + 1) hm_X12_beside 15 [some (hh_R 128), none, some (hh_I x2), some (hh_I x3), some (hh_I x4), some (hh_I x5), none, none, none] [] σ Q) (x2 x3 x5 s0 s1 : Int) (σ : hh_S) (h : B_X12_beside_202 d Q k15 x2 x3 x5 s0 s1 σ) : hh_J (d + 1) hm_X12_beside 202 [some (hh_R 128), none, some (hh_I x2), some (hh_I x3), none, some (hh_I x5), none, none, none] [hh_I s1, hh_I s0] σ Q := by
  unfold B_X12_beside_202 at h
  obtain ⟨q1, h⟩ := h
  refine hh_ior dX12_beside_202 ?_
  refine hh_istore dX12_beside_203 (by decide) rfl ?_
  refine hh_iinc dX12_beside_205 (by decide) rfl rfl q1 ?_
  refine hh_goto (tgt := 15) dX12_beside_208 (by decide) ?_
  exact hh_forget [true, false, true, true, true, true, false, false, false] (hk15 _ _ _ _ _ h)
set_option maxRecDepth 20000 in
theorem w_X12_beside_201 {d : Nat} {Q : Int → hh_S → Prop} {k15 : Int → Int → Int → Int → hh_S → Prop} (hk15 : ∀ (x2 x3 x4 x5 : Int) (σ : hh_S), k15 x2 x3 x4 x5 σ → hh_J (d + 1) hm_X12_beside 15 [some (hh_R 128), none, some (hh_I x2), some (hh_I x3), some (hh_I x4), some (hh_I x5), none, none, none] [] σ Q) (x2 x3 x5 s0 : Int) (σ : hh_S) (h : B_X12_beside_201 d Q k15 x2 x3 x5 s0 σ) : hh_J (d + 1) hm_X12_beside 201 [some (hh_R 128), none, some (hh_I x2), some (hh_I x3), none, some (hh_I x5), none, none, none] [hh_I s0] σ Q := by
  unfold B_X12_beside_201 at h
  refine hh_iconst dX12_beside_201 (by decide) ?_
  exact hh_forget [true, false, true, true, false, true, false, false, false] (w_X12_beside_202 hk15 _ _ _ _ _ _ h)
set_option maxRecDepth 20000 in
theorem w_X12_beside_175 {d : Nat} {Q : Int → hh_S → Prop} {k15 : Int → Int → Int → Int → hh_S → Prop} (hk15 : ∀ (x2 x3 x4 x5 : Int) (σ : hh_S), k15 x2 x3 x4 x5 σ → hh_J (d + 1) hm_X12_beside 15 [some (hh_R 128), none, some (hh_I x2), some (hh_I x3), some (hh_I x4), some (hh_I x5), none, none, none] [] σ Q) (x2 x3 x4 x5 x6 x7 s0 : Int) (σ : hh_S) (h : B_X12_beside_175 d Q k15 x2 x3 x4 x5 x6 x7 s0 σ) : hh_J (d + 1) hm_X12_beside 175 [some (hh_R 128), none, some (hh_I x2), some (hh_I x3), some (hh_I x4), some (hh_I x5), some (hh_I x6), some (hh_I x7), none] [hh_I s0] σ Q := by
  unfold B_X12_beside_175 at h
  refine hh_istore dX12_beside_175 (by decide) rfl ?_
  refine hh_iload dX12_beside_177 rfl ?_
  refine hh_iload dX12_beside_179 rfl ?_
  refine hh_if_eq (tgt := 201) dX12_beside_181 (by decide) (fun c => ?_) (fun c => ?_)
  · replace h := h.1 c
    exact hh_forget [true, false, true, true, false, true, false, false, false] (w_X12_beside_201 hk15 _ _ _ _ _ h)
  · replace h := h.2 c
    refine hh_iload dX12_beside_184 rfl ?_
    refine hh_if_eq (tgt := 201) dX12_beside_186 (by decide) (fun c => ?_) (fun c => ?_)
    · replace h := h.1 c
      exact hh_forget [true, false, true, true, false, true, false, false, false] (w_X12_beside_201 hk15 _ _ _ _ _ h)
    · replace h := h.2 c
      obtain ⟨q1, h⟩ := h
      refine hh_iconst dX12_beside_189 (by decide) ?_
      refine hh_aload_n dX12_beside_190 rfl ?_
      refine hh_getR dX12_beside_191 kf_X12_7 rf_128_0 ?_
      refine hh_iload dX12_beside_194 rfl ?_
      refine hh_iald dX12_beside_196 ra_129 q1 rfl ?_
      refine hh_ishl dX12_beside_197 ?_
      refine hh_goto (tgt := 202) dX12_beside_198 (by decide) ?_
      exact hh_forget [true, false, true, true, false, true, false, false, false] (w_X12_beside_202 hk15 _ _ _ _ _ _ h)
set_option maxRecDepth 20000 in
theorem w_X12_beside_174 {d : Nat} {Q : Int → hh_S → Prop} {k15 : Int → Int → Int → Int → hh_S → Prop} (hk15 : ∀ (x2 x3 x4 x5 : Int) (σ : hh_S), k15 x2 x3 x4 x5 σ → hh_J (d + 1) hm_X12_beside 15 [some (hh_R 128), none, some (hh_I x2), some (hh_I x3), some (hh_I x4), some (hh_I x5), none, none, none] [] σ Q) (x2 x3 x4 x5 x6 x7 : Int) (σ : hh_S) (h : B_X12_beside_174 d Q k15 x2 x3 x4 x5 x6 x7 σ) : hh_J (d + 1) hm_X12_beside 174 [some (hh_R 128), none, some (hh_I x2), some (hh_I x3), some (hh_I x4), some (hh_I x5), some (hh_I x6), some (hh_I x7), none] [] σ Q := by
  unfold B_X12_beside_174 at h
  refine hh_iconst dX12_beside_174 (by decide) ?_
  exact hh_forget [true, false, true, true, true, true, true, true, false] (w_X12_beside_175 hk15 _ _ _ _ _ _ _ _ h)
set_option maxRecDepth 20000 in
theorem w_X12_beside_109 {d : Nat} {Q : Int → hh_S → Prop} {k15 : Int → Int → Int → Int → hh_S → Prop} (hk15 : ∀ (x2 x3 x4 x5 : Int) (σ : hh_S), k15 x2 x3 x4 x5 σ → hh_J (d + 1) hm_X12_beside 15 [some (hh_R 128), none, some (hh_I x2), some (hh_I x3), some (hh_I x4), some (hh_I x5), none, none, none] [] σ Q) (x2 x3 x4 x5 x6 s0 : Int) (σ : hh_S) (h : B_X12_beside_109 d Q k15 x2 x3 x4 x5 x6 s0 σ) : hh_J (d + 1) hm_X12_beside 109 [some (hh_R 128), none, some (hh_I x2), some (hh_I x3), some (hh_I x4), some (hh_I x5), some (hh_I x6), none, none] [hh_I s0] σ Q := by
  unfold B_X12_beside_109 at h
  obtain ⟨⟨q1, q2, q3, q4, q5, q6, q7⟩, h⟩ := h
  refine hh_istore dX12_beside_109 (by decide) rfl ?_
  refine hh_aload_n dX12_beside_111 rfl ?_
  refine hh_getR dX12_beside_112 kf_X12_7 rf_128_0 ?_
  refine hh_iload dX12_beside_115 rfl ?_
  refine hh_iconst dX12_beside_117 (by decide) ?_
  refine hh_iadd dX12_beside_118 q1 ?_
  refine hh_iald dX12_beside_119 ra_129 q2 rfl ?_
  refine hh_aload_n dX12_beside_120 rfl ?_
  refine hh_getR dX12_beside_121 kf_X12_7 rf_128_0 ?_
  refine hh_iload_n dX12_beside_124 rfl ?_
  refine hh_iconst dX12_beside_125 (by decide) ?_
  refine hh_iadd dX12_beside_126 q3 ?_
  refine hh_iald dX12_beside_127 ra_129 q4 rfl ?_
  refine hh_aload_n dX12_beside_128 rfl ?_
  refine hh_getR dX12_beside_129 kf_X12_7 rf_128_0 ?_
  refine hh_iload_n dX12_beside_132 rfl ?_
  refine hh_iconst dX12_beside_133 (by decide) ?_
  refine hh_iadd dX12_beside_134 q5 ?_
  refine hh_iald dX12_beside_135 ra_129 q6 rfl ?_
  refine hh_iadd dX12_beside_136 q7 ?_
  refine hh_icmp_ge (tgt := 174) dX12_beside_137 (by decide) (fun c => ?_) (fun c => ?_)
  · replace h := h.1 c
    exact hh_forget [true, false, true, true, true, true, true, true, false] (w_X12_beside_174 hk15 _ _ _ _ _ _ _ h)
  · replace h := h.2 c
    obtain ⟨⟨q1, q2, q3, q4, q5, q6, q7⟩, h⟩ := h
    refine hh_aload_n dX12_beside_140 rfl ?_
    refine hh_getR dX12_beside_141 kf_X12_7 rf_128_0 ?_
    refine hh_iload_n dX12_beside_144 rfl ?_
    refine hh_iconst dX12_beside_145 (by decide) ?_
    refine hh_iadd dX12_beside_146 q1 ?_
    refine hh_iald dX12_beside_147 ra_129 q2 rfl ?_
    refine hh_aload_n dX12_beside_148 rfl ?_
    refine hh_getR dX12_beside_149 kf_X12_7 rf_128_0 ?_
    refine hh_iload dX12_beside_152 rfl ?_
    refine hh_iconst dX12_beside_154 (by decide) ?_
    refine hh_iadd dX12_beside_155 q3 ?_
    refine hh_iald dX12_beside_156 ra_129 q4 rfl ?_
    refine hh_aload_n dX12_beside_157 rfl ?_
    refine hh_getR dX12_beside_158 kf_X12_7 rf_128_0 ?_
    refine hh_iload dX12_beside_161 rfl ?_
    refine hh_iconst dX12_beside_163 (by decide) ?_
    refine hh_iadd dX12_beside_164 q5 ?_
    refine hh_iald dX12_beside_165 ra_129 q6 rfl ?_
    refine hh_iadd dX12_beside_166 q7 ?_
    refine hh_icmp_ge (tgt := 174) dX12_beside_167 (by decide) (fun c => ?_) (fun c => ?_)
    · replace h := h.1 c
      exact hh_forget [true, false, true, true, true, true, true, true, false] (w_X12_beside_174 hk15 _ _ _ _ _ _ _ h)
    · replace h := h.2 c
      refine hh_iconst dX12_beside_170 (by decide) ?_
      refine hh_goto (tgt := 175) dX12_beside_171 (by decide) ?_
      exact hh_forget [true, false, true, true, true, true, true, true, false] (w_X12_beside_175 hk15 _ _ _ _ _ _ _ _ h)
set_option maxRecDepth 20000 in
theorem w_X12_beside_108 {d : Nat} {Q : Int → hh_S → Prop} {k15 : Int → Int → Int → Int → hh_S → Prop} (hk15 : ∀ (x2 x3 x4 x5 : Int) (σ : hh_S), k15 x2 x3 x4 x5 σ → hh_J (d + 1) hm_X12_beside 15 [some (hh_R 128), none, some (hh_I x2), some (hh_I x3), some (hh_I x4), some (hh_I x5), none, none, none] [] σ Q) (x2 x3 x4 x5 x6 : Int) (σ : hh_S) (h : B_X12_beside_108 d Q k15 x2 x3 x4 x5 x6 σ) : hh_J (d + 1) hm_X12_beside 108 [some (hh_R 128), none, some (hh_I x2), some (hh_I x3), some (hh_I x4), some (hh_I x5), some (hh_I x6), none, none] [] σ Q := by
  unfold B_X12_beside_108 at h
  refine hh_iconst dX12_beside_108 (by decide) ?_
  exact hh_forget [true, false, true, true, true, true, true, false, false] (w_X12_beside_109 hk15 _ _ _ _ _ _ _ h)
set_option maxRecDepth 20000 in
theorem w_X12_beside_15 {d : Nat} {Q : Int → hh_S → Prop} {k15 : Int → Int → Int → Int → hh_S → Prop} (hk15 : ∀ (x2 x3 x4 x5 : Int) (σ : hh_S), k15 x2 x3 x4 x5 σ → hh_J (d + 1) hm_X12_beside 15 [some (hh_R 128), none, some (hh_I x2), some (hh_I x3), some (hh_I x4), some (hh_I x5), none, none, none] [] σ Q) (x2 x3 x4 x5 : Int) (σ : hh_S) (h : B_X12_beside_15 d Q k15 x2 x3 x4 x5 σ) : hh_J (d + 1) hm_X12_beside 15 [some (hh_R 128), none, some (hh_I x2), some (hh_I x3), some (hh_I x4), some (hh_I x5), none, none, none] [] σ Q := by
  unfold B_X12_beside_15 at h
  refine hh_iload dX12_beside_15 rfl ?_
  refine hh_aload_n dX12_beside_17 rfl ?_
  refine hh_getR dX12_beside_18 kf_X12_7 rf_128_0 ?_
  refine hh_bipush dX12_beside_21 (by decide) ?_
  refine hh_iald dX12_beside_23 ra_129 (by decide) rfl ?_
  refine hh_icmp_ge (tgt := 211) dX12_beside_24 (by decide) (fun c => ?_) (fun c => ?_)
  · replace h := h.1 c
    exact hh_forget [false, false, false, false, true, false, false, false, false] (w_X12_beside_211 _ _ h)
  · replace h := h.2 c
    obtain ⟨⟨q1, q2, q3, q4⟩, h⟩ := h
    refine hh_sipush dX12_beside_27 (by decide) ?_
    refine hh_bipush dX12_beside_30 (by decide) ?_
    refine hh_iload dX12_beside_32 rfl ?_
    refine hh_imul dX12_beside_34 q1 ?_
    refine hh_iadd dX12_beside_35 q2 ?_
    refine hh_istore dX12_beside_36 (by decide) rfl ?_
    refine hh_aload_n dX12_beside_38 rfl ?_
    refine hh_getR dX12_beside_39 kf_X12_7 rf_128_0 ?_
    refine hh_iload dX12_beside_42 rfl ?_
    refine hh_iald dX12_beside_44 ra_129 q3 rfl ?_
    refine hh_aload_n dX12_beside_45 rfl ?_
    refine hh_getR dX12_beside_46 kf_X12_7 rf_128_0 ?_
    refine hh_iload_n dX12_beside_49 rfl ?_
    refine hh_iald dX12_beside_50 ra_129 q4 rfl ?_
    refine hh_icmp_eq (tgt := 108) dX12_beside_51 (by decide) (fun c => ?_) (fun c => ?_)
    · replace h := h.1 c
      exact hh_forget [true, false, true, true, true, true, true, false, false] (w_X12_beside_108 hk15 _ _ _ _ _ _ h)
    · replace h := h.2 c
      obtain ⟨⟨q1, q2, q3, q4⟩, h⟩ := h
      refine hh_aload_n dX12_beside_54 rfl ?_
      refine hh_getR dX12_beside_55 kf_X12_7 rf_128_0 ?_
      refine hh_iload dX12_beside_58 rfl ?_
      refine hh_iconst dX12_beside_60 (by decide) ?_
      refine hh_iadd dX12_beside_61 q1 ?_
      refine hh_iald dX12_beside_62 ra_129 q2 rfl ?_
      refine hh_aload_n dX12_beside_63 rfl ?_
      refine hh_getR dX12_beside_64 kf_X12_7 rf_128_0 ?_
      refine hh_iload_n dX12_beside_67 rfl ?_
      refine hh_iconst dX12_beside_68 (by decide) ?_
      refine hh_iadd dX12_beside_69 q3 ?_
      refine hh_iald dX12_beside_70 ra_129 q4 rfl ?_
      refine hh_icmp_ne (tgt := 108) dX12_beside_71 (by decide) (fun c => ?_) (fun c => ?_)
      · replace h := h.1 c
        exact hh_forget [true, false, true, true, true, true, true, false, false] (w_X12_beside_108 hk15 _ _ _ _ _ _ h)
      · replace h := h.2 c
        obtain ⟨⟨q1, q2, q3, q4⟩, h⟩ := h
        refine hh_aload_n dX12_beside_74 rfl ?_
        refine hh_getR dX12_beside_75 kf_X12_7 rf_128_0 ?_
        refine hh_iload dX12_beside_78 rfl ?_
        refine hh_iconst dX12_beside_80 (by decide) ?_
        refine hh_iadd dX12_beside_81 q1 ?_
        refine hh_iald dX12_beside_82 ra_129 q2 rfl ?_
        refine hh_aload_n dX12_beside_83 rfl ?_
        refine hh_getR dX12_beside_84 kf_X12_7 rf_128_0 ?_
        refine hh_iload_n dX12_beside_87 rfl ?_
        refine hh_iconst dX12_beside_88 (by decide) ?_
        refine hh_iadd dX12_beside_89 q3 ?_
        refine hh_iald dX12_beside_90 ra_129 q4 rfl ?_
        refine hh_icmp_ne (tgt := 108) dX12_beside_91 (by decide) (fun c => ?_) (fun c => ?_)
        · replace h := h.1 c
          exact hh_forget [true, false, true, true, true, true, true, false, false] (w_X12_beside_108 hk15 _ _ _ _ _ _ h)
        · replace h := h.2 c
          refine hh_aload_n dX12_beside_94 rfl ?_
          refine hh_iload dX12_beside_95 rfl ?_
          refine hh_iload_n dX12_beside_97 rfl ?_
          refine hh_cV2 dX12_beside_98 lk_X12_101 mo_X12_isKnown rc_128 (Nat.le_of_ble_eq_true rfl) h (fun r98 σ98 h => ?_)
          refine hh_if_eq (tgt := 108) dX12_beside_101 (by decide) (fun c => ?_) (fun c => ?_)
          · replace h := h.1 c
            exact hh_forget [true, false, true, true, true, true, true, false, false] (w_X12_beside_108 hk15 _ _ _ _ _ _ h)
          · replace h := h.2 c
            refine hh_iconst dX12_beside_104 (by decide) ?_
            refine hh_goto (tgt := 109) dX12_beside_105 (by decide) ?_
            exact hh_forget [true, false, true, true, true, true, true, false, false] (w_X12_beside_109 hk15 _ _ _ _ _ _ _ h)
theorem l_X12_beside_15 {d : Nat} {Q : Int → hh_S → Prop} : ∀ (n : Nat) (x2 x3 x4 x5 : Int) (σ : hh_S), hh_lp4 (B_X12_beside_15 d Q) n x2 x3 x4 x5 σ → hh_J (d + 1) hm_X12_beside 15 [some (hh_R 128), none, some (hh_I x2), some (hh_I x3), some (hh_I x4), some (hh_I x5), none, none, none] [] σ Q := by
  intro n
  induction n with
  | zero => intro _ _ _ _ _ h; exact h.elim
  | succ n ih => intro x2 x3 x4 x5 σ h; exact w_X12_beside_15 ih x2 x3 x4 x5 σ h
set_option maxRecDepth 20000 in
theorem w_X12_beside {d : Nat} {a1 a2 : Int} {σ : hh_S} {Q : Int → hh_S → Prop} (h : P_X12_beside d a1 a2 σ Q) : hh_J (d + 1) hm_X12_beside 0 [some (hh_R 128), some (hh_I a1), some (hh_I a2), none, none, none, none, none, none] [] σ Q := by
  unfold P_X12_beside at h
  obtain ⟨⟨q1, q2⟩, h⟩ := h
  refine hh_sipush dX12_beside_0 (by decide) ?_
  refine hh_bipush dX12_beside_3 (by decide) ?_
  refine hh_iload_n dX12_beside_5 rfl ?_
  refine hh_imul dX12_beside_6 q1 ?_
  refine hh_iadd dX12_beside_7 q2 ?_
  refine hh_istore_n dX12_beside_8 (by decide) rfl ?_
  refine hh_iconst dX12_beside_9 (by decide) ?_
  refine hh_istore dX12_beside_10 (by decide) rfl ?_
  refine hh_iconst dX12_beside_12 (by decide) ?_
  refine hh_istore dX12_beside_13 (by decide) rfl ?_
  obtain ⟨n, h⟩ := h
  exact hh_forget [true, false, true, true, true, true, false, false, false] (l_X12_beside_15 n _ _ _ _ _ h)
theorem wp_X12_beside {d : Nat} (a1 a2 : Int) {σ : hh_S} {Q : Int → hh_S → Prop} (h : hh_cs σ → hh_can a1 → hh_can a2 → P_X12_beside d a1 a2 σ Q) : hh_Sp (d + 1) hm_X12_beside [hh_R 128, hh_I a1, hh_I a2] σ Q :=
  hh_entry rfl (Nat.le_of_ble_eq_true rfl) rfl (fun hs hc => w_X12_beside (h hs (hc _ (List.mem_of_getElem? (i := 1) rfl)) (hc _ (List.mem_of_getElem? (i := 2) rfl))))
def B_X12_termOf_132 (d : Nat) (Q : Int → hh_S → Prop) (k34 : Int → Int → Int → Int → hh_S → Prop) (x1 x2 x3 x4 : Int) (σ : hh_S) : Prop :=
  ((-2147483648 ≤ x4 + 1 ∧ x4 + 1 ≤ 2147483647)) ∧ (k34 x1 x2 x3 (x4 + 1) σ)
def B_X12_termOf_129 (d : Nat) (Q : Int → hh_S → Prop) (k34 : Int → Int → Int → Int → hh_S → Prop) (x1 x2 x4 : Int) (σ : hh_S) : Prop :=
  B_X12_termOf_132 d Q k34 x1 x2 x4 x4 σ
def B_X12_termOf_34 (d : Nat) (Q : Int → hh_S → Prop) (k34 : Int → Int → Int → Int → hh_S → Prop) (x1 x2 x3 x4 : Int) (σ : hh_S) : Prop :=
  (σ 129 9 ≤ x4 → Q x3 σ) ∧ (¬ σ 129 9 ≤ x4 → ((-2147483648 ≤ 484 * x4 ∧ 484 * x4 ≤ 2147483647) ∧ (-2147483648 ≤ 1840 + 484 * x4 ∧ 1840 + 484 * x4 ≤ 2147483647) ∧ (0 ≤ 1840 + 484 * x4 ∧ 1840 + 484 * x4 < 9100)) ∧ ((¬ σ 129 (1840 + 484 * x4) = x2 → B_X12_termOf_132 d Q k34 x1 x2 x3 x4 σ) ∧ (σ 129 (1840 + 484 * x4) = x2 → ((-2147483648 ≤ 1840 + 484 * x4 + 1 ∧ 1840 + 484 * x4 + 1 ≤ 2147483647) ∧ (0 ≤ 1840 + 484 * x4 + 1 ∧ 1840 + 484 * x4 + 1 < 9100) ∧ (-2147483648 ≤ 12 * x1 ∧ 12 * x1 ≤ 2147483647) ∧ (-2147483648 ≤ 250 + 12 * x1 ∧ 250 + 12 * x1 ≤ 2147483647) ∧ (-2147483648 ≤ 250 + 12 * x1 + 2 ∧ 250 + 12 * x1 + 2 ≤ 2147483647) ∧ (0 ≤ 250 + 12 * x1 + 2 ∧ 250 + 12 * x1 + 2 < 9100)) ∧ ((σ 129 (250 + 12 * x1 + 2) < σ 129 (1840 + 484 * x4 + 1) → B_X12_termOf_132 d Q k34 x1 x2 x3 x4 σ) ∧ (¬ σ 129 (250 + 12 * x1 + 2) < σ 129 (1840 + 484 * x4 + 1) → (x3 = (-1) → B_X12_termOf_129 d Q k34 x1 x2 x4 σ) ∧ (¬ x3 = (-1) → ((-2147483648 ≤ 1840 + 484 * x4 + 1 ∧ 1840 + 484 * x4 + 1 ≤ 2147483647) ∧ (0 ≤ 1840 + 484 * x4 + 1 ∧ 1840 + 484 * x4 + 1 < 9100) ∧ (-2147483648 ≤ 484 * x3 ∧ 484 * x3 ≤ 2147483647) ∧ (-2147483648 ≤ 1840 + 484 * x3 ∧ 1840 + 484 * x3 ≤ 2147483647) ∧ (-2147483648 ≤ 1840 + 484 * x3 + 1 ∧ 1840 + 484 * x3 + 1 ≤ 2147483647) ∧ (0 ≤ 1840 + 484 * x3 + 1 ∧ 1840 + 484 * x3 + 1 < 9100)) ∧ ((σ 129 (1840 + 484 * x4 + 1) < σ 129 (1840 + 484 * x3 + 1) → B_X12_termOf_132 d Q k34 x1 x2 x3 x4 σ) ∧ (¬ σ 129 (1840 + 484 * x4 + 1) < σ 129 (1840 + 484 * x3 + 1) → B_X12_termOf_129 d Q k34 x1 x2 x4 σ))))))))
def P_X12_termOf (d : Nat) (a1 : Int) (σ : hh_S) (Q : Int → hh_S → Prop) : Prop :=
  ((-2147483648 ≤ 12 * a1 ∧ 12 * a1 ≤ 2147483647) ∧ (-2147483648 ≤ 250 + 12 * a1 ∧ 250 + 12 * a1 ≤ 2147483647) ∧ (-2147483648 ≤ 250 + 12 * a1 + 1 ∧ 250 + 12 * a1 + 1 ≤ 2147483647) ∧ (0 ≤ 250 + 12 * a1 + 1 ∧ 250 + 12 * a1 + 1 < 9100) ∧ (-2147483648 ≤ 20 * (σ 129 (250 + 12 * a1 + 1)) ∧ 20 * (σ 129 (250 + 12 * a1 + 1)) ≤ 2147483647) ∧ (-2147483648 ≤ 50 + (20 * (σ 129 (250 + 12 * a1 + 1))) ∧ 50 + (20 * (σ 129 (250 + 12 * a1 + 1))) ≤ 2147483647) ∧ (-2147483648 ≤ 50 + (20 * (σ 129 (250 + 12 * a1 + 1))) + 1 ∧ 50 + (20 * (σ 129 (250 + 12 * a1 + 1))) + 1 ≤ 2147483647) ∧ (0 ≤ 50 + (20 * (σ 129 (250 + 12 * a1 + 1))) + 1 ∧ 50 + (20 * (σ 129 (250 + 12 * a1 + 1))) + 1 < 9100)) ∧ (∃ n, hh_lp4 (B_X12_termOf_34 d Q) n a1 (σ 129 (50 + (20 * (σ 129 (250 + 12 * a1 + 1))) + 1)) (-1) 0 σ)
set_option maxRecDepth 20000 in
theorem w_X12_termOf_132 {d : Nat} {Q : Int → hh_S → Prop} {k34 : Int → Int → Int → Int → hh_S → Prop} (hk34 : ∀ (x1 x2 x3 x4 : Int) (σ : hh_S), k34 x1 x2 x3 x4 σ → hh_J (d + 1) hm_X12_termOf 34 [some (hh_R 128), some (hh_I x1), some (hh_I x2), some (hh_I x3), some (hh_I x4), none] [] σ Q) (x1 x2 x3 x4 : Int) (σ : hh_S) (h : B_X12_termOf_132 d Q k34 x1 x2 x3 x4 σ) : hh_J (d + 1) hm_X12_termOf 132 [some (hh_R 128), some (hh_I x1), some (hh_I x2), some (hh_I x3), some (hh_I x4), none] [] σ Q := by
  unfold B_X12_termOf_132 at h
  obtain ⟨q1, h⟩ := h
  refine hh_iinc dX12_termOf_132 (by decide) rfl rfl q1 ?_
  refine hh_goto (tgt := 34) dX12_termOf_135 (by decide) ?_
  exact hh_forget [true, true, true, true, true, false] (hk34 _ _ _ _ _ h)
set_option maxRecDepth 20000 in
theorem w_X12_termOf_129 {d : Nat} {Q : Int → hh_S → Prop} {k34 : Int → Int → Int → Int → hh_S → Prop} (hk34 : ∀ (x1 x2 x3 x4 : Int) (σ : hh_S), k34 x1 x2 x3 x4 σ → hh_J (d + 1) hm_X12_termOf 34 [some (hh_R 128), some (hh_I x1), some (hh_I x2), some (hh_I x3), some (hh_I x4), none] [] σ Q) (x1 x2 x4 : Int) (σ : hh_S) (h : B_X12_termOf_129 d Q k34 x1 x2 x4 σ) : hh_J (d + 1) hm_X12_termOf 129 [some (hh_R 128), some (hh_I x1), some (hh_I x2), none, some (hh_I x4), none] [] σ Q := by
  unfold B_X12_termOf_129 at h
  refine hh_iload dX12_termOf_129 rfl ?_
  refine hh_istore_n dX12_termOf_131 (by decide) rfl ?_
  exact hh_forget [true, true, true, true, true, false] (w_X12_termOf_132 hk34 _ _ _ _ _ h)
set_option maxRecDepth 20000 in
theorem w_X12_termOf_34 {d : Nat} {Q : Int → hh_S → Prop} {k34 : Int → Int → Int → Int → hh_S → Prop} (hk34 : ∀ (x1 x2 x3 x4 : Int) (σ : hh_S), k34 x1 x2 x3 x4 σ → hh_J (d + 1) hm_X12_termOf 34 [some (hh_R 128), some (hh_I x1), some (hh_I x2), some (hh_I x3), some (hh_I x4), none] [] σ Q) (x1 x2 x3 x4 : Int) (σ : hh_S) (h : B_X12_termOf_34 d Q k34 x1 x2 x3 x4 σ) : hh_J (d + 1) hm_X12_termOf 34 [some (hh_R 128), some (hh_I x1), some (hh_I x2), some (hh_I x3), some (hh_I x4), none] [] σ Q := by
  unfold B_X12_termOf_34 at h
  refine hh_iload dX12_termOf_34 rfl ?_
  refine hh_aload_n dX12_termOf_36 rfl ?_
  refine hh_getR dX12_termOf_37 kf_X12_7 rf_128_0 ?_
  refine hh_bipush dX12_termOf_40 (by decide) ?_
  refine hh_iald dX12_termOf_42 ra_129 (by decide) rfl ?_
  refine hh_icmp_ge (tgt := 138) dX12_termOf_43 (by decide) (fun c => ?_) (fun c => ?_)
  · replace h := h.1 c
    refine hh_iload_n dX12_termOf_138 rfl ?_
    exact hh_ireturn dX12_termOf_139 rfl h
  · replace h := h.2 c
    obtain ⟨⟨q1, q2, q3⟩, h⟩ := h
    refine hh_sipush dX12_termOf_46 (by decide) ?_
    refine hh_sipush dX12_termOf_49 (by decide) ?_
    refine hh_iload dX12_termOf_52 rfl ?_
    refine hh_imul dX12_termOf_54 q1 ?_
    refine hh_iadd dX12_termOf_55 q2 ?_
    refine hh_istore dX12_termOf_56 (by decide) rfl ?_
    refine hh_aload_n dX12_termOf_58 rfl ?_
    refine hh_getR dX12_termOf_59 kf_X12_7 rf_128_0 ?_
    refine hh_iload dX12_termOf_62 rfl ?_
    refine hh_iald dX12_termOf_64 ra_129 q3 rfl ?_
    refine hh_iload_n dX12_termOf_65 rfl ?_
    refine hh_icmp_ne (tgt := 132) dX12_termOf_66 (by decide) (fun c => ?_) (fun c => ?_)
    · replace h := h.1 c
      exact hh_forget [true, true, true, true, true, false] (w_X12_termOf_132 hk34 _ _ _ _ _ h)
    · replace h := h.2 c
      obtain ⟨⟨q1, q2, q3, q4, q5, q6⟩, h⟩ := h
      refine hh_aload_n dX12_termOf_69 rfl ?_
      refine hh_getR dX12_termOf_70 kf_X12_7 rf_128_0 ?_
      refine hh_iload dX12_termOf_73 rfl ?_
      refine hh_iconst dX12_termOf_75 (by decide) ?_
      refine hh_iadd dX12_termOf_76 q1 ?_
      refine hh_iald dX12_termOf_77 ra_129 q2 rfl ?_
      refine hh_aload_n dX12_termOf_78 rfl ?_
      refine hh_getR dX12_termOf_79 kf_X12_7 rf_128_0 ?_
      refine hh_sipush dX12_termOf_82 (by decide) ?_
      refine hh_bipush dX12_termOf_85 (by decide) ?_
      refine hh_iload_n dX12_termOf_87 rfl ?_
      refine hh_imul dX12_termOf_88 q3 ?_
      refine hh_iadd dX12_termOf_89 q4 ?_
      refine hh_iconst dX12_termOf_90 (by decide) ?_
      refine hh_iadd dX12_termOf_91 q5 ?_
      refine hh_iald dX12_termOf_92 ra_129 q6 rfl ?_
      refine hh_icmp_gt (tgt := 132) dX12_termOf_93 (by decide) (fun c => ?_) (fun c => ?_)
      · replace h := h.1 c
        exact hh_forget [true, true, true, true, true, false] (w_X12_termOf_132 hk34 _ _ _ _ _ h)
      · replace h := h.2 c
        refine hh_iload_n dX12_termOf_96 rfl ?_
        refine hh_iconst dX12_termOf_97 (by decide) ?_
        refine hh_icmp_eq (tgt := 129) dX12_termOf_98 (by decide) (fun c => ?_) (fun c => ?_)
        · replace h := h.1 c
          exact hh_forget [true, true, true, false, true, false] (w_X12_termOf_129 hk34 _ _ _ _ h)
        · replace h := h.2 c
          obtain ⟨⟨q1, q2, q3, q4, q5, q6⟩, h⟩ := h
          refine hh_aload_n dX12_termOf_101 rfl ?_
          refine hh_getR dX12_termOf_102 kf_X12_7 rf_128_0 ?_
          refine hh_iload dX12_termOf_105 rfl ?_
          refine hh_iconst dX12_termOf_107 (by decide) ?_
          refine hh_iadd dX12_termOf_108 q1 ?_
          refine hh_iald dX12_termOf_109 ra_129 q2 rfl ?_
          refine hh_aload_n dX12_termOf_110 rfl ?_
          refine hh_getR dX12_termOf_111 kf_X12_7 rf_128_0 ?_
          refine hh_sipush dX12_termOf_114 (by decide) ?_
          refine hh_sipush dX12_termOf_117 (by decide) ?_
          refine hh_iload_n dX12_termOf_120 rfl ?_
          refine hh_imul dX12_termOf_121 q3 ?_
          refine hh_iadd dX12_termOf_122 q4 ?_
          refine hh_iconst dX12_termOf_123 (by decide) ?_
          refine hh_iadd dX12_termOf_124 q5 ?_
          refine hh_iald dX12_termOf_125 ra_129 q6 rfl ?_
          refine hh_icmp_lt (tgt := 132) dX12_termOf_126 (by decide) (fun c => ?_) (fun c => ?_)
          · replace h := h.1 c
            exact hh_forget [true, true, true, true, true, false] (w_X12_termOf_132 hk34 _ _ _ _ _ h)
          · replace h := h.2 c
            exact hh_forget [true, true, true, false, true, false] (w_X12_termOf_129 hk34 _ _ _ _ h)
theorem l_X12_termOf_34 {d : Nat} {Q : Int → hh_S → Prop} : ∀ (n : Nat) (x1 x2 x3 x4 : Int) (σ : hh_S), hh_lp4 (B_X12_termOf_34 d Q) n x1 x2 x3 x4 σ → hh_J (d + 1) hm_X12_termOf 34 [some (hh_R 128), some (hh_I x1), some (hh_I x2), some (hh_I x3), some (hh_I x4), none] [] σ Q := by
  intro n
  induction n with
  | zero => intro _ _ _ _ _ h; exact h.elim
  | succ n ih => intro x1 x2 x3 x4 σ h; exact w_X12_termOf_34 ih x1 x2 x3 x4 σ h
set_option maxRecDepth 20000 in
theorem w_X12_termOf {d : Nat} {a1 : Int} {σ : hh_S} {Q : Int → hh_S → Prop} (h : P_X12_termOf d a1 σ Q) : hh_J (d + 1) hm_X12_termOf 0 [some (hh_R 128), some (hh_I a1), none, none, none, none] [] σ Q := by
  unfold P_X12_termOf at h
  obtain ⟨⟨q1, q2, q3, q4, q5, q6, q7, q8⟩, h⟩ := h
  refine hh_aload_n dX12_termOf_0 rfl ?_
  refine hh_getR dX12_termOf_1 kf_X12_7 rf_128_0 ?_
  refine hh_bipush dX12_termOf_4 (by decide) ?_
  refine hh_bipush dX12_termOf_6 (by decide) ?_
  refine hh_aload_n dX12_termOf_8 rfl ?_
  refine hh_getR dX12_termOf_9 kf_X12_7 rf_128_0 ?_
  refine hh_sipush dX12_termOf_12 (by decide) ?_
  refine hh_bipush dX12_termOf_15 (by decide) ?_
  refine hh_iload_n dX12_termOf_17 rfl ?_
  refine hh_imul dX12_termOf_18 q1 ?_
  refine hh_iadd dX12_termOf_19 q2 ?_
  refine hh_iconst dX12_termOf_20 (by decide) ?_
  refine hh_iadd dX12_termOf_21 q3 ?_
  refine hh_iald dX12_termOf_22 ra_129 q4 rfl ?_
  refine hh_imul dX12_termOf_23 q5 ?_
  refine hh_iadd dX12_termOf_24 q6 ?_
  refine hh_iconst dX12_termOf_25 (by decide) ?_
  refine hh_iadd dX12_termOf_26 q7 ?_
  refine hh_iald dX12_termOf_27 ra_129 q8 rfl ?_
  refine hh_istore_n dX12_termOf_28 (by decide) rfl ?_
  refine hh_iconst dX12_termOf_29 (by decide) ?_
  refine hh_istore_n dX12_termOf_30 (by decide) rfl ?_
  refine hh_iconst dX12_termOf_31 (by decide) ?_
  refine hh_istore dX12_termOf_32 (by decide) rfl ?_
  obtain ⟨n, h⟩ := h
  exact hh_forget [true, true, true, true, true, false] (l_X12_termOf_34 n _ _ _ _ _ h)
theorem wp_X12_termOf {d : Nat} (a1 : Int) {σ : hh_S} {Q : Int → hh_S → Prop} (h : hh_cs σ → hh_can a1 → P_X12_termOf d a1 σ Q) : hh_Sp (d + 1) hm_X12_termOf [hh_R 128, hh_I a1] σ Q :=
  hh_entry rfl (Nat.le_of_ble_eq_true rfl) rfl (fun hs hc => w_X12_termOf (h hs (hc _ (List.mem_of_getElem? (i := 1) rfl))))
def B_X12_both_84 (d : Nat) (Q : Int → hh_S → Prop) (σ : hh_S) : Prop :=
  Q 1 σ
def P_X12_both (d : Nat) (a0 a1 a2 : Int) (σ : hh_S) (Q : Int → hh_S → Prop) : Prop :=
  (a0 = 10 → (¬ a1 = 0 → B_X12_both_84 d Q σ) ∧ (a1 = 0 → (a2 = 0 → Q 0 σ) ∧ (¬ a2 = 0 → B_X12_both_84 d Q σ))) ∧ (a0 = 20 → (a1 = 0 → Q 0 σ) ∧ (¬ a1 = 0 → (a2 = 0 → Q 0 σ) ∧ (¬ a2 = 0 → Q 1 σ))) ∧ (a0 = 30 → (a2 ≤ a1 → Q 0 σ) ∧ (¬ a2 ≤ a1 → Q 1 σ)) ∧ (a0 = 31 → (¬ a1 = a2 → Q 0 σ) ∧ (a1 = a2 → Q 1 σ)) ∧ (a0 = 32 → (a1 ≤ a2 → Q 0 σ) ∧ (¬ a1 ≤ a2 → Q 1 σ)) ∧ (a0 = 40 → Q (hh_wr (a1 + a2)) σ) ∧ (a0 = 41 → Q (hh_wr (a1 - a2)) σ) ∧ (a0 = 50 → Q (hh_wr (a1 * a2)) σ) ∧ (a0 ≠ 10 ∧ a0 ≠ 20 ∧ a0 ≠ 30 ∧ a0 ≠ 31 ∧ a0 ≠ 32 ∧ a0 ≠ 40 ∧ a0 ≠ 41 ∧ a0 ≠ 50 → (¬ a2 = 0 → (a2 ≠ 0) ∧ (Q (hh_wr (a1.tdiv a2)) σ)) ∧ (a2 = 0 → Q 0 σ))
set_option maxRecDepth 20000 in
theorem w_X12_both_84 {d : Nat} {Q : Int → hh_S → Prop} (σ : hh_S) (h : B_X12_both_84 d Q σ) : hh_J (d + 1) hm_X12_both 84 [none, none, none] [] σ Q := by
  unfold B_X12_both_84 at h
  refine hh_iconst dX12_both_84 (by decide) ?_
  refine hh_goto (tgt := 89) dX12_both_85 (by decide) ?_
  exact hh_ireturn dX12_both_89 rfl h
set_option maxRecDepth 20000 in
theorem w_X12_both {d : Nat} {a0 a1 a2 : Int} {σ : hh_S} {Q : Int → hh_S → Prop} (h : P_X12_both d a0 a1 a2 σ Q) : hh_J (d + 1) hm_X12_both 0 [some (hh_I a0), some (hh_I a1), some (hh_I a2)] [] σ Q := by
  unfold P_X12_both at h
  refine hh_iload_n dX12_both_0 rfl ?_
  refine hh_lookup dX12_both_1 (by decide) ?_
  by_cases c0 : a0 = 10
  · refine ⟨75, 76, by rw [c0]; rfl, by decide, ?_⟩
    replace h := h.1 c0
    refine hh_iload_n dX12_both_76 rfl ?_
    refine hh_if_ne (tgt := 84) dX12_both_77 (by decide) (fun c => ?_) (fun c => ?_)
    · replace h := h.1 c
      exact hh_forget [false, false, false] (w_X12_both_84 _ h)
    · replace h := h.2 c
      refine hh_iload_n dX12_both_80 rfl ?_
      refine hh_if_eq (tgt := 88) dX12_both_81 (by decide) (fun c => ?_) (fun c => ?_)
      · replace h := h.1 c
        refine hh_iconst dX12_both_88 (by decide) ?_
        exact hh_ireturn dX12_both_89 rfl h
      · replace h := h.2 c
        exact hh_forget [false, false, false] (w_X12_both_84 _ h)
  by_cases c1 : a0 = 20
  · refine ⟨89, 90, by rw [c1]; rfl, by decide, ?_⟩
    replace h := h.2.1 c1
    refine hh_iload_n dX12_both_90 rfl ?_
    refine hh_if_eq (tgt := 102) dX12_both_91 (by decide) (fun c => ?_) (fun c => ?_)
    · replace h := h.1 c
      refine hh_iconst dX12_both_102 (by decide) ?_
      exact hh_ireturn dX12_both_103 rfl h
    · replace h := h.2 c
      refine hh_iload_n dX12_both_94 rfl ?_
      refine hh_if_eq (tgt := 102) dX12_both_95 (by decide) (fun c => ?_) (fun c => ?_)
      · replace h := h.1 c
        refine hh_iconst dX12_both_102 (by decide) ?_
        exact hh_ireturn dX12_both_103 rfl h
      · replace h := h.2 c
        refine hh_iconst dX12_both_98 (by decide) ?_
        refine hh_goto (tgt := 103) dX12_both_99 (by decide) ?_
        exact hh_ireturn dX12_both_103 rfl h
  by_cases c2 : a0 = 30
  · refine ⟨103, 104, by rw [c2]; rfl, by decide, ?_⟩
    replace h := h.2.2.1 c2
    refine hh_iload_n dX12_both_104 rfl ?_
    refine hh_iload_n dX12_both_105 rfl ?_
    refine hh_icmp_ge (tgt := 113) dX12_both_106 (by decide) (fun c => ?_) (fun c => ?_)
    · replace h := h.1 c
      refine hh_iconst dX12_both_113 (by decide) ?_
      exact hh_ireturn dX12_both_114 rfl h
    · replace h := h.2 c
      refine hh_iconst dX12_both_109 (by decide) ?_
      refine hh_goto (tgt := 114) dX12_both_110 (by decide) ?_
      exact hh_ireturn dX12_both_114 rfl h
  by_cases c3 : a0 = 31
  · refine ⟨114, 115, by rw [c3]; rfl, by decide, ?_⟩
    replace h := h.2.2.2.1 c3
    refine hh_iload_n dX12_both_115 rfl ?_
    refine hh_iload_n dX12_both_116 rfl ?_
    refine hh_icmp_ne (tgt := 124) dX12_both_117 (by decide) (fun c => ?_) (fun c => ?_)
    · replace h := h.1 c
      refine hh_iconst dX12_both_124 (by decide) ?_
      exact hh_ireturn dX12_both_125 rfl h
    · replace h := h.2 c
      refine hh_iconst dX12_both_120 (by decide) ?_
      refine hh_goto (tgt := 125) dX12_both_121 (by decide) ?_
      exact hh_ireturn dX12_both_125 rfl h
  by_cases c4 : a0 = 32
  · refine ⟨125, 126, by rw [c4]; rfl, by decide, ?_⟩
    replace h := h.2.2.2.2.1 c4
    refine hh_iload_n dX12_both_126 rfl ?_
    refine hh_iload_n dX12_both_127 rfl ?_
    refine hh_icmp_le (tgt := 135) dX12_both_128 (by decide) (fun c => ?_) (fun c => ?_)
    · replace h := h.1 c
      refine hh_iconst dX12_both_135 (by decide) ?_
      exact hh_ireturn dX12_both_136 rfl h
    · replace h := h.2 c
      refine hh_iconst dX12_both_131 (by decide) ?_
      refine hh_goto (tgt := 136) dX12_both_132 (by decide) ?_
      exact hh_ireturn dX12_both_136 rfl h
  by_cases c5 : a0 = 40
  · refine ⟨136, 137, by rw [c5]; rfl, by decide, ?_⟩
    replace h := h.2.2.2.2.2.1 c5
    refine hh_iload_n dX12_both_137 rfl ?_
    refine hh_iload_n dX12_both_138 rfl ?_
    refine hh_iadd_w dX12_both_139 ?_
    exact hh_ireturn dX12_both_140 rfl h
  by_cases c6 : a0 = 41
  · refine ⟨140, 141, by rw [c6]; rfl, by decide, ?_⟩
    replace h := h.2.2.2.2.2.2.1 c6
    refine hh_iload_n dX12_both_141 rfl ?_
    refine hh_iload_n dX12_both_142 rfl ?_
    refine hh_isub_w dX12_both_143 ?_
    exact hh_ireturn dX12_both_144 rfl h
  by_cases c7 : a0 = 50
  · refine ⟨144, 145, by rw [c7]; rfl, by decide, ?_⟩
    replace h := h.2.2.2.2.2.2.2.1 c7
    refine hh_iload_n dX12_both_145 rfl ?_
    refine hh_iload_n dX12_both_146 rfl ?_
    refine hh_imul_w dX12_both_147 ?_
    exact hh_ireturn dX12_both_148 rfl h
  refine ⟨148, 149, by simp [Op.lookupswitch.offset, Ne.symm c0, Ne.symm c1, Ne.symm c2, Ne.symm c3, Ne.symm c4, Ne.symm c5, Ne.symm c6, Ne.symm c7], by decide, ?_⟩
  replace h := h.2.2.2.2.2.2.2.2 ⟨c0, c1, c2, c3, c4, c5, c6, c7⟩
  refine hh_iload_n dX12_both_149 rfl ?_
  refine hh_if_ne (tgt := 157) dX12_both_150 (by decide) (fun c => ?_) (fun c => ?_)
  · replace h := h.1 c
    obtain ⟨q1, h⟩ := h
    refine hh_iload_n dX12_both_157 rfl ?_
    refine hh_iload_n dX12_both_158 rfl ?_
    refine hh_idiv_w dX12_both_159 q1 ?_
    exact hh_ireturn dX12_both_160 rfl h
  · replace h := h.2 c
    refine hh_iconst dX12_both_153 (by decide) ?_
    refine hh_goto (tgt := 160) dX12_both_154 (by decide) ?_
    exact hh_ireturn dX12_both_160 rfl h
theorem wp_X12_both {d : Nat} (a0 a1 a2 : Int) {σ : hh_S} {Q : Int → hh_S → Prop} (h : hh_cs σ → hh_can a0 → hh_can a1 → hh_can a2 → P_X12_both d a0 a1 a2 σ Q) : hh_Sp (d + 1) hm_X12_both [hh_I a0, hh_I a1, hh_I a2] σ Q :=
  hh_entry rfl (Nat.le_of_ble_eq_true rfl) rfl (fun hs hc => w_X12_both (h hs (hc _ (List.mem_of_getElem? (i := 0) rfl)) (hc _ (List.mem_of_getElem? (i := 1) rfl)) (hc _ (List.mem_of_getElem? (i := 2) rfl))))
def B_X12_worked_153 (d : Nat) (Q : Int → hh_S → Prop) (σ : hh_S) : Prop :=
  Q (σ 136 0) σ
def B_X12_worked_147 (d : Nat) (Q : Int → hh_S → Prop) (k4 : Int → Int → Int → hh_S → Prop) (x1 x2 x3 : Int) (σ : hh_S) : Prop :=
  ((-2147483648 ≤ x3 + 1 ∧ x3 + 1 ≤ 2147483647)) ∧ (k4 x1 x2 (x3 + 1) σ)
def B_X12_worked_113 (d : Nat) (Q : Int → hh_S → Prop) (k4 : Int → Int → Int → hh_S → Prop) (x1 x2 x3 s1 s2 : Int) (σ : hh_S) : Prop :=
  ((0 ≤ s1 ∧ s1 < 130)) ∧ (B_X12_worked_147 d Q k4 x1 x2 x3 (hh_up σ 136 s1 s2))
def B_X12_worked_77 (d : Nat) (Q : Int → hh_S → Prop) (k4 : Int → Int → Int → hh_S → Prop) (x1 x2 x3 s1 s2 : Int) (σ : hh_S) : Prop :=
  ((0 ≤ s1 ∧ s1 < 130) ∧ (-2147483648 ≤ x2 + 1 ∧ x2 + 1 ≤ 2147483647)) ∧ (B_X12_worked_147 d Q k4 x1 (x2 + 1) x3 (hh_up σ 136 s1 s2))
def B_X12_worked_54 (d : Nat) (Q : Int → hh_S → Prop) (k4 : Int → Int → Int → hh_S → Prop) (x1 x2 x3 x4 x5 : Int) (σ : hh_S) : Prop :=
  (¬ x4 = 1 → ((0 ≤ x5 ∧ x5 < 128)) ∧ (B_X12_worked_77 d Q k4 x1 x2 x3 x2 (σ 137 x5) σ)) ∧ (x4 = 1 → B_X12_worked_77 d Q k4 x1 x2 x3 x2 x5 σ)
def B_X12_worked_4 (d : Nat) (Q : Int → hh_S → Prop) (k4 : Int → Int → Int → hh_S → Prop) (x1 x2 x3 : Int) (σ : hh_S) : Prop :=
  ((0 ≤ x1 ∧ x1 < 9100)) ∧ ((σ 129 x1 ≤ x3 → B_X12_worked_153 d Q σ) ∧ (¬ σ 129 x1 ≤ x3 → ((-2147483648 ≤ x1 + 1 ∧ x1 + 1 ≤ 2147483647) ∧ (-2147483648 ≤ 2 * x3 ∧ 2 * x3 ≤ 2147483647) ∧ (-2147483648 ≤ x1 + 1 + 2 * x3 ∧ x1 + 1 + 2 * x3 ≤ 2147483647) ∧ (0 ≤ x1 + 1 + 2 * x3 ∧ x1 + 1 + 2 * x3 < 9100) ∧ (-2147483648 ≤ x1 + 2 ∧ x1 + 2 ≤ 2147483647) ∧ (-2147483648 ≤ x1 + 2 + 2 * x3 ∧ x1 + 2 + 2 * x3 ≤ 2147483647) ∧ (0 ≤ x1 + 2 + 2 * x3 ∧ x1 + 2 + 2 * x3 < 9100)) ∧ ((σ 129 (x1 + 1 + 2 * x3) = 1 → B_X12_worked_54 d Q k4 x1 x2 x3 (σ 129 (x1 + 1 + 2 * x3)) (σ 129 (x1 + 2 + 2 * x3)) σ) ∧ (¬ σ 129 (x1 + 1 + 2 * x3) = 1 → (¬ σ 129 (x1 + 1 + 2 * x3) = 2 → (¬ σ 129 (x1 + 1 + 2 * x3) = 3 → ((-2147483648 ≤ x2 + (-1) ∧ x2 + (-1) ≤ 2147483647) ∧ (-2147483648 ≤ x2 + (-1) - 1 ∧ x2 + (-1) - 1 ≤ 2147483647) ∧ (0 ≤ x2 + (-1) - 1 ∧ x2 + (-1) - 1 < 130) ∧ (0 ≤ x2 + (-1) ∧ x2 + (-1) < 130)) ∧ (hh_Sp d hm_X12_both [hh_I (σ 129 (x1 + 1 + 2 * x3)), hh_I (σ 136 (x2 + (-1) - 1)), hh_I (σ 136 (x2 + (-1)))] σ (fun r143 σ143 => ((0 ≤ x2 + (-1) - 1 ∧ x2 + (-1) - 1 < 130)) ∧ (B_X12_worked_147 d Q k4 x1 (x2 + (-1)) x3 (hh_up σ143 136 (x2 + (-1) - 1) r143))))) ∧ (σ 129 (x1 + 1 + 2 * x3) = 3 → ((-2147483648 ≤ x2 - 1 ∧ x2 - 1 ≤ 2147483647) ∧ (0 ≤ x2 - 1 ∧ x2 - 1 < 130)) ∧ ((¬ σ 136 (x2 - 1) = 0 → B_X12_worked_113 d Q k4 x1 x2 x3 (x2 - 1) 0 σ) ∧ (σ 136 (x2 - 1) = 0 → B_X12_worked_113 d Q k4 x1 x2 x3 (x2 - 1) 1 σ)))) ∧ (σ 129 (x1 + 1 + 2 * x3) = 2 → B_X12_worked_54 d Q k4 x1 x2 x3 (σ 129 (x1 + 1 + 2 * x3)) (σ 129 (x1 + 2 + 2 * x3)) σ)))))
def P_X12_worked (d : Nat) (a1 : Int) (σ : hh_S) (Q : Int → hh_S → Prop) : Prop :=
  ∃ n, hh_lp3 (B_X12_worked_4 d Q) n a1 0 0 σ
set_option maxRecDepth 20000 in
theorem w_X12_worked_153 {d : Nat} {Q : Int → hh_S → Prop} (σ : hh_S) (h : B_X12_worked_153 d Q σ) : hh_J (d + 1) hm_X12_worked 153 [some (hh_R 128), none, none, none, none, none] [] σ Q := by
  unfold B_X12_worked_153 at h
  refine hh_aload_n dX12_worked_153 rfl ?_
  refine hh_getR dX12_worked_154 kf_X12_31 rf_128_21 ?_
  refine hh_iconst dX12_worked_157 (by decide) ?_
  refine hh_iald dX12_worked_158 ra_136 (by decide) rfl ?_
  exact hh_ireturn dX12_worked_159 rfl h
set_option maxRecDepth 20000 in
theorem w_X12_worked_147 {d : Nat} {Q : Int → hh_S → Prop} {k4 : Int → Int → Int → hh_S → Prop} (hk4 : ∀ (x1 x2 x3 : Int) (σ : hh_S), k4 x1 x2 x3 σ → hh_J (d + 1) hm_X12_worked 4 [some (hh_R 128), some (hh_I x1), some (hh_I x2), some (hh_I x3), none, none] [] σ Q) (x1 x2 x3 : Int) (σ : hh_S) (h : B_X12_worked_147 d Q k4 x1 x2 x3 σ) : hh_J (d + 1) hm_X12_worked 147 [some (hh_R 128), some (hh_I x1), some (hh_I x2), some (hh_I x3), none, none] [] σ Q := by
  unfold B_X12_worked_147 at h
  obtain ⟨q1, h⟩ := h
  refine hh_iinc dX12_worked_147 (by decide) rfl rfl q1 ?_
  refine hh_goto (tgt := 4) dX12_worked_150 (by decide) ?_
  exact hh_forget [true, true, true, true, false, false] (hk4 _ _ _ _ h)
set_option maxRecDepth 20000 in
theorem w_X12_worked_113 {d : Nat} {Q : Int → hh_S → Prop} {k4 : Int → Int → Int → hh_S → Prop} (hk4 : ∀ (x1 x2 x3 : Int) (σ : hh_S), k4 x1 x2 x3 σ → hh_J (d + 1) hm_X12_worked 4 [some (hh_R 128), some (hh_I x1), some (hh_I x2), some (hh_I x3), none, none] [] σ Q) (x1 x2 x3 s1 s2 : Int) (σ : hh_S) (h : B_X12_worked_113 d Q k4 x1 x2 x3 s1 s2 σ) : hh_J (d + 1) hm_X12_worked 113 [some (hh_R 128), some (hh_I x1), some (hh_I x2), some (hh_I x3), none, none] [hh_I s2, hh_I s1, hh_R 136] σ Q := by
  unfold B_X12_worked_113 at h
  obtain ⟨q1, h⟩ := h
  refine hh_iast dX12_worked_113 ra_136 q1 ?_
  refine hh_goto (tgt := 147) dX12_worked_114 (by decide) ?_
  exact hh_forget [true, true, true, true, false, false] (w_X12_worked_147 hk4 _ _ _ _ h)
set_option maxRecDepth 20000 in
theorem w_X12_worked_77 {d : Nat} {Q : Int → hh_S → Prop} {k4 : Int → Int → Int → hh_S → Prop} (hk4 : ∀ (x1 x2 x3 : Int) (σ : hh_S), k4 x1 x2 x3 σ → hh_J (d + 1) hm_X12_worked 4 [some (hh_R 128), some (hh_I x1), some (hh_I x2), some (hh_I x3), none, none] [] σ Q) (x1 x2 x3 s1 s2 : Int) (σ : hh_S) (h : B_X12_worked_77 d Q k4 x1 x2 x3 s1 s2 σ) : hh_J (d + 1) hm_X12_worked 77 [some (hh_R 128), some (hh_I x1), some (hh_I x2), some (hh_I x3), none, none] [hh_I s2, hh_I s1, hh_R 136] σ Q := by
  unfold B_X12_worked_77 at h
  obtain ⟨⟨q1, q2⟩, h⟩ := h
  refine hh_iast dX12_worked_77 ra_136 q1 ?_
  refine hh_iinc dX12_worked_78 (by decide) rfl rfl q2 ?_
  refine hh_goto (tgt := 147) dX12_worked_81 (by decide) ?_
  exact hh_forget [true, true, true, true, false, false] (w_X12_worked_147 hk4 _ _ _ _ h)
set_option maxRecDepth 20000 in
theorem w_X12_worked_54 {d : Nat} {Q : Int → hh_S → Prop} {k4 : Int → Int → Int → hh_S → Prop} (hk4 : ∀ (x1 x2 x3 : Int) (σ : hh_S), k4 x1 x2 x3 σ → hh_J (d + 1) hm_X12_worked 4 [some (hh_R 128), some (hh_I x1), some (hh_I x2), some (hh_I x3), none, none] [] σ Q) (x1 x2 x3 x4 x5 : Int) (σ : hh_S) (h : B_X12_worked_54 d Q k4 x1 x2 x3 x4 x5 σ) : hh_J (d + 1) hm_X12_worked 54 [some (hh_R 128), some (hh_I x1), some (hh_I x2), some (hh_I x3), some (hh_I x4), some (hh_I x5)] [] σ Q := by
  unfold B_X12_worked_54 at h
  refine hh_aload_n dX12_worked_54 rfl ?_
  refine hh_getR dX12_worked_55 kf_X12_31 rf_128_21 ?_
  refine hh_iload_n dX12_worked_58 rfl ?_
  refine hh_iload dX12_worked_59 rfl ?_
  refine hh_iconst dX12_worked_61 (by decide) ?_
  refine hh_icmp_ne (tgt := 70) dX12_worked_62 (by decide) (fun c => ?_) (fun c => ?_)
  · replace h := h.1 c
    obtain ⟨q1, h⟩ := h
    refine hh_aload_n dX12_worked_70 rfl ?_
    refine hh_getR dX12_worked_71 kf_X12_34 rf_128_22 ?_
    refine hh_iload dX12_worked_74 rfl ?_
    refine hh_iald dX12_worked_76 ra_137 q1 rfl ?_
    exact hh_forget [true, true, true, true, false, false] (w_X12_worked_77 hk4 _ _ _ _ _ _ h)
  · replace h := h.2 c
    refine hh_iload dX12_worked_65 rfl ?_
    refine hh_goto (tgt := 77) dX12_worked_67 (by decide) ?_
    exact hh_forget [true, true, true, true, false, false] (w_X12_worked_77 hk4 _ _ _ _ _ _ h)
set_option maxRecDepth 20000 in
theorem w_X12_worked_4 {d : Nat} {Q : Int → hh_S → Prop} {k4 : Int → Int → Int → hh_S → Prop} (hk4 : ∀ (x1 x2 x3 : Int) (σ : hh_S), k4 x1 x2 x3 σ → hh_J (d + 1) hm_X12_worked 4 [some (hh_R 128), some (hh_I x1), some (hh_I x2), some (hh_I x3), none, none] [] σ Q) (x1 x2 x3 : Int) (σ : hh_S) (h : B_X12_worked_4 d Q k4 x1 x2 x3 σ) : hh_J (d + 1) hm_X12_worked 4 [some (hh_R 128), some (hh_I x1), some (hh_I x2), some (hh_I x3), none, none] [] σ Q := by
  unfold B_X12_worked_4 at h
  obtain ⟨q1, h⟩ := h
  refine hh_iload_n dX12_worked_4 rfl ?_
  refine hh_aload_n dX12_worked_5 rfl ?_
  refine hh_getR dX12_worked_6 kf_X12_7 rf_128_0 ?_
  refine hh_iload_n dX12_worked_9 rfl ?_
  refine hh_iald dX12_worked_10 ra_129 q1 rfl ?_
  refine hh_icmp_ge (tgt := 153) dX12_worked_11 (by decide) (fun c => ?_) (fun c => ?_)
  · replace h := h.1 c
    exact hh_forget [true, false, false, false, false, false] (w_X12_worked_153 _ h)
  · replace h := h.2 c
    obtain ⟨⟨q1, q2, q3, q4, q5, q6, q7⟩, h⟩ := h
    refine hh_aload_n dX12_worked_14 rfl ?_
    refine hh_getR dX12_worked_15 kf_X12_7 rf_128_0 ?_
    refine hh_iload_n dX12_worked_18 rfl ?_
    refine hh_iconst dX12_worked_19 (by decide) ?_
    refine hh_iadd dX12_worked_20 q1 ?_
    refine hh_iconst dX12_worked_21 (by decide) ?_
    refine hh_iload_n dX12_worked_22 rfl ?_
    refine hh_imul dX12_worked_23 q2 ?_
    refine hh_iadd dX12_worked_24 q3 ?_
    refine hh_iald dX12_worked_25 ra_129 q4 rfl ?_
    refine hh_istore dX12_worked_26 (by decide) rfl ?_
    refine hh_aload_n dX12_worked_28 rfl ?_
    refine hh_getR dX12_worked_29 kf_X12_7 rf_128_0 ?_
    refine hh_iload_n dX12_worked_32 rfl ?_
    refine hh_iconst dX12_worked_33 (by decide) ?_
    refine hh_iadd dX12_worked_34 q5 ?_
    refine hh_iconst dX12_worked_35 (by decide) ?_
    refine hh_iload_n dX12_worked_36 rfl ?_
    refine hh_imul dX12_worked_37 q2 ?_
    refine hh_iadd dX12_worked_38 q6 ?_
    refine hh_iald dX12_worked_39 ra_129 q7 rfl ?_
    refine hh_istore dX12_worked_40 (by decide) rfl ?_
    refine hh_iload dX12_worked_42 rfl ?_
    refine hh_iconst dX12_worked_44 (by decide) ?_
    refine hh_icmp_eq (tgt := 54) dX12_worked_45 (by decide) (fun c => ?_) (fun c => ?_)
    · replace h := h.1 c
      exact hh_forget [true, true, true, true, true, true] (w_X12_worked_54 hk4 _ _ _ _ _ _ h)
    · replace h := h.2 c
      refine hh_iload dX12_worked_48 rfl ?_
      refine hh_iconst dX12_worked_50 (by decide) ?_
      refine hh_icmp_ne (tgt := 84) dX12_worked_51 (by decide) (fun c => ?_) (fun c => ?_)
      · replace h := h.1 c
        refine hh_iload dX12_worked_84 rfl ?_
        refine hh_iconst dX12_worked_86 (by decide) ?_
        refine hh_icmp_ne (tgt := 117) dX12_worked_87 (by decide) (fun c => ?_) (fun c => ?_)
        · replace h := h.1 c
          obtain ⟨⟨q1, q2, q3, q4⟩, h⟩ := h
          refine hh_iinc dX12_worked_117 (by decide) rfl rfl q1 ?_
          refine hh_aload_n dX12_worked_120 rfl ?_
          refine hh_getR dX12_worked_121 kf_X12_31 rf_128_21 ?_
          refine hh_iload_n dX12_worked_124 rfl ?_
          refine hh_iconst dX12_worked_125 (by decide) ?_
          refine hh_isub dX12_worked_126 q2 ?_
          refine hh_iload dX12_worked_127 rfl ?_
          refine hh_aload_n dX12_worked_129 rfl ?_
          refine hh_getR dX12_worked_130 kf_X12_31 rf_128_21 ?_
          refine hh_iload_n dX12_worked_133 rfl ?_
          refine hh_iconst dX12_worked_134 (by decide) ?_
          refine hh_isub dX12_worked_135 q2 ?_
          refine hh_iald dX12_worked_136 ra_136 q3 rfl ?_
          refine hh_aload_n dX12_worked_137 rfl ?_
          refine hh_getR dX12_worked_138 kf_X12_31 rf_128_21 ?_
          refine hh_iload_n dX12_worked_141 rfl ?_
          refine hh_iald dX12_worked_142 ra_136 q4 rfl ?_
          refine hh_cS3 dX12_worked_143 lk_X12_205 mo_X12_both (Nat.le_of_ble_eq_true rfl) h (fun r143 σ143 h => ?_)
          obtain ⟨q1, h⟩ := h
          refine hh_iast dX12_worked_146 ra_136 q1 ?_
          exact hh_forget [true, true, true, true, false, false] (w_X12_worked_147 hk4 _ _ _ _ h)
        · replace h := h.2 c
          obtain ⟨⟨q1, q2⟩, h⟩ := h
          refine hh_aload_n dX12_worked_90 rfl ?_
          refine hh_getR dX12_worked_91 kf_X12_31 rf_128_21 ?_
          refine hh_iload_n dX12_worked_94 rfl ?_
          refine hh_iconst dX12_worked_95 (by decide) ?_
          refine hh_isub dX12_worked_96 q1 ?_
          refine hh_aload_n dX12_worked_97 rfl ?_
          refine hh_getR dX12_worked_98 kf_X12_31 rf_128_21 ?_
          refine hh_iload_n dX12_worked_101 rfl ?_
          refine hh_iconst dX12_worked_102 (by decide) ?_
          refine hh_isub dX12_worked_103 q1 ?_
          refine hh_iald dX12_worked_104 ra_136 q2 rfl ?_
          refine hh_if_ne (tgt := 112) dX12_worked_105 (by decide) (fun c => ?_) (fun c => ?_)
          · replace h := h.1 c
            refine hh_iconst dX12_worked_112 (by decide) ?_
            exact hh_forget [true, true, true, true, false, false] (w_X12_worked_113 hk4 _ _ _ _ _ _ h)
          · replace h := h.2 c
            refine hh_iconst dX12_worked_108 (by decide) ?_
            refine hh_goto (tgt := 113) dX12_worked_109 (by decide) ?_
            exact hh_forget [true, true, true, true, false, false] (w_X12_worked_113 hk4 _ _ _ _ _ _ h)
      · replace h := h.2 c
        exact hh_forget [true, true, true, true, true, true] (w_X12_worked_54 hk4 _ _ _ _ _ _ h)
theorem l_X12_worked_4 {d : Nat} {Q : Int → hh_S → Prop} : ∀ (n : Nat) (x1 x2 x3 : Int) (σ : hh_S), hh_lp3 (B_X12_worked_4 d Q) n x1 x2 x3 σ → hh_J (d + 1) hm_X12_worked 4 [some (hh_R 128), some (hh_I x1), some (hh_I x2), some (hh_I x3), none, none] [] σ Q := by
  intro n
  induction n with
  | zero => intro _ _ _ _ h; exact h.elim
  | succ n ih => intro x1 x2 x3 σ h; exact w_X12_worked_4 ih x1 x2 x3 σ h
set_option maxRecDepth 20000 in
theorem w_X12_worked {d : Nat} {a1 : Int} {σ : hh_S} {Q : Int → hh_S → Prop} (h : P_X12_worked d a1 σ Q) : hh_J (d + 1) hm_X12_worked 0 [some (hh_R 128), some (hh_I a1), none, none, none, none] [] σ Q := by
  unfold P_X12_worked at h
  refine hh_iconst dX12_worked_0 (by decide) ?_
  refine hh_istore_n dX12_worked_1 (by decide) rfl ?_
  refine hh_iconst dX12_worked_2 (by decide) ?_
  refine hh_istore_n dX12_worked_3 (by decide) rfl ?_
  obtain ⟨n, h⟩ := h
  exact hh_forget [true, true, true, true, false, false] (l_X12_worked_4 n _ _ _ _ h)
theorem wp_X12_worked {d : Nat} (a1 : Int) {σ : hh_S} {Q : Int → hh_S → Prop} (h : hh_cs σ → hh_can a1 → P_X12_worked d a1 σ Q) : hh_Sp (d + 1) hm_X12_worked [hh_R 128, hh_I a1] σ Q :=
  hh_entry rfl (Nat.le_of_ble_eq_true rfl) rfl (fun hs hc => w_X12_worked (h hs (hc _ (List.mem_of_getElem? (i := 1) rfl))))
def B_X12_gives_239 (d : Nat) (Q : Int → hh_S → Prop) (s0 s1 : Int) (σ : hh_S) : Prop :=
  hh_Sp d hm_X12_less [hh_I s0, hh_I s1] σ (fun r239 σ239 => Q r239 σ239)
def P_X12_gives (d : Nat) (a1 a2 a3 : Int) (σ : hh_S) (Q : Int → hh_S → Prop) : Prop :=
  ((-2147483648 ≤ 12 * a1 ∧ 12 * a1 ≤ 2147483647) ∧ (-2147483648 ≤ 250 + 12 * a1 ∧ 250 + 12 * a1 ≤ 2147483647)) ∧ (hh_Sp d hm_X12_termOf [hh_R 128, hh_I a1] σ (fun r12 σ12 => (¬ r12 = (-1) → ((-2147483648 ≤ 250 + 12 * a1 + 4 ∧ 250 + 12 * a1 + 4 ≤ 2147483647) ∧ (0 ≤ 250 + 12 * a1 + 4 ∧ 250 + 12 * a1 + 4 < 9100) ∧ (0 ≤ 250 + 12 * a1 ∧ 250 + 12 * a1 < 9100) ∧ (-2147483648 ≤ 3 * (σ12 129 (250 + 12 * a1)) ∧ 3 * (σ12 129 (250 + 12 * a1)) ≤ 2147483647) ∧ (-2147483648 ≤ 20 + (3 * (σ12 129 (250 + 12 * a1))) ∧ 20 + (3 * (σ12 129 (250 + 12 * a1))) ≤ 2147483647) ∧ (-2147483648 ≤ 20 + (3 * (σ12 129 (250 + 12 * a1))) + 1 ∧ 20 + (3 * (σ12 129 (250 + 12 * a1))) + 1 ≤ 2147483647) ∧ (0 ≤ 20 + (3 * (σ12 129 (250 + 12 * a1))) + 1 ∧ 20 + (3 * (σ12 129 (250 + 12 * a1))) + 1 < 9100) ∧ (0 ≤ 20 + (3 * (σ12 129 (250 + 12 * a1))) ∧ 20 + (3 * (σ12 129 (250 + 12 * a1))) < 9100) ∧ (-2147483648 ≤ 250 + 12 * a1 + 5 ∧ 250 + 12 * a1 + 5 ≤ 2147483647) ∧ (0 ≤ 250 + 12 * a1 + 5 ∧ 250 + 12 * a1 + 5 < 9100) ∧ (-2147483648 ≤ 250 + 12 * a1 + 1 ∧ 250 + 12 * a1 + 1 ≤ 2147483647) ∧ (0 ≤ 250 + 12 * a1 + 1 ∧ 250 + 12 * a1 + 1 < 9100) ∧ (-2147483648 ≤ 20 * (σ12 129 (250 + 12 * a1 + 1)) ∧ 20 * (σ12 129 (250 + 12 * a1 + 1)) ≤ 2147483647) ∧ (-2147483648 ≤ 50 + (20 * (σ12 129 (250 + 12 * a1 + 1))) ∧ 50 + (20 * (σ12 129 (250 + 12 * a1 + 1))) ≤ 2147483647) ∧ (0 ≤ 50 + (20 * (σ12 129 (250 + 12 * a1 + 1))) ∧ 50 + (20 * (σ12 129 (250 + 12 * a1 + 1))) < 9100) ∧ (-2147483648 ≤ 250 + 12 * a1 + 2 ∧ 250 + 12 * a1 + 2 ≤ 2147483647) ∧ (0 ≤ 250 + 12 * a1 + 2 ∧ 250 + 12 * a1 + 2 < 9100) ∧ 0 ≤ σ12 129 (250 + 12 * a1 + 2)) ∧ (hh_Sp d hm_X12_beside [hh_R 128, hh_I a1, hh_I a2] (hh_up (hh_up (hh_up (hh_up (hh_up (hh_up σ12 137 110 (σ12 129 (250 + 12 * a1 + 4))) 137 114 (σ12 129 (20 + (3 * (σ12 129 (250 + 12 * a1))) + 1))) 137 107 (σ12 129 (20 + (3 * (σ12 129 (250 + 12 * a1)))))) 137 99 (σ12 129 (250 + 12 * a1 + 5))) 137 103 (σ12 129 (50 + (20 * (σ12 129 (250 + 12 * a1 + 1)))))) 137 119 ((σ12 129 (250 + 12 * a1 + 2)) % 7)) (fun r196 σ196 => ((-2147483648 ≤ 484 * r12 ∧ 484 * r12 ≤ 2147483647) ∧ (-2147483648 ≤ 1840 + 484 * r12 ∧ 1840 + 484 * r12 ≤ 2147483647) ∧ (-2147483648 ≤ 1840 + 484 * r12 + 2 ∧ 1840 + 484 * r12 + 2 ≤ 2147483647) ∧ (-2147483648 ≤ 241 * a3 ∧ 241 * a3 ≤ 2147483647) ∧ (-2147483648 ≤ 1840 + 484 * r12 + 2 + 241 * a3 ∧ 1840 + 484 * r12 + 2 + 241 * a3 ≤ 2147483647)) ∧ (hh_Sp d hm_X12_worked [hh_R 128, hh_I (1840 + 484 * r12 + 2 + 241 * a3)] (hh_up σ196 137 109 r196) (fun r219 σ219 => hh_Sp d hm_X12_more [hh_I r219, hh_I 0] σ219 (fun r223 σ223 => (¬ a3 = 0 → B_X12_gives_239 d Q r223 9999 σ223) ∧ (a3 = 0 → B_X12_gives_239 d Q r223 240 σ223))))))) ∧ (r12 = (-1) → (¬ a3 = 0 → ((0 ≤ 250 + 12 * a1 ∧ 250 + 12 * a1 < 9100) ∧ (-2147483648 ≤ 3 * (σ12 129 (250 + 12 * a1)) ∧ 3 * (σ12 129 (250 + 12 * a1)) ≤ 2147483647) ∧ (-2147483648 ≤ 20 + (3 * (σ12 129 (250 + 12 * a1))) ∧ 20 + (3 * (σ12 129 (250 + 12 * a1))) ≤ 2147483647) ∧ (-2147483648 ≤ 20 + (3 * (σ12 129 (250 + 12 * a1))) + 1 ∧ 20 + (3 * (σ12 129 (250 + 12 * a1))) + 1 ≤ 2147483647) ∧ (0 ≤ 20 + (3 * (σ12 129 (250 + 12 * a1))) + 1 ∧ 20 + (3 * (σ12 129 (250 + 12 * a1))) + 1 < 9100)) ∧ (Q (σ12 129 (20 + (3 * (σ12 129 (250 + 12 * a1))) + 1)) σ12)) ∧ (a3 = 0 → ((-2147483648 ≤ 250 + 12 * a1 + 4 ∧ 250 + 12 * a1 + 4 ≤ 2147483647) ∧ (0 ≤ 250 + 12 * a1 + 4 ∧ 250 + 12 * a1 + 4 < 9100)) ∧ (Q (σ12 129 (250 + 12 * a1 + 4)) σ12)))))
set_option maxRecDepth 20000 in
theorem w_X12_gives_239 {d : Nat} {Q : Int → hh_S → Prop} (s0 s1 : Int) (σ : hh_S) (h : B_X12_gives_239 d Q s0 s1 σ) : hh_J (d + 1) hm_X12_gives 239 [none, none, none, none, none, none] [hh_I s1, hh_I s0] σ Q := by
  unfold B_X12_gives_239 at h
  refine hh_cS2 dX12_gives_239 lk_X12_218 mo_X12_less (Nat.le_of_ble_eq_true rfl) h (fun r239 σ239 h => ?_)
  exact hh_ireturn dX12_gives_242 rfl h
set_option maxRecDepth 20000 in
theorem w_X12_gives {d : Nat} {a1 a2 a3 : Int} {σ : hh_S} {Q : Int → hh_S → Prop} (h : P_X12_gives d a1 a2 a3 σ Q) : hh_J (d + 1) hm_X12_gives 0 [some (hh_R 128), some (hh_I a1), some (hh_I a2), some (hh_I a3), none, none] [] σ Q := by
  unfold P_X12_gives at h
  obtain ⟨⟨q1, q2⟩, h⟩ := h
  refine hh_sipush dX12_gives_0 (by decide) ?_
  refine hh_bipush dX12_gives_3 (by decide) ?_
  refine hh_iload_n dX12_gives_5 rfl ?_
  refine hh_imul dX12_gives_6 q1 ?_
  refine hh_iadd dX12_gives_7 q2 ?_
  refine hh_istore dX12_gives_8 (by decide) rfl ?_
  refine hh_aload_n dX12_gives_10 rfl ?_
  refine hh_iload_n dX12_gives_11 rfl ?_
  refine hh_cV1 dX12_gives_12 lk_X12_209 mo_X12_termOf rc_128 (Nat.le_of_ble_eq_true rfl) h (fun r12 σ12 h => ?_)
  refine hh_istore dX12_gives_15 (by decide) rfl ?_
  refine hh_iload dX12_gives_17 rfl ?_
  refine hh_iconst dX12_gives_19 (by decide) ?_
  refine hh_icmp_ne (tgt := 59) dX12_gives_20 (by decide) (fun c => ?_) (fun c => ?_)
  · replace h := h.1 c
    obtain ⟨⟨q1, q2, q3, q4, q5, q6, q7, q8, q9, q10, q11, q12, q13, q14, q15, q16, q17, q18⟩, h⟩ := h
    refine hh_aload_n dX12_gives_59 rfl ?_
    refine hh_getR dX12_gives_60 kf_X12_34 rf_128_22 ?_
    refine hh_bipush dX12_gives_63 (by decide) ?_
    refine hh_aload_n dX12_gives_65 rfl ?_
    refine hh_getR dX12_gives_66 kf_X12_7 rf_128_0 ?_
    refine hh_iload dX12_gives_69 rfl ?_
    refine hh_iconst dX12_gives_71 (by decide) ?_
    refine hh_iadd dX12_gives_72 q1 ?_
    refine hh_iald dX12_gives_73 ra_129 q2 rfl ?_
    refine hh_iast dX12_gives_74 ra_137 (by decide) ?_
    refine hh_aload_n dX12_gives_75 rfl ?_
    refine hh_getR dX12_gives_76 kf_X12_34 rf_128_22 ?_
    refine hh_bipush dX12_gives_79 (by decide) ?_
    refine hh_aload_n dX12_gives_81 rfl ?_
    refine hh_getR dX12_gives_82 kf_X12_7 rf_128_0 ?_
    refine hh_bipush dX12_gives_85 (by decide) ?_
    refine hh_iconst dX12_gives_87 (by decide) ?_
    refine hh_aload_n dX12_gives_88 rfl ?_
    refine hh_getR dX12_gives_89 kf_X12_7 rf_128_0 ?_
    refine hh_iload dX12_gives_92 rfl ?_
    refine hh_iald dX12_gives_94 ra_129 q3 rfl ?_
    refine hh_imul dX12_gives_95 q4 ?_
    refine hh_iadd dX12_gives_96 q5 ?_
    refine hh_iconst dX12_gives_97 (by decide) ?_
    refine hh_iadd dX12_gives_98 q6 ?_
    refine hh_iald dX12_gives_99 ra_129 q7 rfl ?_
    refine hh_iast dX12_gives_100 ra_137 (by decide) ?_
    refine hh_aload_n dX12_gives_101 rfl ?_
    refine hh_getR dX12_gives_102 kf_X12_34 rf_128_22 ?_
    refine hh_bipush dX12_gives_105 (by decide) ?_
    refine hh_aload_n dX12_gives_107 rfl ?_
    refine hh_getR dX12_gives_108 kf_X12_7 rf_128_0 ?_
    refine hh_bipush dX12_gives_111 (by decide) ?_
    refine hh_iconst dX12_gives_113 (by decide) ?_
    refine hh_aload_n dX12_gives_114 rfl ?_
    refine hh_getR dX12_gives_115 kf_X12_7 rf_128_0 ?_
    refine hh_iload dX12_gives_118 rfl ?_
    refine hh_iald dX12_gives_120 ra_129 q3 rfl ?_
    refine hh_imul dX12_gives_121 q4 ?_
    refine hh_iadd dX12_gives_122 q5 ?_
    refine hh_iald dX12_gives_123 ra_129 q8 rfl ?_
    refine hh_iast dX12_gives_124 ra_137 (by decide) ?_
    refine hh_aload_n dX12_gives_125 rfl ?_
    refine hh_getR dX12_gives_126 kf_X12_34 rf_128_22 ?_
    refine hh_bipush dX12_gives_129 (by decide) ?_
    refine hh_aload_n dX12_gives_131 rfl ?_
    refine hh_getR dX12_gives_132 kf_X12_7 rf_128_0 ?_
    refine hh_iload dX12_gives_135 rfl ?_
    refine hh_iconst dX12_gives_137 (by decide) ?_
    refine hh_iadd dX12_gives_138 q9 ?_
    refine hh_iald dX12_gives_139 ra_129 q10 rfl ?_
    refine hh_iast dX12_gives_140 ra_137 (by decide) ?_
    refine hh_aload_n dX12_gives_141 rfl ?_
    refine hh_getR dX12_gives_142 kf_X12_34 rf_128_22 ?_
    refine hh_bipush dX12_gives_145 (by decide) ?_
    refine hh_aload_n dX12_gives_147 rfl ?_
    refine hh_getR dX12_gives_148 kf_X12_7 rf_128_0 ?_
    refine hh_bipush dX12_gives_151 (by decide) ?_
    refine hh_bipush dX12_gives_153 (by decide) ?_
    refine hh_aload_n dX12_gives_155 rfl ?_
    refine hh_getR dX12_gives_156 kf_X12_7 rf_128_0 ?_
    refine hh_iload dX12_gives_159 rfl ?_
    refine hh_iconst dX12_gives_161 (by decide) ?_
    refine hh_iadd dX12_gives_162 q11 ?_
    refine hh_iald dX12_gives_163 ra_129 q12 rfl ?_
    refine hh_imul dX12_gives_164 q13 ?_
    refine hh_iadd dX12_gives_165 q14 ?_
    refine hh_iald dX12_gives_166 ra_129 q15 rfl ?_
    refine hh_iast dX12_gives_167 ra_137 (by decide) ?_
    refine hh_aload_n dX12_gives_168 rfl ?_
    refine hh_getR dX12_gives_169 kf_X12_34 rf_128_22 ?_
    refine hh_bipush dX12_gives_172 (by decide) ?_
    refine hh_aload_n dX12_gives_174 rfl ?_
    refine hh_getR dX12_gives_175 kf_X12_7 rf_128_0 ?_
    refine hh_iload dX12_gives_178 rfl ?_
    refine hh_iconst dX12_gives_180 (by decide) ?_
    refine hh_iadd dX12_gives_181 q16 ?_
    refine hh_iald dX12_gives_182 ra_129 q17 rfl ?_
    refine hh_bipush dX12_gives_183 (by decide) ?_
    refine hh_irem dX12_gives_185 q18 (by decide) ?_
    refine hh_iast dX12_gives_186 ra_137 (by decide) ?_
    refine hh_aload_n dX12_gives_187 rfl ?_
    refine hh_getR dX12_gives_188 kf_X12_34 rf_128_22 ?_
    refine hh_bipush dX12_gives_191 (by decide) ?_
    refine hh_aload_n dX12_gives_193 rfl ?_
    refine hh_iload_n dX12_gives_194 rfl ?_
    refine hh_iload_n dX12_gives_195 rfl ?_
    refine hh_cV2 dX12_gives_196 lk_X12_212 mo_X12_beside rc_128 (Nat.le_of_ble_eq_true rfl) h (fun r196 σ196 h => ?_)
    obtain ⟨⟨q1, q2, q3, q4, q5⟩, h⟩ := h
    refine hh_iast dX12_gives_199 ra_137 (by decide) ?_
    refine hh_aload_n dX12_gives_200 rfl ?_
    refine hh_sipush dX12_gives_201 (by decide) ?_
    refine hh_sipush dX12_gives_204 (by decide) ?_
    refine hh_iload dX12_gives_207 rfl ?_
    refine hh_imul dX12_gives_209 q1 ?_
    refine hh_iadd dX12_gives_210 q2 ?_
    refine hh_iconst dX12_gives_211 (by decide) ?_
    refine hh_iadd dX12_gives_212 q3 ?_
    refine hh_sipush dX12_gives_213 (by decide) ?_
    refine hh_iload_n dX12_gives_216 rfl ?_
    refine hh_imul dX12_gives_217 q4 ?_
    refine hh_iadd dX12_gives_218 q5 ?_
    refine hh_cV1 dX12_gives_219 lk_X12_215 mo_X12_worked rc_128 (Nat.le_of_ble_eq_true rfl) h (fun r219 σ219 h => ?_)
    refine hh_iconst dX12_gives_222 (by decide) ?_
    refine hh_cS2 dX12_gives_223 lk_X12_105 mo_X12_more (Nat.le_of_ble_eq_true rfl) h (fun r223 σ223 h => ?_)
    refine hh_iload_n dX12_gives_226 rfl ?_
    refine hh_if_ne (tgt := 236) dX12_gives_227 (by decide) (fun c => ?_) (fun c => ?_)
    · replace h := h.1 c
      refine hh_sipush dX12_gives_236 (by decide) ?_
      exact hh_forget [false, false, false, false, false, false] (w_X12_gives_239 _ _ _ h)
    · replace h := h.2 c
      refine hh_sipush dX12_gives_230 (by decide) ?_
      refine hh_goto (tgt := 239) dX12_gives_233 (by decide) ?_
      exact hh_forget [false, false, false, false, false, false] (w_X12_gives_239 _ _ _ h)
  · replace h := h.2 c
    refine hh_iload_n dX12_gives_23 rfl ?_
    refine hh_if_ne (tgt := 39) dX12_gives_24 (by decide) (fun c => ?_) (fun c => ?_)
    · replace h := h.1 c
      obtain ⟨⟨q1, q2, q3, q4, q5⟩, h⟩ := h
      refine hh_aload_n dX12_gives_39 rfl ?_
      refine hh_getR dX12_gives_40 kf_X12_7 rf_128_0 ?_
      refine hh_bipush dX12_gives_43 (by decide) ?_
      refine hh_iconst dX12_gives_45 (by decide) ?_
      refine hh_aload_n dX12_gives_46 rfl ?_
      refine hh_getR dX12_gives_47 kf_X12_7 rf_128_0 ?_
      refine hh_iload dX12_gives_50 rfl ?_
      refine hh_iald dX12_gives_52 ra_129 q1 rfl ?_
      refine hh_imul dX12_gives_53 q2 ?_
      refine hh_iadd dX12_gives_54 q3 ?_
      refine hh_iconst dX12_gives_55 (by decide) ?_
      refine hh_iadd dX12_gives_56 q4 ?_
      refine hh_iald dX12_gives_57 ra_129 q5 rfl ?_
      exact hh_ireturn dX12_gives_58 rfl h
    · replace h := h.2 c
      obtain ⟨⟨q1, q2⟩, h⟩ := h
      refine hh_aload_n dX12_gives_27 rfl ?_
      refine hh_getR dX12_gives_28 kf_X12_7 rf_128_0 ?_
      refine hh_iload dX12_gives_31 rfl ?_
      refine hh_iconst dX12_gives_33 (by decide) ?_
      refine hh_iadd dX12_gives_34 q1 ?_
      refine hh_iald dX12_gives_35 ra_129 q2 rfl ?_
      refine hh_goto (tgt := 58) dX12_gives_36 (by decide) ?_
      exact hh_ireturn dX12_gives_58 rfl h
theorem wp_X12_gives {d : Nat} (a1 a2 a3 : Int) {σ : hh_S} {Q : Int → hh_S → Prop} (h : hh_cs σ → hh_can a1 → hh_can a2 → hh_can a3 → P_X12_gives d a1 a2 a3 σ Q) : hh_Sp (d + 1) hm_X12_gives [hh_R 128, hh_I a1, hh_I a2, hh_I a3] σ Q :=
  hh_entry rfl (Nat.le_of_ble_eq_true rfl) rfl (fun hs hc => w_X12_gives (h hs (hc _ (List.mem_of_getElem? (i := 1) rfl)) (hc _ (List.mem_of_getElem? (i := 2) rfl)) (hc _ (List.mem_of_getElem? (i := 3) rfl))))
def P_X12_worthOf (d : Nat) (a1 a2 : Int) (σ : hh_S) (Q : Int → hh_S → Prop) : Prop :=
  hh_Sp d hm_X12_gives [hh_R 128, hh_I a1, hh_I a2, hh_I 0] σ (fun r4 σ4 => hh_Sp d hm_X12_gives [hh_R 128, hh_I a1, hh_I a2, hh_I 1] σ4 (fun r11 σ11 => ((-2147483648 ≤ r4 * r11 ∧ r4 * r11 ≤ 2147483647) ∧ 0 ≤ r4 * r11) ∧ (Q ((r4 * r11) / 10) σ11)))
set_option maxRecDepth 20000 in
theorem w_X12_worthOf {d : Nat} {a1 a2 : Int} {σ : hh_S} {Q : Int → hh_S → Prop} (h : P_X12_worthOf d a1 a2 σ Q) : hh_J (d + 1) hm_X12_worthOf 0 [some (hh_R 128), some (hh_I a1), some (hh_I a2)] [] σ Q := by
  unfold P_X12_worthOf at h
  refine hh_aload_n dX12_worthOf_0 rfl ?_
  refine hh_iload_n dX12_worthOf_1 rfl ?_
  refine hh_iload_n dX12_worthOf_2 rfl ?_
  refine hh_iconst dX12_worthOf_3 (by decide) ?_
  refine hh_cV3 dX12_worthOf_4 lk_X12_221 mo_X12_gives rc_128 (Nat.le_of_ble_eq_true rfl) h (fun r4 σ4 h => ?_)
  refine hh_aload_n dX12_worthOf_7 rfl ?_
  refine hh_iload_n dX12_worthOf_8 rfl ?_
  refine hh_iload_n dX12_worthOf_9 rfl ?_
  refine hh_iconst dX12_worthOf_10 (by decide) ?_
  refine hh_cV3 dX12_worthOf_11 lk_X12_221 mo_X12_gives rc_128 (Nat.le_of_ble_eq_true rfl) h (fun r11 σ11 h => ?_)
  obtain ⟨⟨q1, q2⟩, h⟩ := h
  refine hh_imul dX12_worthOf_14 q1 ?_
  refine hh_bipush dX12_worthOf_15 (by decide) ?_
  refine hh_idiv dX12_worthOf_17 q2 (by decide) ?_
  exact hh_ireturn dX12_worthOf_18 rfl h
theorem wp_X12_worthOf {d : Nat} (a1 a2 : Int) {σ : hh_S} {Q : Int → hh_S → Prop} (h : hh_cs σ → hh_can a1 → hh_can a2 → P_X12_worthOf d a1 a2 σ Q) : hh_Sp (d + 1) hm_X12_worthOf [hh_R 128, hh_I a1, hh_I a2] σ Q :=
  hh_entry rfl (Nat.le_of_ble_eq_true rfl) rfl (fun hs hc => w_X12_worthOf (h hs (hc _ (List.mem_of_getElem? (i := 1) rfl)) (hc _ (List.mem_of_getElem? (i := 2) rfl))))
def B_X12_chargedOf_285 (d : Nat) (Q : Int → hh_S → Prop) (x6 x7 : Int) (σ : hh_S) : Prop :=
  hh_Sp d hm_X12_more [hh_I x7, hh_I 0] σ (fun r290 σ290 => hh_Sp d hm_X12_less [hh_I x6, hh_I r290] σ290 (fun r293 σ293 => Q r293 σ293))
def B_X12_chargedOf_276 (d : Nat) (Q : Int → hh_S → Prop) (k90 : Int → Int → Int → Int → Int → Int → Int → hh_S → Prop) (x1 x2 x3 x5 x6 x8 s0 s1 : Int) (σ : hh_S) : Prop :=
  ((-2147483648 ≤ s0 - s1 ∧ s0 - s1 ≤ 2147483647) ∧ (-2147483648 ≤ x8 + 1 ∧ x8 + 1 ≤ 2147483647)) ∧ (k90 x1 x2 x3 x5 x6 (s0 - s1) (x8 + 1) σ)
def B_X12_chargedOf_275 (d : Nat) (Q : Int → hh_S → Prop) (k90 : Int → Int → Int → Int → Int → Int → Int → hh_S → Prop) (x1 x2 x3 x5 x6 x8 s0 : Int) (σ : hh_S) : Prop :=
  B_X12_chargedOf_276 d Q k90 x1 x2 x3 x5 x6 x8 s0 0 σ
def B_X12_chargedOf_251 (d : Nat) (Q : Int → hh_S → Prop) (k90 : Int → Int → Int → Int → Int → Int → Int → hh_S → Prop) (x1 x2 x3 x5 x6 x7 x8 x10 s0 : Int) (σ : hh_S) : Prop :=
  (x10 = 0 → B_X12_chargedOf_275 d Q k90 x1 x2 x3 x5 x6 x8 x7 σ) ∧ (¬ x10 = 0 → (s0 = 0 → B_X12_chargedOf_275 d Q k90 x1 x2 x3 x5 x6 x8 x7 σ) ∧ (¬ s0 = 0 → hh_Sp d hm_X12_worthOf [hh_R 128, hh_I x8, hh_I x2] σ (fun r269 σ269 => B_X12_chargedOf_276 d Q k90 x1 x2 x3 x5 x6 x8 x7 r269 σ269)))
def B_X12_chargedOf_250 (d : Nat) (Q : Int → hh_S → Prop) (k90 : Int → Int → Int → Int → Int → Int → Int → hh_S → Prop) (x1 x2 x3 x5 x6 x7 x8 x10 : Int) (σ : hh_S) : Prop :=
  B_X12_chargedOf_251 d Q k90 x1 x2 x3 x5 x6 x7 x8 x10 0 σ
def B_X12_chargedOf_246 (d : Nat) (Q : Int → hh_S → Prop) (k90 : Int → Int → Int → Int → Int → Int → Int → hh_S → Prop) (x1 x2 x3 x5 x6 x7 x8 x10 : Int) (σ : hh_S) : Prop :=
  B_X12_chargedOf_251 d Q k90 x1 x2 x3 x5 x6 x7 x8 x10 1 σ
def B_X12_chargedOf_169 (d : Nat) (Q : Int → hh_S → Prop) (k90 : Int → Int → Int → Int → Int → Int → Int → hh_S → Prop) (x1 x2 x3 x5 x6 x7 x8 x9 s0 : Int) (σ : hh_S) : Prop :=
  ((-2147483648 ≤ x9 + 1 ∧ x9 + 1 ≤ 2147483647) ∧ (0 ≤ x9 + 1 ∧ x9 + 1 < 9100) ∧ (-2147483648 ≤ x3 + 1 ∧ x3 + 1 ≤ 2147483647) ∧ (0 ≤ x3 + 1 ∧ x3 + 1 < 9100)) ∧ ((¬ σ 129 (x9 + 1) = σ 129 (x3 + 1) → B_X12_chargedOf_250 d Q k90 x1 x2 x3 x5 x6 x7 x8 s0 σ) ∧ (σ 129 (x9 + 1) = σ 129 (x3 + 1) → ((-2147483648 ≤ x9 + 2 ∧ x9 + 2 ≤ 2147483647) ∧ (0 ≤ x9 + 2 ∧ x9 + 2 < 9100) ∧ 0 ≤ σ 129 (x9 + 2) ∧ (-2147483648 ≤ x3 + 2 ∧ x3 + 2 ≤ 2147483647) ∧ (0 ≤ x3 + 2 ∧ x3 + 2 < 9100) ∧ 0 ≤ σ 129 (x3 + 2)) ∧ ((¬ (σ 129 (x9 + 2)) / 30 = (σ 129 (x3 + 2)) / 30 → B_X12_chargedOf_250 d Q k90 x1 x2 x3 x5 x6 x7 x8 s0 σ) ∧ ((σ 129 (x9 + 2)) / 30 = (σ 129 (x3 + 2)) / 30 → hh_Sp d hm_X12_isKnown [hh_R 128, hh_I x8, hh_I x2] σ (fun r221 σ221 => (r221 = 0 → B_X12_chargedOf_250 d Q k90 x1 x2 x3 x5 x6 x7 x8 s0 σ221) ∧ (¬ r221 = 0 → (x5 = 2 → B_X12_chargedOf_246 d Q k90 x1 x2 x3 x5 x6 x7 x8 s0 σ221) ∧ (¬ x5 = 2 → ((-2147483648 ≤ x9 + 5 ∧ x9 + 5 ≤ 2147483647) ∧ (0 ≤ x9 + 5 ∧ x9 + 5 < 9100)) ∧ ((σ221 129 (x9 + 5) = 5 → B_X12_chargedOf_250 d Q k90 x1 x2 x3 x5 x6 x7 x8 s0 σ221) ∧ (¬ σ221 129 (x9 + 5) = 5 → B_X12_chargedOf_246 d Q k90 x1 x2 x3 x5 x6 x7 x8 s0 σ221)))))))))
def B_X12_chargedOf_168 (d : Nat) (Q : Int → hh_S → Prop) (k90 : Int → Int → Int → Int → Int → Int → Int → hh_S → Prop) (x1 x2 x3 x5 x6 x7 x8 x9 : Int) (σ : hh_S) : Prop :=
  B_X12_chargedOf_169 d Q k90 x1 x2 x3 x5 x6 x7 x8 x9 0 σ
def B_X12_chargedOf_164 (d : Nat) (Q : Int → hh_S → Prop) (k90 : Int → Int → Int → Int → Int → Int → Int → hh_S → Prop) (x1 x2 x3 x5 x6 x7 x8 x9 : Int) (σ : hh_S) : Prop :=
  B_X12_chargedOf_169 d Q k90 x1 x2 x3 x5 x6 x7 x8 x9 1 σ
def B_X12_chargedOf_90 (d : Nat) (Q : Int → hh_S → Prop) (k90 : Int → Int → Int → Int → Int → Int → Int → hh_S → Prop) (x1 x2 x3 x5 x6 x7 x8 : Int) (σ : hh_S) : Prop :=
  (σ 129 7 ≤ x8 → B_X12_chargedOf_285 d Q x6 x7 σ) ∧ (¬ σ 129 7 ≤ x8 → (x7 ≤ 0 → B_X12_chargedOf_285 d Q x6 x7 σ) ∧ (¬ x7 ≤ 0 → ((-2147483648 ≤ 12 * x8 ∧ 12 * x8 ≤ 2147483647) ∧ (-2147483648 ≤ 250 + 12 * x8 ∧ 250 + 12 * x8 ≤ 2147483647) ∧ (-2147483648 ≤ 250 + 12 * x8 + 2 ∧ 250 + 12 * x8 + 2 ≤ 2147483647) ∧ (0 ≤ 250 + 12 * x8 + 2 ∧ 250 + 12 * x8 + 2 < 9100) ∧ (-2147483648 ≤ x3 + 2 ∧ x3 + 2 ≤ 2147483647) ∧ (0 ≤ x3 + 2 ∧ x3 + 2 < 9100)) ∧ ((σ 129 (250 + 12 * x8 + 2) < σ 129 (x3 + 2) → B_X12_chargedOf_164 d Q k90 x1 x2 x3 x5 x6 x7 x8 (250 + 12 * x8) σ) ∧ (¬ σ 129 (250 + 12 * x8 + 2) < σ 129 (x3 + 2) → ((-2147483648 ≤ 250 + 12 * x8 + 2 ∧ 250 + 12 * x8 + 2 ≤ 2147483647) ∧ (0 ≤ 250 + 12 * x8 + 2 ∧ 250 + 12 * x8 + 2 < 9100) ∧ (-2147483648 ≤ x3 + 2 ∧ x3 + 2 ≤ 2147483647) ∧ (0 ≤ x3 + 2 ∧ x3 + 2 < 9100)) ∧ ((¬ σ 129 (250 + 12 * x8 + 2) = σ 129 (x3 + 2) → B_X12_chargedOf_168 d Q k90 x1 x2 x3 x5 x6 x7 x8 (250 + 12 * x8) σ) ∧ (σ 129 (250 + 12 * x8 + 2) = σ 129 (x3 + 2) → (x1 ≤ x8 → B_X12_chargedOf_168 d Q k90 x1 x2 x3 x5 x6 x7 x8 (250 + 12 * x8) σ) ∧ (¬ x1 ≤ x8 → B_X12_chargedOf_164 d Q k90 x1 x2 x3 x5 x6 x7 x8 (250 + 12 * x8) σ)))))))
def B_X12_chargedOf_76 (d : Nat) (Q : Int → hh_S → Prop) (x1 x2 x3 x4 x5 x6 : Int) (σ : hh_S) : Prop :=
  ((-2147483648 ≤ x4 + 2 ∧ x4 + 2 ≤ 2147483647) ∧ (0 ≤ x4 + 2 ∧ x4 + 2 < 9100)) ∧ (∃ n, hh_lp7 (B_X12_chargedOf_90 d Q) n x1 x2 x3 x5 x6 (σ 129 (x4 + 2)) 0 σ)
def P_X12_chargedOf (d : Nat) (a1 a2 : Int) (σ : hh_S) (Q : Int → hh_S → Prop) : Prop :=
  ((-2147483648 ≤ 12 * a1 ∧ 12 * a1 ≤ 2147483647) ∧ (-2147483648 ≤ 250 + 12 * a1 ∧ 250 + 12 * a1 ≤ 2147483647) ∧ (-2147483648 ≤ 250 + 12 * a1 + 1 ∧ 250 + 12 * a1 + 1 ≤ 2147483647) ∧ (0 ≤ 250 + 12 * a1 + 1 ∧ 250 + 12 * a1 + 1 < 9100) ∧ (-2147483648 ≤ 20 * (σ 129 (250 + 12 * a1 + 1)) ∧ 20 * (σ 129 (250 + 12 * a1 + 1)) ≤ 2147483647) ∧ (-2147483648 ≤ 50 + (20 * (σ 129 (250 + 12 * a1 + 1))) ∧ 50 + (20 * (σ 129 (250 + 12 * a1 + 1))) ≤ 2147483647) ∧ (0 ≤ 50 + (20 * (σ 129 (250 + 12 * a1 + 1))) ∧ 50 + (20 * (σ 129 (250 + 12 * a1 + 1))) < 9100)) ∧ ((¬ σ 129 (50 + (20 * (σ 129 (250 + 12 * a1 + 1)))) = 1 → hh_Sp d hm_X12_worthOf [hh_R 128, hh_I a1, hh_I a2] σ (fun r45 σ45 => (σ 129 (50 + (20 * (σ 129 (250 + 12 * a1 + 1)))) = 0 → Q r45 σ45) ∧ (¬ σ 129 (50 + (20 * (σ 129 (250 + 12 * a1 + 1)))) = 0 → (¬ σ 129 (50 + (20 * (σ 129 (250 + 12 * a1 + 1)))) = 3 → B_X12_chargedOf_76 d Q a1 a2 (250 + 12 * a1) (50 + (20 * (σ 129 (250 + 12 * a1 + 1)))) (σ 129 (50 + (20 * (σ 129 (250 + 12 * a1 + 1))))) r45 σ45) ∧ (σ 129 (50 + (20 * (σ 129 (250 + 12 * a1 + 1)))) = 3 → ((-2147483648 ≤ 250 + 12 * a1 + 5 ∧ 250 + 12 * a1 + 5 ≤ 2147483647) ∧ (0 ≤ 250 + 12 * a1 + 5 ∧ 250 + 12 * a1 + 5 < 9100)) ∧ ((¬ σ45 129 (250 + 12 * a1 + 5) = 5 → B_X12_chargedOf_76 d Q a1 a2 (250 + 12 * a1) (50 + (20 * (σ 129 (250 + 12 * a1 + 1)))) (σ 129 (50 + (20 * (σ 129 (250 + 12 * a1 + 1))))) r45 σ45) ∧ (σ45 129 (250 + 12 * a1 + 5) = 5 → Q r45 σ45)))))) ∧ (σ 129 (50 + (20 * (σ 129 (250 + 12 * a1 + 1)))) = 1 → Q 0 σ))
set_option maxRecDepth 20000 in
theorem w_X12_chargedOf_285 {d : Nat} {Q : Int → hh_S → Prop} (x6 x7 : Int) (σ : hh_S) (h : B_X12_chargedOf_285 d Q x6 x7 σ) : hh_J (d + 1) hm_X12_chargedOf 285 [none, none, none, none, none, none, some (hh_I x6), some (hh_I x7), none, none, none, none] [] σ Q := by
  unfold B_X12_chargedOf_285 at h
  refine hh_iload dX12_chargedOf_285 rfl ?_
  refine hh_iload dX12_chargedOf_287 rfl ?_
  refine hh_iconst dX12_chargedOf_289 (by decide) ?_
  refine hh_cS2 dX12_chargedOf_290 lk_X12_105 mo_X12_more (Nat.le_of_ble_eq_true rfl) h (fun r290 σ290 h => ?_)
  refine hh_cS2 dX12_chargedOf_293 lk_X12_218 mo_X12_less (Nat.le_of_ble_eq_true rfl) h (fun r293 σ293 h => ?_)
  exact hh_ireturn dX12_chargedOf_296 rfl h
set_option maxRecDepth 20000 in
theorem w_X12_chargedOf_276 {d : Nat} {Q : Int → hh_S → Prop} {k90 : Int → Int → Int → Int → Int → Int → Int → hh_S → Prop} (hk90 : ∀ (x1 x2 x3 x5 x6 x7 x8 : Int) (σ : hh_S), k90 x1 x2 x3 x5 x6 x7 x8 σ → hh_J (d + 1) hm_X12_chargedOf 90 [some (hh_R 128), some (hh_I x1), some (hh_I x2), some (hh_I x3), none, some (hh_I x5), some (hh_I x6), some (hh_I x7), some (hh_I x8), none, none, none] [] σ Q) (x1 x2 x3 x5 x6 x8 s0 s1 : Int) (σ : hh_S) (h : B_X12_chargedOf_276 d Q k90 x1 x2 x3 x5 x6 x8 s0 s1 σ) : hh_J (d + 1) hm_X12_chargedOf 276 [some (hh_R 128), some (hh_I x1), some (hh_I x2), some (hh_I x3), none, some (hh_I x5), some (hh_I x6), none, some (hh_I x8), none, none, none] [hh_I s1, hh_I s0] σ Q := by
  unfold B_X12_chargedOf_276 at h
  obtain ⟨⟨q1, q2⟩, h⟩ := h
  refine hh_isub dX12_chargedOf_276 q1 ?_
  refine hh_istore dX12_chargedOf_277 (by decide) rfl ?_
  refine hh_iinc dX12_chargedOf_279 (by decide) rfl rfl q2 ?_
  refine hh_goto (tgt := 90) dX12_chargedOf_282 (by decide) ?_
  exact hh_forget [true, true, true, true, false, true, true, true, true, false, false, false] (hk90 _ _ _ _ _ _ _ _ h)
set_option maxRecDepth 20000 in
theorem w_X12_chargedOf_275 {d : Nat} {Q : Int → hh_S → Prop} {k90 : Int → Int → Int → Int → Int → Int → Int → hh_S → Prop} (hk90 : ∀ (x1 x2 x3 x5 x6 x7 x8 : Int) (σ : hh_S), k90 x1 x2 x3 x5 x6 x7 x8 σ → hh_J (d + 1) hm_X12_chargedOf 90 [some (hh_R 128), some (hh_I x1), some (hh_I x2), some (hh_I x3), none, some (hh_I x5), some (hh_I x6), some (hh_I x7), some (hh_I x8), none, none, none] [] σ Q) (x1 x2 x3 x5 x6 x8 s0 : Int) (σ : hh_S) (h : B_X12_chargedOf_275 d Q k90 x1 x2 x3 x5 x6 x8 s0 σ) : hh_J (d + 1) hm_X12_chargedOf 275 [some (hh_R 128), some (hh_I x1), some (hh_I x2), some (hh_I x3), none, some (hh_I x5), some (hh_I x6), none, some (hh_I x8), none, none, none] [hh_I s0] σ Q := by
  unfold B_X12_chargedOf_275 at h
  refine hh_iconst dX12_chargedOf_275 (by decide) ?_
  exact hh_forget [true, true, true, true, false, true, true, false, true, false, false, false] (w_X12_chargedOf_276 hk90 _ _ _ _ _ _ _ _ _ h)
set_option maxRecDepth 20000 in
theorem w_X12_chargedOf_251 {d : Nat} {Q : Int → hh_S → Prop} {k90 : Int → Int → Int → Int → Int → Int → Int → hh_S → Prop} (hk90 : ∀ (x1 x2 x3 x5 x6 x7 x8 : Int) (σ : hh_S), k90 x1 x2 x3 x5 x6 x7 x8 σ → hh_J (d + 1) hm_X12_chargedOf 90 [some (hh_R 128), some (hh_I x1), some (hh_I x2), some (hh_I x3), none, some (hh_I x5), some (hh_I x6), some (hh_I x7), some (hh_I x8), none, none, none] [] σ Q) (x1 x2 x3 x5 x6 x7 x8 x10 s0 : Int) (σ : hh_S) (h : B_X12_chargedOf_251 d Q k90 x1 x2 x3 x5 x6 x7 x8 x10 s0 σ) : hh_J (d + 1) hm_X12_chargedOf 251 [some (hh_R 128), some (hh_I x1), some (hh_I x2), some (hh_I x3), none, some (hh_I x5), some (hh_I x6), some (hh_I x7), some (hh_I x8), none, some (hh_I x10), none] [hh_I s0] σ Q := by
  unfold B_X12_chargedOf_251 at h
  refine hh_istore dX12_chargedOf_251 (by decide) rfl ?_
  refine hh_iload dX12_chargedOf_253 rfl ?_
  refine hh_iload dX12_chargedOf_255 rfl ?_
  refine hh_if_eq (tgt := 275) dX12_chargedOf_257 (by decide) (fun c => ?_) (fun c => ?_)
  · replace h := h.1 c
    exact hh_forget [true, true, true, true, false, true, true, false, true, false, false, false] (w_X12_chargedOf_275 hk90 _ _ _ _ _ _ _ _ h)
  · replace h := h.2 c
    refine hh_iload dX12_chargedOf_260 rfl ?_
    refine hh_if_eq (tgt := 275) dX12_chargedOf_262 (by decide) (fun c => ?_) (fun c => ?_)
    · replace h := h.1 c
      exact hh_forget [true, true, true, true, false, true, true, false, true, false, false, false] (w_X12_chargedOf_275 hk90 _ _ _ _ _ _ _ _ h)
    · replace h := h.2 c
      refine hh_aload_n dX12_chargedOf_265 rfl ?_
      refine hh_iload dX12_chargedOf_266 rfl ?_
      refine hh_iload_n dX12_chargedOf_268 rfl ?_
      refine hh_cV2 dX12_chargedOf_269 lk_X12_224 mo_X12_worthOf rc_128 (Nat.le_of_ble_eq_true rfl) h (fun r269 σ269 h => ?_)
      refine hh_goto (tgt := 276) dX12_chargedOf_272 (by decide) ?_
      exact hh_forget [true, true, true, true, false, true, true, false, true, false, false, false] (w_X12_chargedOf_276 hk90 _ _ _ _ _ _ _ _ _ h)
set_option maxRecDepth 20000 in
theorem w_X12_chargedOf_250 {d : Nat} {Q : Int → hh_S → Prop} {k90 : Int → Int → Int → Int → Int → Int → Int → hh_S → Prop} (hk90 : ∀ (x1 x2 x3 x5 x6 x7 x8 : Int) (σ : hh_S), k90 x1 x2 x3 x5 x6 x7 x8 σ → hh_J (d + 1) hm_X12_chargedOf 90 [some (hh_R 128), some (hh_I x1), some (hh_I x2), some (hh_I x3), none, some (hh_I x5), some (hh_I x6), some (hh_I x7), some (hh_I x8), none, none, none] [] σ Q) (x1 x2 x3 x5 x6 x7 x8 x10 : Int) (σ : hh_S) (h : B_X12_chargedOf_250 d Q k90 x1 x2 x3 x5 x6 x7 x8 x10 σ) : hh_J (d + 1) hm_X12_chargedOf 250 [some (hh_R 128), some (hh_I x1), some (hh_I x2), some (hh_I x3), none, some (hh_I x5), some (hh_I x6), some (hh_I x7), some (hh_I x8), none, some (hh_I x10), none] [] σ Q := by
  unfold B_X12_chargedOf_250 at h
  refine hh_iconst dX12_chargedOf_250 (by decide) ?_
  exact hh_forget [true, true, true, true, false, true, true, true, true, false, true, false] (w_X12_chargedOf_251 hk90 _ _ _ _ _ _ _ _ _ _ h)
set_option maxRecDepth 20000 in
theorem w_X12_chargedOf_246 {d : Nat} {Q : Int → hh_S → Prop} {k90 : Int → Int → Int → Int → Int → Int → Int → hh_S → Prop} (hk90 : ∀ (x1 x2 x3 x5 x6 x7 x8 : Int) (σ : hh_S), k90 x1 x2 x3 x5 x6 x7 x8 σ → hh_J (d + 1) hm_X12_chargedOf 90 [some (hh_R 128), some (hh_I x1), some (hh_I x2), some (hh_I x3), none, some (hh_I x5), some (hh_I x6), some (hh_I x7), some (hh_I x8), none, none, none] [] σ Q) (x1 x2 x3 x5 x6 x7 x8 x10 : Int) (σ : hh_S) (h : B_X12_chargedOf_246 d Q k90 x1 x2 x3 x5 x6 x7 x8 x10 σ) : hh_J (d + 1) hm_X12_chargedOf 246 [some (hh_R 128), some (hh_I x1), some (hh_I x2), some (hh_I x3), none, some (hh_I x5), some (hh_I x6), some (hh_I x7), some (hh_I x8), none, some (hh_I x10), none] [] σ Q := by
  unfold B_X12_chargedOf_246 at h
  refine hh_iconst dX12_chargedOf_246 (by decide) ?_
  refine hh_goto (tgt := 251) dX12_chargedOf_247 (by decide) ?_
  exact hh_forget [true, true, true, true, false, true, true, true, true, false, true, false] (w_X12_chargedOf_251 hk90 _ _ _ _ _ _ _ _ _ _ h)
set_option maxRecDepth 20000 in
theorem w_X12_chargedOf_169 {d : Nat} {Q : Int → hh_S → Prop} {k90 : Int → Int → Int → Int → Int → Int → Int → hh_S → Prop} (hk90 : ∀ (x1 x2 x3 x5 x6 x7 x8 : Int) (σ : hh_S), k90 x1 x2 x3 x5 x6 x7 x8 σ → hh_J (d + 1) hm_X12_chargedOf 90 [some (hh_R 128), some (hh_I x1), some (hh_I x2), some (hh_I x3), none, some (hh_I x5), some (hh_I x6), some (hh_I x7), some (hh_I x8), none, none, none] [] σ Q) (x1 x2 x3 x5 x6 x7 x8 x9 s0 : Int) (σ : hh_S) (h : B_X12_chargedOf_169 d Q k90 x1 x2 x3 x5 x6 x7 x8 x9 s0 σ) : hh_J (d + 1) hm_X12_chargedOf 169 [some (hh_R 128), some (hh_I x1), some (hh_I x2), some (hh_I x3), none, some (hh_I x5), some (hh_I x6), some (hh_I x7), some (hh_I x8), some (hh_I x9), none, none] [hh_I s0] σ Q := by
  unfold B_X12_chargedOf_169 at h
  obtain ⟨⟨q1, q2, q3, q4⟩, h⟩ := h
  refine hh_istore dX12_chargedOf_169 (by decide) rfl ?_
  refine hh_aload_n dX12_chargedOf_171 rfl ?_
  refine hh_getR dX12_chargedOf_172 kf_X12_7 rf_128_0 ?_
  refine hh_iload dX12_chargedOf_175 rfl ?_
  refine hh_iconst dX12_chargedOf_177 (by decide) ?_
  refine hh_iadd dX12_chargedOf_178 q1 ?_
  refine hh_iald dX12_chargedOf_179 ra_129 q2 rfl ?_
  refine hh_aload_n dX12_chargedOf_180 rfl ?_
  refine hh_getR dX12_chargedOf_181 kf_X12_7 rf_128_0 ?_
  refine hh_iload_n dX12_chargedOf_184 rfl ?_
  refine hh_iconst dX12_chargedOf_185 (by decide) ?_
  refine hh_iadd dX12_chargedOf_186 q3 ?_
  refine hh_iald dX12_chargedOf_187 ra_129 q4 rfl ?_
  refine hh_icmp_ne (tgt := 250) dX12_chargedOf_188 (by decide) (fun c => ?_) (fun c => ?_)
  · replace h := h.1 c
    exact hh_forget [true, true, true, true, false, true, true, true, true, false, true, false] (w_X12_chargedOf_250 hk90 _ _ _ _ _ _ _ _ _ h)
  · replace h := h.2 c
    obtain ⟨⟨q1, q2, q3, q4, q5, q6⟩, h⟩ := h
    refine hh_aload_n dX12_chargedOf_191 rfl ?_
    refine hh_getR dX12_chargedOf_192 kf_X12_7 rf_128_0 ?_
    refine hh_iload dX12_chargedOf_195 rfl ?_
    refine hh_iconst dX12_chargedOf_197 (by decide) ?_
    refine hh_iadd dX12_chargedOf_198 q1 ?_
    refine hh_iald dX12_chargedOf_199 ra_129 q2 rfl ?_
    refine hh_bipush dX12_chargedOf_200 (by decide) ?_
    refine hh_idiv dX12_chargedOf_202 q3 (by decide) ?_
    refine hh_aload_n dX12_chargedOf_203 rfl ?_
    refine hh_getR dX12_chargedOf_204 kf_X12_7 rf_128_0 ?_
    refine hh_iload_n dX12_chargedOf_207 rfl ?_
    refine hh_iconst dX12_chargedOf_208 (by decide) ?_
    refine hh_iadd dX12_chargedOf_209 q4 ?_
    refine hh_iald dX12_chargedOf_210 ra_129 q5 rfl ?_
    refine hh_bipush dX12_chargedOf_211 (by decide) ?_
    refine hh_idiv dX12_chargedOf_213 q6 (by decide) ?_
    refine hh_icmp_ne (tgt := 250) dX12_chargedOf_214 (by decide) (fun c => ?_) (fun c => ?_)
    · replace h := h.1 c
      exact hh_forget [true, true, true, true, false, true, true, true, true, false, true, false] (w_X12_chargedOf_250 hk90 _ _ _ _ _ _ _ _ _ h)
    · replace h := h.2 c
      refine hh_aload_n dX12_chargedOf_217 rfl ?_
      refine hh_iload dX12_chargedOf_218 rfl ?_
      refine hh_iload_n dX12_chargedOf_220 rfl ?_
      refine hh_cV2 dX12_chargedOf_221 lk_X12_101 mo_X12_isKnown rc_128 (Nat.le_of_ble_eq_true rfl) h (fun r221 σ221 h => ?_)
      refine hh_if_eq (tgt := 250) dX12_chargedOf_224 (by decide) (fun c => ?_) (fun c => ?_)
      · replace h := h.1 c
        exact hh_forget [true, true, true, true, false, true, true, true, true, false, true, false] (w_X12_chargedOf_250 hk90 _ _ _ _ _ _ _ _ _ h)
      · replace h := h.2 c
        refine hh_iload dX12_chargedOf_227 rfl ?_
        refine hh_iconst dX12_chargedOf_229 (by decide) ?_
        refine hh_icmp_eq (tgt := 246) dX12_chargedOf_230 (by decide) (fun c => ?_) (fun c => ?_)
        · replace h := h.1 c
          exact hh_forget [true, true, true, true, false, true, true, true, true, false, true, false] (w_X12_chargedOf_246 hk90 _ _ _ _ _ _ _ _ _ h)
        · replace h := h.2 c
          obtain ⟨⟨q1, q2⟩, h⟩ := h
          refine hh_aload_n dX12_chargedOf_233 rfl ?_
          refine hh_getR dX12_chargedOf_234 kf_X12_7 rf_128_0 ?_
          refine hh_iload dX12_chargedOf_237 rfl ?_
          refine hh_iconst dX12_chargedOf_239 (by decide) ?_
          refine hh_iadd dX12_chargedOf_240 q1 ?_
          refine hh_iald dX12_chargedOf_241 ra_129 q2 rfl ?_
          refine hh_iconst dX12_chargedOf_242 (by decide) ?_
          refine hh_icmp_eq (tgt := 250) dX12_chargedOf_243 (by decide) (fun c => ?_) (fun c => ?_)
          · replace h := h.1 c
            exact hh_forget [true, true, true, true, false, true, true, true, true, false, true, false] (w_X12_chargedOf_250 hk90 _ _ _ _ _ _ _ _ _ h)
          · replace h := h.2 c
            exact hh_forget [true, true, true, true, false, true, true, true, true, false, true, false] (w_X12_chargedOf_246 hk90 _ _ _ _ _ _ _ _ _ h)
set_option maxRecDepth 20000 in
theorem w_X12_chargedOf_168 {d : Nat} {Q : Int → hh_S → Prop} {k90 : Int → Int → Int → Int → Int → Int → Int → hh_S → Prop} (hk90 : ∀ (x1 x2 x3 x5 x6 x7 x8 : Int) (σ : hh_S), k90 x1 x2 x3 x5 x6 x7 x8 σ → hh_J (d + 1) hm_X12_chargedOf 90 [some (hh_R 128), some (hh_I x1), some (hh_I x2), some (hh_I x3), none, some (hh_I x5), some (hh_I x6), some (hh_I x7), some (hh_I x8), none, none, none] [] σ Q) (x1 x2 x3 x5 x6 x7 x8 x9 : Int) (σ : hh_S) (h : B_X12_chargedOf_168 d Q k90 x1 x2 x3 x5 x6 x7 x8 x9 σ) : hh_J (d + 1) hm_X12_chargedOf 168 [some (hh_R 128), some (hh_I x1), some (hh_I x2), some (hh_I x3), none, some (hh_I x5), some (hh_I x6), some (hh_I x7), some (hh_I x8), some (hh_I x9), none, none] [] σ Q := by
  unfold B_X12_chargedOf_168 at h
  refine hh_iconst dX12_chargedOf_168 (by decide) ?_
  exact hh_forget [true, true, true, true, false, true, true, true, true, true, false, false] (w_X12_chargedOf_169 hk90 _ _ _ _ _ _ _ _ _ _ h)
set_option maxRecDepth 20000 in
theorem w_X12_chargedOf_164 {d : Nat} {Q : Int → hh_S → Prop} {k90 : Int → Int → Int → Int → Int → Int → Int → hh_S → Prop} (hk90 : ∀ (x1 x2 x3 x5 x6 x7 x8 : Int) (σ : hh_S), k90 x1 x2 x3 x5 x6 x7 x8 σ → hh_J (d + 1) hm_X12_chargedOf 90 [some (hh_R 128), some (hh_I x1), some (hh_I x2), some (hh_I x3), none, some (hh_I x5), some (hh_I x6), some (hh_I x7), some (hh_I x8), none, none, none] [] σ Q) (x1 x2 x3 x5 x6 x7 x8 x9 : Int) (σ : hh_S) (h : B_X12_chargedOf_164 d Q k90 x1 x2 x3 x5 x6 x7 x8 x9 σ) : hh_J (d + 1) hm_X12_chargedOf 164 [some (hh_R 128), some (hh_I x1), some (hh_I x2), some (hh_I x3), none, some (hh_I x5), some (hh_I x6), some (hh_I x7), some (hh_I x8), some (hh_I x9), none, none] [] σ Q := by
  unfold B_X12_chargedOf_164 at h
  refine hh_iconst dX12_chargedOf_164 (by decide) ?_
  refine hh_goto (tgt := 169) dX12_chargedOf_165 (by decide) ?_
  exact hh_forget [true, true, true, true, false, true, true, true, true, true, false, false] (w_X12_chargedOf_169 hk90 _ _ _ _ _ _ _ _ _ _ h)
set_option maxRecDepth 20000 in
theorem w_X12_chargedOf_90 {d : Nat} {Q : Int → hh_S → Prop} {k90 : Int → Int → Int → Int → Int → Int → Int → hh_S → Prop} (hk90 : ∀ (x1 x2 x3 x5 x6 x7 x8 : Int) (σ : hh_S), k90 x1 x2 x3 x5 x6 x7 x8 σ → hh_J (d + 1) hm_X12_chargedOf 90 [some (hh_R 128), some (hh_I x1), some (hh_I x2), some (hh_I x3), none, some (hh_I x5), some (hh_I x6), some (hh_I x7), some (hh_I x8), none, none, none] [] σ Q) (x1 x2 x3 x5 x6 x7 x8 : Int) (σ : hh_S) (h : B_X12_chargedOf_90 d Q k90 x1 x2 x3 x5 x6 x7 x8 σ) : hh_J (d + 1) hm_X12_chargedOf 90 [some (hh_R 128), some (hh_I x1), some (hh_I x2), some (hh_I x3), none, some (hh_I x5), some (hh_I x6), some (hh_I x7), some (hh_I x8), none, none, none] [] σ Q := by
  unfold B_X12_chargedOf_90 at h
  refine hh_iload dX12_chargedOf_90 rfl ?_
  refine hh_aload_n dX12_chargedOf_92 rfl ?_
  refine hh_getR dX12_chargedOf_93 kf_X12_7 rf_128_0 ?_
  refine hh_bipush dX12_chargedOf_96 (by decide) ?_
  refine hh_iald dX12_chargedOf_98 ra_129 (by decide) rfl ?_
  refine hh_icmp_ge (tgt := 285) dX12_chargedOf_99 (by decide) (fun c => ?_) (fun c => ?_)
  · replace h := h.1 c
    exact hh_forget [false, false, false, false, false, false, true, true, false, false, false, false] (w_X12_chargedOf_285 _ _ _ h)
  · replace h := h.2 c
    refine hh_iload dX12_chargedOf_102 rfl ?_
    refine hh_if_le (tgt := 285) dX12_chargedOf_104 (by decide) (fun c => ?_) (fun c => ?_)
    · replace h := h.1 c
      exact hh_forget [false, false, false, false, false, false, true, true, false, false, false, false] (w_X12_chargedOf_285 _ _ _ h)
    · replace h := h.2 c
      obtain ⟨⟨q1, q2, q3, q4, q5, q6⟩, h⟩ := h
      refine hh_sipush dX12_chargedOf_107 (by decide) ?_
      refine hh_bipush dX12_chargedOf_110 (by decide) ?_
      refine hh_iload dX12_chargedOf_112 rfl ?_
      refine hh_imul dX12_chargedOf_114 q1 ?_
      refine hh_iadd dX12_chargedOf_115 q2 ?_
      refine hh_istore dX12_chargedOf_116 (by decide) rfl ?_
      refine hh_aload_n dX12_chargedOf_118 rfl ?_
      refine hh_getR dX12_chargedOf_119 kf_X12_7 rf_128_0 ?_
      refine hh_iload dX12_chargedOf_122 rfl ?_
      refine hh_iconst dX12_chargedOf_124 (by decide) ?_
      refine hh_iadd dX12_chargedOf_125 q3 ?_
      refine hh_iald dX12_chargedOf_126 ra_129 q4 rfl ?_
      refine hh_aload_n dX12_chargedOf_127 rfl ?_
      refine hh_getR dX12_chargedOf_128 kf_X12_7 rf_128_0 ?_
      refine hh_iload_n dX12_chargedOf_131 rfl ?_
      refine hh_iconst dX12_chargedOf_132 (by decide) ?_
      refine hh_iadd dX12_chargedOf_133 q5 ?_
      refine hh_iald dX12_chargedOf_134 ra_129 q6 rfl ?_
      refine hh_icmp_lt (tgt := 164) dX12_chargedOf_135 (by decide) (fun c => ?_) (fun c => ?_)
      · replace h := h.1 c
        exact hh_forget [true, true, true, true, false, true, true, true, true, true, false, false] (w_X12_chargedOf_164 hk90 _ _ _ _ _ _ _ _ _ h)
      · replace h := h.2 c
        obtain ⟨⟨q1, q2, q3, q4⟩, h⟩ := h
        refine hh_aload_n dX12_chargedOf_138 rfl ?_
        refine hh_getR dX12_chargedOf_139 kf_X12_7 rf_128_0 ?_
        refine hh_iload dX12_chargedOf_142 rfl ?_
        refine hh_iconst dX12_chargedOf_144 (by decide) ?_
        refine hh_iadd dX12_chargedOf_145 q1 ?_
        refine hh_iald dX12_chargedOf_146 ra_129 q2 rfl ?_
        refine hh_aload_n dX12_chargedOf_147 rfl ?_
        refine hh_getR dX12_chargedOf_148 kf_X12_7 rf_128_0 ?_
        refine hh_iload_n dX12_chargedOf_151 rfl ?_
        refine hh_iconst dX12_chargedOf_152 (by decide) ?_
        refine hh_iadd dX12_chargedOf_153 q3 ?_
        refine hh_iald dX12_chargedOf_154 ra_129 q4 rfl ?_
        refine hh_icmp_ne (tgt := 168) dX12_chargedOf_155 (by decide) (fun c => ?_) (fun c => ?_)
        · replace h := h.1 c
          exact hh_forget [true, true, true, true, false, true, true, true, true, true, false, false] (w_X12_chargedOf_168 hk90 _ _ _ _ _ _ _ _ _ h)
        · replace h := h.2 c
          refine hh_iload dX12_chargedOf_158 rfl ?_
          refine hh_iload_n dX12_chargedOf_160 rfl ?_
          refine hh_icmp_ge (tgt := 168) dX12_chargedOf_161 (by decide) (fun c => ?_) (fun c => ?_)
          · replace h := h.1 c
            exact hh_forget [true, true, true, true, false, true, true, true, true, true, false, false] (w_X12_chargedOf_168 hk90 _ _ _ _ _ _ _ _ _ h)
          · replace h := h.2 c
            exact hh_forget [true, true, true, true, false, true, true, true, true, true, false, false] (w_X12_chargedOf_164 hk90 _ _ _ _ _ _ _ _ _ h)
theorem l_X12_chargedOf_90 {d : Nat} {Q : Int → hh_S → Prop} : ∀ (n : Nat) (x1 x2 x3 x5 x6 x7 x8 : Int) (σ : hh_S), hh_lp7 (B_X12_chargedOf_90 d Q) n x1 x2 x3 x5 x6 x7 x8 σ → hh_J (d + 1) hm_X12_chargedOf 90 [some (hh_R 128), some (hh_I x1), some (hh_I x2), some (hh_I x3), none, some (hh_I x5), some (hh_I x6), some (hh_I x7), some (hh_I x8), none, none, none] [] σ Q := by
  intro n
  induction n with
  | zero => intro _ _ _ _ _ _ _ _ h; exact h.elim
  | succ n ih => intro x1 x2 x3 x5 x6 x7 x8 σ h; exact w_X12_chargedOf_90 ih x1 x2 x3 x5 x6 x7 x8 σ h
set_option maxRecDepth 20000 in
theorem w_X12_chargedOf_76 {d : Nat} {Q : Int → hh_S → Prop} (x1 x2 x3 x4 x5 x6 : Int) (σ : hh_S) (h : B_X12_chargedOf_76 d Q x1 x2 x3 x4 x5 x6 σ) : hh_J (d + 1) hm_X12_chargedOf 76 [some (hh_R 128), some (hh_I x1), some (hh_I x2), some (hh_I x3), some (hh_I x4), some (hh_I x5), some (hh_I x6), none, none, none, none, none] [] σ Q := by
  unfold B_X12_chargedOf_76 at h
  obtain ⟨⟨q1, q2⟩, h⟩ := h
  refine hh_aload_n dX12_chargedOf_76 rfl ?_
  refine hh_getR dX12_chargedOf_77 kf_X12_7 rf_128_0 ?_
  refine hh_iload dX12_chargedOf_80 rfl ?_
  refine hh_iconst dX12_chargedOf_82 (by decide) ?_
  refine hh_iadd dX12_chargedOf_83 q1 ?_
  refine hh_iald dX12_chargedOf_84 ra_129 q2 rfl ?_
  refine hh_istore dX12_chargedOf_85 (by decide) rfl ?_
  refine hh_iconst dX12_chargedOf_87 (by decide) ?_
  refine hh_istore dX12_chargedOf_88 (by decide) rfl ?_
  obtain ⟨n, h⟩ := h
  exact hh_forget [true, true, true, true, false, true, true, true, true, false, false, false] (l_X12_chargedOf_90 n _ _ _ _ _ _ _ _ h)
set_option maxRecDepth 20000 in
theorem w_X12_chargedOf {d : Nat} {a1 a2 : Int} {σ : hh_S} {Q : Int → hh_S → Prop} (h : P_X12_chargedOf d a1 a2 σ Q) : hh_J (d + 1) hm_X12_chargedOf 0 [some (hh_R 128), some (hh_I a1), some (hh_I a2), none, none, none, none, none, none, none, none, none] [] σ Q := by
  unfold P_X12_chargedOf at h
  obtain ⟨⟨q1, q2, q3, q4, q5, q6, q7⟩, h⟩ := h
  refine hh_sipush dX12_chargedOf_0 (by decide) ?_
  refine hh_bipush dX12_chargedOf_3 (by decide) ?_
  refine hh_iload_n dX12_chargedOf_5 rfl ?_
  refine hh_imul dX12_chargedOf_6 q1 ?_
  refine hh_iadd dX12_chargedOf_7 q2 ?_
  refine hh_istore_n dX12_chargedOf_8 (by decide) rfl ?_
  refine hh_bipush dX12_chargedOf_9 (by decide) ?_
  refine hh_bipush dX12_chargedOf_11 (by decide) ?_
  refine hh_aload_n dX12_chargedOf_13 rfl ?_
  refine hh_getR dX12_chargedOf_14 kf_X12_7 rf_128_0 ?_
  refine hh_iload_n dX12_chargedOf_17 rfl ?_
  refine hh_iconst dX12_chargedOf_18 (by decide) ?_
  refine hh_iadd dX12_chargedOf_19 q3 ?_
  refine hh_iald dX12_chargedOf_20 ra_129 q4 rfl ?_
  refine hh_imul dX12_chargedOf_21 q5 ?_
  refine hh_iadd dX12_chargedOf_22 q6 ?_
  refine hh_istore dX12_chargedOf_23 (by decide) rfl ?_
  refine hh_aload_n dX12_chargedOf_25 rfl ?_
  refine hh_getR dX12_chargedOf_26 kf_X12_7 rf_128_0 ?_
  refine hh_iload dX12_chargedOf_29 rfl ?_
  refine hh_iald dX12_chargedOf_31 ra_129 q7 rfl ?_
  refine hh_istore dX12_chargedOf_32 (by decide) rfl ?_
  refine hh_iload dX12_chargedOf_34 rfl ?_
  refine hh_iconst dX12_chargedOf_36 (by decide) ?_
  refine hh_icmp_ne (tgt := 42) dX12_chargedOf_37 (by decide) (fun c => ?_) (fun c => ?_)
  · replace h := h.1 c
    refine hh_aload_n dX12_chargedOf_42 rfl ?_
    refine hh_iload_n dX12_chargedOf_43 rfl ?_
    refine hh_iload_n dX12_chargedOf_44 rfl ?_
    refine hh_cV2 dX12_chargedOf_45 lk_X12_224 mo_X12_worthOf rc_128 (Nat.le_of_ble_eq_true rfl) h (fun r45 σ45 h => ?_)
    refine hh_istore dX12_chargedOf_48 (by decide) rfl ?_
    refine hh_iload dX12_chargedOf_50 rfl ?_
    refine hh_if_eq (tgt := 73) dX12_chargedOf_52 (by decide) (fun c => ?_) (fun c => ?_)
    · replace h := h.1 c
      refine hh_iload dX12_chargedOf_73 rfl ?_
      exact hh_ireturn dX12_chargedOf_75 rfl h
    · replace h := h.2 c
      refine hh_iload dX12_chargedOf_55 rfl ?_
      refine hh_iconst dX12_chargedOf_57 (by decide) ?_
      refine hh_icmp_ne (tgt := 76) dX12_chargedOf_58 (by decide) (fun c => ?_) (fun c => ?_)
      · replace h := h.1 c
        exact hh_forget [true, true, true, true, true, true, true, false, false, false, false, false] (w_X12_chargedOf_76 _ _ _ _ _ _ _ h)
      · replace h := h.2 c
        obtain ⟨⟨q1, q2⟩, h⟩ := h
        refine hh_aload_n dX12_chargedOf_61 rfl ?_
        refine hh_getR dX12_chargedOf_62 kf_X12_7 rf_128_0 ?_
        refine hh_iload_n dX12_chargedOf_65 rfl ?_
        refine hh_iconst dX12_chargedOf_66 (by decide) ?_
        refine hh_iadd dX12_chargedOf_67 q1 ?_
        refine hh_iald dX12_chargedOf_68 ra_129 q2 rfl ?_
        refine hh_iconst dX12_chargedOf_69 (by decide) ?_
        refine hh_icmp_ne (tgt := 76) dX12_chargedOf_70 (by decide) (fun c => ?_) (fun c => ?_)
        · replace h := h.1 c
          exact hh_forget [true, true, true, true, true, true, true, false, false, false, false, false] (w_X12_chargedOf_76 _ _ _ _ _ _ _ h)
        · replace h := h.2 c
          refine hh_iload dX12_chargedOf_73 rfl ?_
          exact hh_ireturn dX12_chargedOf_75 rfl h
  · replace h := h.2 c
    refine hh_iconst dX12_chargedOf_40 (by decide) ?_
    exact hh_ireturn dX12_chargedOf_41 rfl h
theorem wp_X12_chargedOf {d : Nat} (a1 a2 : Int) {σ : hh_S} {Q : Int → hh_S → Prop} (h : hh_cs σ → hh_can a1 → hh_can a2 → P_X12_chargedOf d a1 a2 σ Q) : hh_Sp (d + 1) hm_X12_chargedOf [hh_R 128, hh_I a1, hh_I a2] σ Q :=
  hh_entry rfl (Nat.le_of_ble_eq_true rfl) rfl (fun hs hc => w_X12_chargedOf (h hs (hc _ (List.mem_of_getElem? (i := 1) rfl)) (hc _ (List.mem_of_getElem? (i := 2) rfl))))
def P_X12_worth (d : Nat) (a1 a2 a3 : Int) (σ : hh_S) (Q : Int → hh_S → Prop) : Prop :=
  hh_Sp d hm_X12_isEntry [hh_R 128, hh_I a1] σ (fun r2 σ2 => (r2 = 0 → Q (-1000000001) σ2) ∧ (¬ r2 = 0 → hh_Sp d hm_X12_isPast [hh_R 128, hh_I a2] σ2 (fun r10 σ10 => (r10 = 0 → Q (-1000000001) σ10) ∧ (¬ r10 = 0 → hh_Sp d hm_X12_in [hh_I a3, hh_I 0, hh_I 3] σ10 (fun r19 σ19 => (¬ r19 = 0 → hh_Sp d hm_X12_isKnown [hh_R 128, hh_I a1, hh_I a2] σ19 (fun r31 σ31 => (¬ r31 = 0 → (2 ≤ a3 → (¬ a3 = 2 → hh_Sp d hm_X12_chargedOf [hh_R 128, hh_I a1, hh_I a2] σ31 (fun r72 σ72 => Q r72 σ72)) ∧ (a3 = 2 → hh_Sp d hm_X12_worthOf [hh_R 128, hh_I a1, hh_I a2] σ31 (fun r63 σ63 => Q r63 σ63))) ∧ (¬ 2 ≤ a3 → hh_Sp d hm_X12_gives [hh_R 128, hh_I a1, hh_I a2, hh_I a3] σ31 (fun r49 σ49 => Q r49 σ49))) ∧ (r31 = 0 → Q (-1000000002) σ31))) ∧ (r19 = 0 → Q (-1000000001) σ19))))))
set_option maxRecDepth 20000 in
theorem w_X12_worth {d : Nat} {a1 a2 a3 : Int} {σ : hh_S} {Q : Int → hh_S → Prop} (h : P_X12_worth d a1 a2 a3 σ Q) : hh_J (d + 1) hm_X12_worth 0 [some (hh_R 128), some (hh_I a1), some (hh_I a2), some (hh_I a3)] [] σ Q := by
  unfold P_X12_worth at h
  refine hh_aload_n dX12_worth_0 rfl ?_
  refine hh_iload_n dX12_worth_1 rfl ?_
  refine hh_cV1 dX12_worth_2 lk_X12_98 mo_X12_isEntry rc_128 (Nat.le_of_ble_eq_true rfl) h (fun r2 σ2 h => ?_)
  refine hh_if_eq (tgt := 25) dX12_worth_5 (by decide) (fun c => ?_) (fun c => ?_)
  · replace h := h.1 c
    refine hh_ldc (n := -1000000001) dX12_worth_25 kc_X12_72 (by decide) ?_
    exact hh_ireturn dX12_worth_27 rfl h
  · replace h := h.2 c
    refine hh_aload_n dX12_worth_8 rfl ?_
    refine hh_iload_n dX12_worth_9 rfl ?_
    refine hh_cV1 dX12_worth_10 lk_X12_92 mo_X12_isPast rc_128 (Nat.le_of_ble_eq_true rfl) h (fun r10 σ10 h => ?_)
    refine hh_if_eq (tgt := 25) dX12_worth_13 (by decide) (fun c => ?_) (fun c => ?_)
    · replace h := h.1 c
      refine hh_ldc (n := -1000000001) dX12_worth_25 kc_X12_72 (by decide) ?_
      exact hh_ireturn dX12_worth_27 rfl h
    · replace h := h.2 c
      refine hh_iload_n dX12_worth_16 rfl ?_
      refine hh_iconst dX12_worth_17 (by decide) ?_
      refine hh_iconst dX12_worth_18 (by decide) ?_
      refine hh_cS3 dX12_worth_19 lk_X12_68 mo_X12_in (Nat.le_of_ble_eq_true rfl) h (fun r19 σ19 h => ?_)
      refine hh_if_ne (tgt := 28) dX12_worth_22 (by decide) (fun c => ?_) (fun c => ?_)
      · replace h := h.1 c
        refine hh_aload_n dX12_worth_28 rfl ?_
        refine hh_iload_n dX12_worth_29 rfl ?_
        refine hh_iload_n dX12_worth_30 rfl ?_
        refine hh_cV2 dX12_worth_31 lk_X12_101 mo_X12_isKnown rc_128 (Nat.le_of_ble_eq_true rfl) h (fun r31 σ31 h => ?_)
        refine hh_if_ne (tgt := 40) dX12_worth_34 (by decide) (fun c => ?_) (fun c => ?_)
        · replace h := h.1 c
          refine hh_iload_n dX12_worth_40 rfl ?_
          refine hh_iconst dX12_worth_41 (by decide) ?_
          refine hh_icmp_ge (tgt := 55) dX12_worth_42 (by decide) (fun c => ?_) (fun c => ?_)
          · replace h := h.1 c
            refine hh_iload_n dX12_worth_55 rfl ?_
            refine hh_iconst dX12_worth_56 (by decide) ?_
            refine hh_icmp_ne (tgt := 69) dX12_worth_57 (by decide) (fun c => ?_) (fun c => ?_)
            · replace h := h.1 c
              refine hh_aload_n dX12_worth_69 rfl ?_
              refine hh_iload_n dX12_worth_70 rfl ?_
              refine hh_iload_n dX12_worth_71 rfl ?_
              refine hh_cV2 dX12_worth_72 lk_X12_227 mo_X12_chargedOf rc_128 (Nat.le_of_ble_eq_true rfl) h (fun r72 σ72 h => ?_)
              exact hh_ireturn dX12_worth_75 rfl h
            · replace h := h.2 c
              refine hh_aload_n dX12_worth_60 rfl ?_
              refine hh_iload_n dX12_worth_61 rfl ?_
              refine hh_iload_n dX12_worth_62 rfl ?_
              refine hh_cV2 dX12_worth_63 lk_X12_224 mo_X12_worthOf rc_128 (Nat.le_of_ble_eq_true rfl) h (fun r63 σ63 h => ?_)
              refine hh_goto (tgt := 75) dX12_worth_66 (by decide) ?_
              exact hh_ireturn dX12_worth_75 rfl h
          · replace h := h.2 c
            refine hh_aload_n dX12_worth_45 rfl ?_
            refine hh_iload_n dX12_worth_46 rfl ?_
            refine hh_iload_n dX12_worth_47 rfl ?_
            refine hh_iload_n dX12_worth_48 rfl ?_
            refine hh_cV3 dX12_worth_49 lk_X12_221 mo_X12_gives rc_128 (Nat.le_of_ble_eq_true rfl) h (fun r49 σ49 h => ?_)
            refine hh_goto (tgt := 75) dX12_worth_52 (by decide) ?_
            exact hh_ireturn dX12_worth_75 rfl h
        · replace h := h.2 c
          refine hh_ldc (n := -1000000002) dX12_worth_37 kc_X12_91 (by decide) ?_
          exact hh_ireturn dX12_worth_39 rfl h
      · replace h := h.2 c
        refine hh_ldc (n := -1000000001) dX12_worth_25 kc_X12_72 (by decide) ?_
        exact hh_ireturn dX12_worth_27 rfl h
theorem wp_X12_worth {d : Nat} (a1 a2 a3 : Int) {σ : hh_S} {Q : Int → hh_S → Prop} (h : hh_cs σ → hh_can a1 → hh_can a2 → hh_can a3 → P_X12_worth d a1 a2 a3 σ Q) : hh_Sp (d + 1) hm_X12_worth [hh_R 128, hh_I a1, hh_I a2, hh_I a3] σ Q :=
  hh_entry rfl (Nat.le_of_ble_eq_true rfl) rfl (fun hs hc => w_X12_worth (h hs (hc _ (List.mem_of_getElem? (i := 1) rfl)) (hc _ (List.mem_of_getElem? (i := 2) rfl)) (hc _ (List.mem_of_getElem? (i := 3) rfl))))
def B_X12_feed_84 (d : Nat) (Q : Int → hh_S → Prop) (σ : hh_S) : Prop :=
  ((-2147483648 ≤ σ 128 6 + 12 ∧ σ 128 6 + 12 ≤ 2147483647)) ∧ (Q (σ 128 6 + 12) (hh_up σ 128 6 (σ 128 6 + 12)))
def B_X12_feed_47 (d : Nat) (Q : Int → hh_S → Prop) (k18 : Int → Int → Int → Int → hh_S → Prop) (x1 x2 x3 x4 s0 : Int) (σ : hh_S) : Prop :=
  ((-2147483648 ≤ σ 128 6 + x4 ∧ σ 128 6 + x4 ≤ 2147483647) ∧ 0 ≤ x4 ∧ (-2147483648 ≤ (x4 % 4) * 8 ∧ (x4 % 4) * 8 ≤ 2147483647) ∧ (-2147483648 ≤ 24 - ((x4 % 4) * 8) ∧ 24 - ((x4 % 4) * 8) ≤ 2147483647) ∧ (0 ≤ σ 128 6 + x4 ∧ σ 128 6 + x4 < 120) ∧ (-2147483648 ≤ x4 + 1 ∧ x4 + 1 ≤ 2147483647)) ∧ (k18 x1 x2 x3 (x4 + 1) (hh_up σ 133 (σ 128 6 + x4) (hh_and (hh_shr s0 (24 - ((x4 % 4) * 8))) 255)))
def B_X12_feed_18 (d : Nat) (Q : Int → hh_S → Prop) (k18 : Int → Int → Int → Int → hh_S → Prop) (x1 x2 x3 x4 : Int) (σ : hh_S) : Prop :=
  (12 ≤ x4 → B_X12_feed_84 d Q σ) ∧ (¬ 12 ≤ x4 → (4 ≤ x4 → (8 ≤ x4 → B_X12_feed_47 d Q k18 x1 x2 x3 x4 x3 σ) ∧ (¬ 8 ≤ x4 → B_X12_feed_47 d Q k18 x1 x2 x3 x4 x2 σ)) ∧ (¬ 4 ≤ x4 → B_X12_feed_47 d Q k18 x1 x2 x3 x4 x1 σ))
def P_X12_feed (d : Nat) (a1 a2 a3 : Int) (σ : hh_S) (Q : Int → hh_S → Prop) : Prop :=
  ((-2147483648 ≤ σ 128 6 + 12 ∧ σ 128 6 + 12 ≤ 2147483647)) ∧ ((σ 128 6 + 12 ≤ 120 → ∃ n, hh_lp4 (B_X12_feed_18 d Q) n a1 a2 a3 0 σ) ∧ (¬ σ 128 6 + 12 ≤ 120 → Q (-1000000003) σ))
set_option maxRecDepth 20000 in
theorem w_X12_feed_84 {d : Nat} {Q : Int → hh_S → Prop} (σ : hh_S) (h : B_X12_feed_84 d Q σ) : hh_J (d + 1) hm_X12_feed 84 [some (hh_R 128), none, none, none, none, none] [] σ Q := by
  unfold B_X12_feed_84 at h
  obtain ⟨q1, h⟩ := h
  refine hh_aload_n dX12_feed_84 rfl ?_
  refine hh_dup dX12_feed_85 (fun _ => rfl) ?_
  refine hh_getI dX12_feed_86 kf_X12_113 rf_128_6 rfl ?_
  refine hh_bipush dX12_feed_89 (by decide) ?_
  refine hh_iadd dX12_feed_91 q1 ?_
  refine hh_putI dX12_feed_92 kp_X12_113 rf_128_6 ?_
  refine hh_aload_n dX12_feed_95 rfl ?_
  refine hh_getI dX12_feed_96 kf_X12_113 rf_128_6 rfl ?_
  exact hh_ireturn dX12_feed_99 rfl h
set_option maxRecDepth 20000 in
theorem w_X12_feed_47 {d : Nat} {Q : Int → hh_S → Prop} {k18 : Int → Int → Int → Int → hh_S → Prop} (hk18 : ∀ (x1 x2 x3 x4 : Int) (σ : hh_S), k18 x1 x2 x3 x4 σ → hh_J (d + 1) hm_X12_feed 18 [some (hh_R 128), some (hh_I x1), some (hh_I x2), some (hh_I x3), some (hh_I x4), none] [] σ Q) (x1 x2 x3 x4 s0 : Int) (σ : hh_S) (h : B_X12_feed_47 d Q k18 x1 x2 x3 x4 s0 σ) : hh_J (d + 1) hm_X12_feed 47 [some (hh_R 128), some (hh_I x1), some (hh_I x2), some (hh_I x3), some (hh_I x4), none] [hh_I s0] σ Q := by
  unfold B_X12_feed_47 at h
  obtain ⟨⟨q1, q2, q3, q4, q5, q6⟩, h⟩ := h
  refine hh_istore dX12_feed_47 (by decide) rfl ?_
  refine hh_aload_n dX12_feed_49 rfl ?_
  refine hh_getR dX12_feed_50 kf_X12_22 rf_128_5 ?_
  refine hh_aload_n dX12_feed_53 rfl ?_
  refine hh_getI dX12_feed_54 kf_X12_113 rf_128_6 rfl ?_
  refine hh_iload dX12_feed_57 rfl ?_
  refine hh_iadd dX12_feed_59 q1 ?_
  refine hh_iload dX12_feed_60 rfl ?_
  refine hh_bipush dX12_feed_62 (by decide) ?_
  refine hh_iload dX12_feed_64 rfl ?_
  refine hh_iconst dX12_feed_66 (by decide) ?_
  refine hh_irem dX12_feed_67 q2 (by decide) ?_
  refine hh_bipush dX12_feed_68 (by decide) ?_
  refine hh_imul dX12_feed_70 q3 ?_
  refine hh_isub dX12_feed_71 q4 ?_
  refine hh_ishr dX12_feed_72 ?_
  refine hh_sipush dX12_feed_73 (by decide) ?_
  refine hh_iand dX12_feed_76 ?_
  refine hh_iast dX12_feed_77 ra_133 q5 ?_
  refine hh_iinc dX12_feed_78 (by decide) rfl rfl q6 ?_
  refine hh_goto (tgt := 18) dX12_feed_81 (by decide) ?_
  exact hh_forget [true, true, true, true, true, false] (hk18 _ _ _ _ _ h)
set_option maxRecDepth 20000 in
theorem w_X12_feed_18 {d : Nat} {Q : Int → hh_S → Prop} {k18 : Int → Int → Int → Int → hh_S → Prop} (hk18 : ∀ (x1 x2 x3 x4 : Int) (σ : hh_S), k18 x1 x2 x3 x4 σ → hh_J (d + 1) hm_X12_feed 18 [some (hh_R 128), some (hh_I x1), some (hh_I x2), some (hh_I x3), some (hh_I x4), none] [] σ Q) (x1 x2 x3 x4 : Int) (σ : hh_S) (h : B_X12_feed_18 d Q k18 x1 x2 x3 x4 σ) : hh_J (d + 1) hm_X12_feed 18 [some (hh_R 128), some (hh_I x1), some (hh_I x2), some (hh_I x3), some (hh_I x4), none] [] σ Q := by
  unfold B_X12_feed_18 at h
  refine hh_iload dX12_feed_18 rfl ?_
  refine hh_bipush dX12_feed_20 (by decide) ?_
  refine hh_icmp_ge (tgt := 84) dX12_feed_22 (by decide) (fun c => ?_) (fun c => ?_)
  · replace h := h.1 c
    exact hh_forget [true, false, false, false, false, false] (w_X12_feed_84 _ h)
  · replace h := h.2 c
    refine hh_iload dX12_feed_25 rfl ?_
    refine hh_iconst dX12_feed_27 (by decide) ?_
    refine hh_icmp_ge (tgt := 35) dX12_feed_28 (by decide) (fun c => ?_) (fun c => ?_)
    · replace h := h.1 c
      refine hh_iload dX12_feed_35 rfl ?_
      refine hh_bipush dX12_feed_37 (by decide) ?_
      refine hh_icmp_ge (tgt := 46) dX12_feed_39 (by decide) (fun c => ?_) (fun c => ?_)
      · replace h := h.1 c
        refine hh_iload_n dX12_feed_46 rfl ?_
        exact hh_forget [true, true, true, true, true, false] (w_X12_feed_47 hk18 _ _ _ _ _ _ h)
      · replace h := h.2 c
        refine hh_iload_n dX12_feed_42 rfl ?_
        refine hh_goto (tgt := 47) dX12_feed_43 (by decide) ?_
        exact hh_forget [true, true, true, true, true, false] (w_X12_feed_47 hk18 _ _ _ _ _ _ h)
    · replace h := h.2 c
      refine hh_iload_n dX12_feed_31 rfl ?_
      refine hh_goto (tgt := 47) dX12_feed_32 (by decide) ?_
      exact hh_forget [true, true, true, true, true, false] (w_X12_feed_47 hk18 _ _ _ _ _ _ h)
theorem l_X12_feed_18 {d : Nat} {Q : Int → hh_S → Prop} : ∀ (n : Nat) (x1 x2 x3 x4 : Int) (σ : hh_S), hh_lp4 (B_X12_feed_18 d Q) n x1 x2 x3 x4 σ → hh_J (d + 1) hm_X12_feed 18 [some (hh_R 128), some (hh_I x1), some (hh_I x2), some (hh_I x3), some (hh_I x4), none] [] σ Q := by
  intro n
  induction n with
  | zero => intro _ _ _ _ _ h; exact h.elim
  | succ n ih => intro x1 x2 x3 x4 σ h; exact w_X12_feed_18 ih x1 x2 x3 x4 σ h
set_option maxRecDepth 20000 in
theorem w_X12_feed {d : Nat} {a1 a2 a3 : Int} {σ : hh_S} {Q : Int → hh_S → Prop} (h : P_X12_feed d a1 a2 a3 σ Q) : hh_J (d + 1) hm_X12_feed 0 [some (hh_R 128), some (hh_I a1), some (hh_I a2), some (hh_I a3), none, none] [] σ Q := by
  unfold P_X12_feed at h
  obtain ⟨q1, h⟩ := h
  refine hh_aload_n dX12_feed_0 rfl ?_
  refine hh_getI dX12_feed_1 kf_X12_113 rf_128_6 rfl ?_
  refine hh_bipush dX12_feed_4 (by decide) ?_
  refine hh_iadd dX12_feed_6 q1 ?_
  refine hh_bipush dX12_feed_7 (by decide) ?_
  refine hh_icmp_le (tgt := 15) dX12_feed_9 (by decide) (fun c => ?_) (fun c => ?_)
  · replace h := h.1 c
    refine hh_iconst dX12_feed_15 (by decide) ?_
    refine hh_istore dX12_feed_16 (by decide) rfl ?_
    obtain ⟨n, h⟩ := h
    exact hh_forget [true, true, true, true, true, false] (l_X12_feed_18 n _ _ _ _ _ h)
  · replace h := h.2 c
    refine hh_ldc (n := -1000000003) dX12_feed_12 kc_X12_73 (by decide) ?_
    exact hh_ireturn dX12_feed_14 rfl h
theorem wp_X12_feed {d : Nat} (a1 a2 a3 : Int) {σ : hh_S} {Q : Int → hh_S → Prop} (h : hh_cs σ → hh_can a1 → hh_can a2 → hh_can a3 → P_X12_feed d a1 a2 a3 σ Q) : hh_Sp (d + 1) hm_X12_feed [hh_R 128, hh_I a1, hh_I a2, hh_I a3] σ Q :=
  hh_entry rfl (Nat.le_of_ble_eq_true rfl) rfl (fun hs hc => w_X12_feed (h hs (hc _ (List.mem_of_getElem? (i := 1) rfl)) (hc _ (List.mem_of_getElem? (i := 2) rfl)) (hc _ (List.mem_of_getElem? (i := 3) rfl))))
def P_X12_trim (d : Nat) (a1 : Int) (σ : hh_S) (Q : Int → hh_S → Prop) : Prop :=
  hh_Sp d hm_X12_in [hh_I a1, hh_I 0, hh_I (σ 128 6)] σ (fun r6 σ6 => (¬ r6 = 0 → Q a1 (hh_up σ6 128 6 a1)) ∧ (r6 = 0 → Q (-1000000001) σ6))
set_option maxRecDepth 20000 in
theorem w_X12_trim {d : Nat} {a1 : Int} {σ : hh_S} {Q : Int → hh_S → Prop} (h : P_X12_trim d a1 σ Q) : hh_J (d + 1) hm_X12_trim 0 [some (hh_R 128), some (hh_I a1)] [] σ Q := by
  unfold P_X12_trim at h
  refine hh_iload_n dX12_trim_0 rfl ?_
  refine hh_iconst dX12_trim_1 (by decide) ?_
  refine hh_aload_n dX12_trim_2 rfl ?_
  refine hh_getI dX12_trim_3 kf_X12_113 rf_128_6 rfl ?_
  refine hh_cS3 dX12_trim_6 lk_X12_68 mo_X12_in (Nat.le_of_ble_eq_true rfl) h (fun r6 σ6 h => ?_)
  refine hh_if_ne (tgt := 15) dX12_trim_9 (by decide) (fun c => ?_) (fun c => ?_)
  · replace h := h.1 c
    refine hh_aload_n dX12_trim_15 rfl ?_
    refine hh_iload_n dX12_trim_16 rfl ?_
    refine hh_putI dX12_trim_17 kp_X12_113 rf_128_6 ?_
    refine hh_iload_n dX12_trim_20 rfl ?_
    exact hh_ireturn dX12_trim_21 rfl h
  · replace h := h.2 c
    refine hh_ldc (n := -1000000001) dX12_trim_12 kc_X12_72 (by decide) ?_
    exact hh_ireturn dX12_trim_14 rfl h
theorem wp_X12_trim {d : Nat} (a1 : Int) {σ : hh_S} {Q : Int → hh_S → Prop} (h : hh_cs σ → hh_can a1 → P_X12_trim d a1 σ Q) : hh_Sp (d + 1) hm_X12_trim [hh_R 128, hh_I a1] σ Q :=
  hh_entry rfl (Nat.le_of_ble_eq_true rfl) rfl (fun hs hc => w_X12_trim (h hs (hc _ (List.mem_of_getElem? (i := 1) rfl))))
def P_X12_isLetter (d : Nat) (a1 a2 : Int) (σ : hh_S) (Q : Int → hh_S → Prop) : Prop :=
  (¬ a2 = 0 → (σ 128 8 ≤ a1 → Q 0 σ) ∧ (¬ σ 128 8 ≤ a1 → ((0 ≤ a1 ∧ a1 < 120)) ∧ ((¬ σ 133 a1 = a2 → Q 0 σ) ∧ (σ 133 a1 = a2 → Q 1 σ)))) ∧ (a2 = 0 → (¬ a1 = σ 128 8 → Q 0 σ) ∧ (a1 = σ 128 8 → Q 1 σ))
set_option maxRecDepth 20000 in
theorem w_X12_isLetter {d : Nat} {a1 a2 : Int} {σ : hh_S} {Q : Int → hh_S → Prop} (h : P_X12_isLetter d a1 a2 σ Q) : hh_J (d + 1) hm_X12_isLetter 0 [some (hh_R 128), some (hh_I a1), some (hh_I a2)] [] σ Q := by
  unfold P_X12_isLetter at h
  refine hh_iload_n dX12_isLetter_0 rfl ?_
  refine hh_if_ne (tgt := 20) dX12_isLetter_1 (by decide) (fun c => ?_) (fun c => ?_)
  · replace h := h.1 c
    refine hh_iload_n dX12_isLetter_20 rfl ?_
    refine hh_aload_n dX12_isLetter_21 rfl ?_
    refine hh_getI dX12_isLetter_22 kf_X12_127 rf_128_8 rfl ?_
    refine hh_icmp_ge (tgt := 42) dX12_isLetter_25 (by decide) (fun c => ?_) (fun c => ?_)
    · replace h := h.1 c
      refine hh_iconst dX12_isLetter_42 (by decide) ?_
      exact hh_zreturn dX12_isLetter_43 rfl (by decide) h
    · replace h := h.2 c
      obtain ⟨q1, h⟩ := h
      refine hh_aload_n dX12_isLetter_28 rfl ?_
      refine hh_getR dX12_isLetter_29 kf_X12_22 rf_128_5 ?_
      refine hh_iload_n dX12_isLetter_32 rfl ?_
      refine hh_iald dX12_isLetter_33 ra_133 q1 rfl ?_
      refine hh_iload_n dX12_isLetter_34 rfl ?_
      refine hh_icmp_ne (tgt := 42) dX12_isLetter_35 (by decide) (fun c => ?_) (fun c => ?_)
      · replace h := h.1 c
        refine hh_iconst dX12_isLetter_42 (by decide) ?_
        exact hh_zreturn dX12_isLetter_43 rfl (by decide) h
      · replace h := h.2 c
        refine hh_iconst dX12_isLetter_38 (by decide) ?_
        refine hh_goto (tgt := 43) dX12_isLetter_39 (by decide) ?_
        exact hh_zreturn dX12_isLetter_43 rfl (by decide) h
  · replace h := h.2 c
    refine hh_iload_n dX12_isLetter_4 rfl ?_
    refine hh_aload_n dX12_isLetter_5 rfl ?_
    refine hh_getI dX12_isLetter_6 kf_X12_127 rf_128_8 rfl ?_
    refine hh_icmp_ne (tgt := 16) dX12_isLetter_9 (by decide) (fun c => ?_) (fun c => ?_)
    · replace h := h.1 c
      refine hh_iconst dX12_isLetter_16 (by decide) ?_
      refine hh_goto (tgt := 43) dX12_isLetter_17 (by decide) ?_
      exact hh_zreturn dX12_isLetter_43 rfl (by decide) h
    · replace h := h.2 c
      refine hh_iconst dX12_isLetter_12 (by decide) ?_
      refine hh_goto (tgt := 43) dX12_isLetter_13 (by decide) ?_
      exact hh_zreturn dX12_isLetter_43 rfl (by decide) h
theorem wp_X12_isLetter {d : Nat} (a1 a2 : Int) {σ : hh_S} {Q : Int → hh_S → Prop} (h : hh_cs σ → hh_can a1 → hh_can a2 → P_X12_isLetter d a1 a2 σ Q) : hh_Sp (d + 1) hm_X12_isLetter [hh_R 128, hh_I a1, hh_I a2] σ Q :=
  hh_entry rfl (Nat.le_of_ble_eq_true rfl) rfl (fun hs hc => w_X12_isLetter (h hs (hc _ (List.mem_of_getElem? (i := 1) rfl)) (hc _ (List.mem_of_getElem? (i := 2) rfl))))
def B_X12_isWord_129 (d : Nat) (Q : Int → hh_S → Prop) (σ : hh_S) : Prop :=
  Q 1 σ
def B_X12_isWord_111 (d : Nat) (Q : Int → hh_S → Prop) (x5 : Int) (σ : hh_S) : Prop :=
  (x5 = 0 → B_X12_isWord_129 d Q σ) ∧ (¬ x5 = 0 → ((-2147483648 ≤ σ 128 7 + 5 ∧ σ 128 7 + 5 ≤ 2147483647)) ∧ ((¬ σ 128 8 = σ 128 7 + 5 → Q 0 σ) ∧ (σ 128 8 = σ 128 7 + 5 → B_X12_isWord_129 d Q σ)))
def B_X12_isWord_84 (d : Nat) (Q : Int → hh_S → Prop) (x4 x5 s0 : Int) (σ : hh_S) : Prop :=
  (s0 = 0 → Q 0 σ) ∧ (¬ s0 = 0 → (x4 = 0 → B_X12_isWord_111 d Q x5 σ) ∧ (¬ x4 = 0 → ((-2147483648 ≤ σ 128 7 + 4 ∧ σ 128 7 + 4 ≤ 2147483647)) ∧ (hh_Sp d hm_X12_isLetter [hh_R 128, hh_I (σ 128 7 + 4), hh_I x5] σ (fun r105 σ105 => (r105 = 0 → Q 0 σ105) ∧ (¬ r105 = 0 → B_X12_isWord_111 d Q x5 σ105)))))
def B_X12_isWord_83 (d : Nat) (Q : Int → hh_S → Prop) (x4 x5 : Int) (σ : hh_S) : Prop :=
  B_X12_isWord_84 d Q x4 x5 0 σ
def B_X12_isWord_79 (d : Nat) (Q : Int → hh_S → Prop) (x4 x5 : Int) (σ : hh_S) : Prop :=
  B_X12_isWord_84 d Q x4 x5 1 σ
def B_X12_isWord_53 (d : Nat) (Q : Int → hh_S → Prop) (x3 x4 x5 s0 : Int) (σ : hh_S) : Prop :=
  (s0 = 0 → B_X12_isWord_83 d Q x4 x5 σ) ∧ (¬ s0 = 0 → (x3 = 0 → B_X12_isWord_79 d Q x4 x5 σ) ∧ (¬ x3 = 0 → ((-2147483648 ≤ σ 128 7 + 3 ∧ σ 128 7 + 3 ≤ 2147483647)) ∧ (hh_Sp d hm_X12_isLetter [hh_R 128, hh_I (σ 128 7 + 3), hh_I x4] σ (fun r73 σ73 => (r73 = 0 → B_X12_isWord_83 d Q x4 x5 σ73) ∧ (¬ r73 = 0 → B_X12_isWord_79 d Q x4 x5 σ73)))))
def B_X12_isWord_52 (d : Nat) (Q : Int → hh_S → Prop) (x3 x4 x5 : Int) (σ : hh_S) : Prop :=
  B_X12_isWord_53 d Q x3 x4 x5 0 σ
def P_X12_isWord (d : Nat) (a1 a2 a3 a4 a5 : Int) (σ : hh_S) (Q : Int → hh_S → Prop) : Prop :=
  (¬ σ 128 10 = 1 → B_X12_isWord_52 d Q a3 a4 a5 σ) ∧ (σ 128 10 = 1 → hh_Sp d hm_X12_isLetter [hh_R 128, hh_I (σ 128 7), hh_I a1] σ (fun r14 σ14 => (r14 = 0 → B_X12_isWord_52 d Q a3 a4 a5 σ14) ∧ (¬ r14 = 0 → ((-2147483648 ≤ σ14 128 7 + 1 ∧ σ14 128 7 + 1 ≤ 2147483647)) ∧ (hh_Sp d hm_X12_isLetter [hh_R 128, hh_I (σ14 128 7 + 1), hh_I a2] σ14 (fun r28 σ28 => (r28 = 0 → B_X12_isWord_52 d Q a3 a4 a5 σ28) ∧ (¬ r28 = 0 → ((-2147483648 ≤ σ28 128 7 + 2 ∧ σ28 128 7 + 2 ≤ 2147483647)) ∧ (hh_Sp d hm_X12_isLetter [hh_R 128, hh_I (σ28 128 7 + 2), hh_I a3] σ28 (fun r42 σ42 => (r42 = 0 → B_X12_isWord_52 d Q a3 a4 a5 σ42) ∧ (¬ r42 = 0 → B_X12_isWord_53 d Q a3 a4 a5 1 σ42)))))))))
set_option maxRecDepth 20000 in
theorem w_X12_isWord_129 {d : Nat} {Q : Int → hh_S → Prop} (σ : hh_S) (h : B_X12_isWord_129 d Q σ) : hh_J (d + 1) hm_X12_isWord 129 [none, none, none, none, none, none, none] [] σ Q := by
  unfold B_X12_isWord_129 at h
  refine hh_iconst dX12_isWord_129 (by decide) ?_
  refine hh_goto (tgt := 134) dX12_isWord_130 (by decide) ?_
  exact hh_zreturn dX12_isWord_134 rfl (by decide) h
set_option maxRecDepth 20000 in
theorem w_X12_isWord_111 {d : Nat} {Q : Int → hh_S → Prop} (x5 : Int) (σ : hh_S) (h : B_X12_isWord_111 d Q x5 σ) : hh_J (d + 1) hm_X12_isWord 111 [some (hh_R 128), none, none, none, none, some (hh_I x5), none] [] σ Q := by
  unfold B_X12_isWord_111 at h
  refine hh_iload dX12_isWord_111 rfl ?_
  refine hh_if_eq (tgt := 129) dX12_isWord_113 (by decide) (fun c => ?_) (fun c => ?_)
  · replace h := h.1 c
    exact hh_forget [false, false, false, false, false, false, false] (w_X12_isWord_129 _ h)
  · replace h := h.2 c
    obtain ⟨q1, h⟩ := h
    refine hh_aload_n dX12_isWord_116 rfl ?_
    refine hh_getI dX12_isWord_117 kf_X12_127 rf_128_8 rfl ?_
    refine hh_aload_n dX12_isWord_120 rfl ?_
    refine hh_getI dX12_isWord_121 kf_X12_121 rf_128_7 rfl ?_
    refine hh_iconst dX12_isWord_124 (by decide) ?_
    refine hh_iadd dX12_isWord_125 q1 ?_
    refine hh_icmp_ne (tgt := 133) dX12_isWord_126 (by decide) (fun c => ?_) (fun c => ?_)
    · replace h := h.1 c
      refine hh_iconst dX12_isWord_133 (by decide) ?_
      exact hh_zreturn dX12_isWord_134 rfl (by decide) h
    · replace h := h.2 c
      exact hh_forget [false, false, false, false, false, false, false] (w_X12_isWord_129 _ h)
set_option maxRecDepth 20000 in
theorem w_X12_isWord_84 {d : Nat} {Q : Int → hh_S → Prop} (x4 x5 s0 : Int) (σ : hh_S) (h : B_X12_isWord_84 d Q x4 x5 s0 σ) : hh_J (d + 1) hm_X12_isWord 84 [some (hh_R 128), none, none, none, some (hh_I x4), some (hh_I x5), none] [hh_I s0] σ Q := by
  unfold B_X12_isWord_84 at h
  refine hh_istore dX12_isWord_84 (by decide) rfl ?_
  refine hh_iload dX12_isWord_86 rfl ?_
  refine hh_if_eq (tgt := 133) dX12_isWord_88 (by decide) (fun c => ?_) (fun c => ?_)
  · replace h := h.1 c
    refine hh_iconst dX12_isWord_133 (by decide) ?_
    exact hh_zreturn dX12_isWord_134 rfl (by decide) h
  · replace h := h.2 c
    refine hh_iload dX12_isWord_91 rfl ?_
    refine hh_if_eq (tgt := 111) dX12_isWord_93 (by decide) (fun c => ?_) (fun c => ?_)
    · replace h := h.1 c
      exact hh_forget [true, false, false, false, false, true, false] (w_X12_isWord_111 _ _ h)
    · replace h := h.2 c
      obtain ⟨q1, h⟩ := h
      refine hh_aload_n dX12_isWord_96 rfl ?_
      refine hh_aload_n dX12_isWord_97 rfl ?_
      refine hh_getI dX12_isWord_98 kf_X12_121 rf_128_7 rfl ?_
      refine hh_iconst dX12_isWord_101 (by decide) ?_
      refine hh_iadd dX12_isWord_102 q1 ?_
      refine hh_iload dX12_isWord_103 rfl ?_
      refine hh_cV2 dX12_isWord_105 lk_X12_142 mo_X12_isLetter rc_128 (Nat.le_of_ble_eq_true rfl) h (fun r105 σ105 h => ?_)
      refine hh_if_eq (tgt := 133) dX12_isWord_108 (by decide) (fun c => ?_) (fun c => ?_)
      · replace h := h.1 c
        refine hh_iconst dX12_isWord_133 (by decide) ?_
        exact hh_zreturn dX12_isWord_134 rfl (by decide) h
      · replace h := h.2 c
        exact hh_forget [true, false, false, false, false, true, false] (w_X12_isWord_111 _ _ h)
set_option maxRecDepth 20000 in
theorem w_X12_isWord_83 {d : Nat} {Q : Int → hh_S → Prop} (x4 x5 : Int) (σ : hh_S) (h : B_X12_isWord_83 d Q x4 x5 σ) : hh_J (d + 1) hm_X12_isWord 83 [some (hh_R 128), none, none, none, some (hh_I x4), some (hh_I x5), none] [] σ Q := by
  unfold B_X12_isWord_83 at h
  refine hh_iconst dX12_isWord_83 (by decide) ?_
  exact hh_forget [true, false, false, false, true, true, false] (w_X12_isWord_84 _ _ _ _ h)
set_option maxRecDepth 20000 in
theorem w_X12_isWord_79 {d : Nat} {Q : Int → hh_S → Prop} (x4 x5 : Int) (σ : hh_S) (h : B_X12_isWord_79 d Q x4 x5 σ) : hh_J (d + 1) hm_X12_isWord 79 [some (hh_R 128), none, none, none, some (hh_I x4), some (hh_I x5), none] [] σ Q := by
  unfold B_X12_isWord_79 at h
  refine hh_iconst dX12_isWord_79 (by decide) ?_
  refine hh_goto (tgt := 84) dX12_isWord_80 (by decide) ?_
  exact hh_forget [true, false, false, false, true, true, false] (w_X12_isWord_84 _ _ _ _ h)
set_option maxRecDepth 20000 in
theorem w_X12_isWord_53 {d : Nat} {Q : Int → hh_S → Prop} (x3 x4 x5 s0 : Int) (σ : hh_S) (h : B_X12_isWord_53 d Q x3 x4 x5 s0 σ) : hh_J (d + 1) hm_X12_isWord 53 [some (hh_R 128), none, none, some (hh_I x3), some (hh_I x4), some (hh_I x5), none] [hh_I s0] σ Q := by
  unfold B_X12_isWord_53 at h
  refine hh_istore dX12_isWord_53 (by decide) rfl ?_
  refine hh_iload dX12_isWord_55 rfl ?_
  refine hh_if_eq (tgt := 83) dX12_isWord_57 (by decide) (fun c => ?_) (fun c => ?_)
  · replace h := h.1 c
    exact hh_forget [true, false, false, false, true, true, false] (w_X12_isWord_83 _ _ _ h)
  · replace h := h.2 c
    refine hh_iload_n dX12_isWord_60 rfl ?_
    refine hh_if_eq (tgt := 79) dX12_isWord_61 (by decide) (fun c => ?_) (fun c => ?_)
    · replace h := h.1 c
      exact hh_forget [true, false, false, false, true, true, false] (w_X12_isWord_79 _ _ _ h)
    · replace h := h.2 c
      obtain ⟨q1, h⟩ := h
      refine hh_aload_n dX12_isWord_64 rfl ?_
      refine hh_aload_n dX12_isWord_65 rfl ?_
      refine hh_getI dX12_isWord_66 kf_X12_121 rf_128_7 rfl ?_
      refine hh_iconst dX12_isWord_69 (by decide) ?_
      refine hh_iadd dX12_isWord_70 q1 ?_
      refine hh_iload dX12_isWord_71 rfl ?_
      refine hh_cV2 dX12_isWord_73 lk_X12_142 mo_X12_isLetter rc_128 (Nat.le_of_ble_eq_true rfl) h (fun r73 σ73 h => ?_)
      refine hh_if_eq (tgt := 83) dX12_isWord_76 (by decide) (fun c => ?_) (fun c => ?_)
      · replace h := h.1 c
        exact hh_forget [true, false, false, false, true, true, false] (w_X12_isWord_83 _ _ _ h)
      · replace h := h.2 c
        exact hh_forget [true, false, false, false, true, true, false] (w_X12_isWord_79 _ _ _ h)
set_option maxRecDepth 20000 in
theorem w_X12_isWord_52 {d : Nat} {Q : Int → hh_S → Prop} (x3 x4 x5 : Int) (σ : hh_S) (h : B_X12_isWord_52 d Q x3 x4 x5 σ) : hh_J (d + 1) hm_X12_isWord 52 [some (hh_R 128), none, none, some (hh_I x3), some (hh_I x4), some (hh_I x5), none] [] σ Q := by
  unfold B_X12_isWord_52 at h
  refine hh_iconst dX12_isWord_52 (by decide) ?_
  exact hh_forget [true, false, false, true, true, true, false] (w_X12_isWord_53 _ _ _ _ _ h)
set_option maxRecDepth 20000 in
theorem w_X12_isWord {d : Nat} {a1 a2 a3 a4 a5 : Int} {σ : hh_S} {Q : Int → hh_S → Prop} (h : P_X12_isWord d a1 a2 a3 a4 a5 σ Q) : hh_J (d + 1) hm_X12_isWord 0 [some (hh_R 128), some (hh_I a1), some (hh_I a2), some (hh_I a3), some (hh_I a4), some (hh_I a5), none] [] σ Q := by
  unfold P_X12_isWord at h
  refine hh_aload_n dX12_isWord_0 rfl ?_
  refine hh_getI dX12_isWord_1 kf_X12_133 rf_128_10 rfl ?_
  refine hh_iconst dX12_isWord_4 (by decide) ?_
  refine hh_icmp_ne (tgt := 52) dX12_isWord_5 (by decide) (fun c => ?_) (fun c => ?_)
  · replace h := h.1 c
    exact hh_forget [true, false, false, true, true, true, false] (w_X12_isWord_52 _ _ _ _ h)
  · replace h := h.2 c
    refine hh_aload_n dX12_isWord_8 rfl ?_
    refine hh_aload_n dX12_isWord_9 rfl ?_
    refine hh_getI dX12_isWord_10 kf_X12_121 rf_128_7 rfl ?_
    refine hh_iload_n dX12_isWord_13 rfl ?_
    refine hh_cV2 dX12_isWord_14 lk_X12_142 mo_X12_isLetter rc_128 (Nat.le_of_ble_eq_true rfl) h (fun r14 σ14 h => ?_)
    refine hh_if_eq (tgt := 52) dX12_isWord_17 (by decide) (fun c => ?_) (fun c => ?_)
    · replace h := h.1 c
      exact hh_forget [true, false, false, true, true, true, false] (w_X12_isWord_52 _ _ _ _ h)
    · replace h := h.2 c
      obtain ⟨q1, h⟩ := h
      refine hh_aload_n dX12_isWord_20 rfl ?_
      refine hh_aload_n dX12_isWord_21 rfl ?_
      refine hh_getI dX12_isWord_22 kf_X12_121 rf_128_7 rfl ?_
      refine hh_iconst dX12_isWord_25 (by decide) ?_
      refine hh_iadd dX12_isWord_26 q1 ?_
      refine hh_iload_n dX12_isWord_27 rfl ?_
      refine hh_cV2 dX12_isWord_28 lk_X12_142 mo_X12_isLetter rc_128 (Nat.le_of_ble_eq_true rfl) h (fun r28 σ28 h => ?_)
      refine hh_if_eq (tgt := 52) dX12_isWord_31 (by decide) (fun c => ?_) (fun c => ?_)
      · replace h := h.1 c
        exact hh_forget [true, false, false, true, true, true, false] (w_X12_isWord_52 _ _ _ _ h)
      · replace h := h.2 c
        obtain ⟨q1, h⟩ := h
        refine hh_aload_n dX12_isWord_34 rfl ?_
        refine hh_aload_n dX12_isWord_35 rfl ?_
        refine hh_getI dX12_isWord_36 kf_X12_121 rf_128_7 rfl ?_
        refine hh_iconst dX12_isWord_39 (by decide) ?_
        refine hh_iadd dX12_isWord_40 q1 ?_
        refine hh_iload_n dX12_isWord_41 rfl ?_
        refine hh_cV2 dX12_isWord_42 lk_X12_142 mo_X12_isLetter rc_128 (Nat.le_of_ble_eq_true rfl) h (fun r42 σ42 h => ?_)
        refine hh_if_eq (tgt := 52) dX12_isWord_45 (by decide) (fun c => ?_) (fun c => ?_)
        · replace h := h.1 c
          exact hh_forget [true, false, false, true, true, true, false] (w_X12_isWord_52 _ _ _ _ h)
        · replace h := h.2 c
          refine hh_iconst dX12_isWord_48 (by decide) ?_
          refine hh_goto (tgt := 53) dX12_isWord_49 (by decide) ?_
          exact hh_forget [true, false, false, true, true, true, false] (w_X12_isWord_53 _ _ _ _ _ h)
theorem wp_X12_isWord {d : Nat} (a1 a2 a3 a4 a5 : Int) {σ : hh_S} {Q : Int → hh_S → Prop} (h : hh_cs σ → hh_can a1 → hh_can a2 → hh_can a3 → hh_can a4 → hh_can a5 → P_X12_isWord d a1 a2 a3 a4 a5 σ Q) : hh_Sp (d + 1) hm_X12_isWord [hh_R 128, hh_I a1, hh_I a2, hh_I a3, hh_I a4, hh_I a5] σ Q :=
  hh_entry rfl (Nat.le_of_ble_eq_true rfl) rfl (fun hs hc => w_X12_isWord (h hs (hc _ (List.mem_of_getElem? (i := 1) rfl)) (hc _ (List.mem_of_getElem? (i := 2) rfl)) (hc _ (List.mem_of_getElem? (i := 3) rfl)) (hc _ (List.mem_of_getElem? (i := 4) rfl)) (hc _ (List.mem_of_getElem? (i := 5) rfl))))
def P_X12_sortOf (d : Nat) (a0 : Int) (σ : hh_S) (Q : Int → hh_S → Prop) : Prop :=
  hh_Sp d hm_X12_in [hh_I a0, hh_I 97, hh_I 122] σ (fun r5 σ5 => (r5 = 0 → hh_Sp d hm_X12_in [hh_I a0, hh_I 48, hh_I 57] σ5 (fun r20 σ20 => (r20 = 0 → Q 3 σ20) ∧ (¬ r20 = 0 → Q 2 σ20))) ∧ (¬ r5 = 0 → Q 1 σ5))
set_option maxRecDepth 20000 in
theorem w_X12_sortOf {d : Nat} {a0 : Int} {σ : hh_S} {Q : Int → hh_S → Prop} (h : P_X12_sortOf d a0 σ Q) : hh_J (d + 1) hm_X12_sortOf 0 [some (hh_I a0)] [] σ Q := by
  unfold P_X12_sortOf at h
  refine hh_iload_n dX12_sortOf_0 rfl ?_
  refine hh_bipush dX12_sortOf_1 (by decide) ?_
  refine hh_bipush dX12_sortOf_3 (by decide) ?_
  refine hh_cS3 dX12_sortOf_5 lk_X12_68 mo_X12_in (Nat.le_of_ble_eq_true rfl) h (fun r5 σ5 h => ?_)
  refine hh_if_eq (tgt := 15) dX12_sortOf_8 (by decide) (fun c => ?_) (fun c => ?_)
  · replace h := h.1 c
    refine hh_iload_n dX12_sortOf_15 rfl ?_
    refine hh_bipush dX12_sortOf_16 (by decide) ?_
    refine hh_bipush dX12_sortOf_18 (by decide) ?_
    refine hh_cS3 dX12_sortOf_20 lk_X12_68 mo_X12_in (Nat.le_of_ble_eq_true rfl) h (fun r20 σ20 h => ?_)
    refine hh_if_eq (tgt := 30) dX12_sortOf_23 (by decide) (fun c => ?_) (fun c => ?_)
    · replace h := h.1 c
      refine hh_iconst dX12_sortOf_30 (by decide) ?_
      exact hh_ireturn dX12_sortOf_31 rfl h
    · replace h := h.2 c
      refine hh_iconst dX12_sortOf_26 (by decide) ?_
      refine hh_goto (tgt := 31) dX12_sortOf_27 (by decide) ?_
      exact hh_ireturn dX12_sortOf_31 rfl h
  · replace h := h.2 c
    refine hh_iconst dX12_sortOf_11 (by decide) ?_
    refine hh_goto (tgt := 31) dX12_sortOf_12 (by decide) ?_
    exact hh_ireturn dX12_sortOf_31 rfl h
theorem wp_X12_sortOf {d : Nat} (a0 : Int) {σ : hh_S} {Q : Int → hh_S → Prop} (h : hh_cs σ → hh_can a0 → P_X12_sortOf d a0 σ Q) : hh_Sp (d + 1) hm_X12_sortOf [hh_I a0] σ Q :=
  hh_entry rfl (Nat.le_of_ble_eq_true rfl) rfl (fun hs hc => w_X12_sortOf (h hs (hc _ (List.mem_of_getElem? (i := 0) rfl))))
def B_X12_wrong_15 (d : Nat) (Q : Int → hh_S → Prop) (σ : hh_S) : Prop :=
  Q 0 (hh_up σ 128 12 1)
def P_X12_wrong (d : Nat) (σ : hh_S) (Q : Int → hh_S → Prop) : Prop :=
  (¬ σ 128 12 = 0 → B_X12_wrong_15 d Q σ) ∧ (σ 128 12 = 0 → B_X12_wrong_15 d Q (hh_up σ 128 11 (σ 128 7)))
set_option maxRecDepth 20000 in
theorem w_X12_wrong_15 {d : Nat} {Q : Int → hh_S → Prop} (σ : hh_S) (h : B_X12_wrong_15 d Q σ) : hh_J (d + 1) hm_X12_wrong 15 [some (hh_R 128)] [] σ Q := by
  unfold B_X12_wrong_15 at h
  refine hh_aload_n dX12_wrong_15 rfl ?_
  refine hh_iconst dX12_wrong_16 (by decide) ?_
  refine hh_putZ dX12_wrong_17 kp_X12_117 rf_128_12 (by decide) ?_
  exact hh_vreturn dX12_wrong_20 rfl h
set_option maxRecDepth 20000 in
theorem w_X12_wrong {d : Nat} {σ : hh_S} {Q : Int → hh_S → Prop} (h : P_X12_wrong d σ Q) : hh_J (d + 1) hm_X12_wrong 0 [some (hh_R 128)] [] σ Q := by
  unfold P_X12_wrong at h
  refine hh_aload_n dX12_wrong_0 rfl ?_
  refine hh_getI dX12_wrong_1 kf_X12_117 rf_128_12 rfl ?_
  refine hh_if_ne (tgt := 15) dX12_wrong_4 (by decide) (fun c => ?_) (fun c => ?_)
  · replace h := h.1 c
    exact hh_forget [true] (w_X12_wrong_15 _ h)
  · replace h := h.2 c
    refine hh_aload_n dX12_wrong_7 rfl ?_
    refine hh_aload_n dX12_wrong_8 rfl ?_
    refine hh_getI dX12_wrong_9 kf_X12_121 rf_128_7 rfl ?_
    refine hh_putI dX12_wrong_12 kp_X12_124 rf_128_11 ?_
    exact hh_forget [true] (w_X12_wrong_15 _ h)
theorem wp_X12_wrong {d : Nat} {σ : hh_S} {Q : Int → hh_S → Prop} (h : hh_cs σ → P_X12_wrong d σ Q) : hh_Sp (d + 1) hm_X12_wrong [hh_R 128] σ Q :=
  hh_entry rfl (Nat.le_of_ble_eq_true rfl) rfl (fun hs hc => w_X12_wrong (h hs))
def B_X12_next_222 (d : Nat) (Q : Int → hh_S → Prop) (σ : hh_S) : Prop :=
  hh_Sp d hm_X12_wrong [hh_R 128] σ (fun _ σ223 => Q 0 σ223)
def B_X12_next_202 (d : Nat) (Q : Int → hh_S → Prop) (x2 : Int) (σ : hh_S) : Prop :=
  (x2 = 0 → Q 0 σ) ∧ (¬ x2 = 0 → (σ 128 10 = 1 → B_X12_next_222 d Q σ) ∧ (¬ σ 128 10 = 1 → (¬ σ 128 10 = 2 → Q 0 σ) ∧ (σ 128 10 = 2 → B_X12_next_222 d Q σ)))
def B_X12_next_144 (d : Nat) (Q : Int → hh_S → Prop) (k144 : Int → hh_S → Prop) (x2 : Int) (σ : hh_S) : Prop :=
  (σ 128 10 = 3 → B_X12_next_202 d Q x2 σ) ∧ (¬ σ 128 10 = 3 → (σ 128 9 ≤ σ 128 8 → B_X12_next_202 d Q x2 σ) ∧ (¬ σ 128 9 ≤ σ 128 8 → (σ 128 10 = 0 → B_X12_next_202 d Q x2 σ) ∧ (¬ σ 128 10 = 0 → ((0 ≤ σ 128 8 ∧ σ 128 8 < 120)) ∧ (hh_Sp d hm_X12_sortOf [hh_I (σ 133 (σ 128 8))] σ (fun r179 σ179 => (¬ r179 = σ179 128 10 → B_X12_next_202 d Q x2 σ179) ∧ (r179 = σ179 128 10 → ((-2147483648 ≤ σ179 128 8 + 1 ∧ σ179 128 8 + 1 ≤ 2147483647)) ∧ (k144 x2 (hh_up σ179 128 8 (σ179 128 8 + 1)))))))))
def B_X12_next_124 (d : Nat) (Q : Int → hh_S → Prop) (x2 s1 : Int) (σ : hh_S) : Prop :=
  (s1 = 0 → ∃ n, hh_lp1 (B_X12_next_144 d Q) n x2 (hh_up σ 128 10 s1)) ∧ (¬ s1 = 0 → ((-2147483648 ≤ σ 128 8 + 1 ∧ σ 128 8 + 1 ≤ 2147483647)) ∧ (∃ n, hh_lp1 (B_X12_next_144 d Q) n x2 (hh_up (hh_up σ 128 10 s1) 128 8 (σ 128 8 + 1))))
def B_X12_next_95 (d : Nat) (Q : Int → hh_S → Prop) (s0 : Int) (σ : hh_S) : Prop :=
  (¬ σ 128 7 = σ 128 9 → ((0 ≤ σ 128 7 ∧ σ 128 7 < 120)) ∧ (hh_Sp d hm_X12_sortOf [hh_I (σ 133 (σ 128 7))] σ (fun r121 σ121 => B_X12_next_124 d Q s0 r121 σ121))) ∧ (σ 128 7 = σ 128 9 → B_X12_next_124 d Q s0 0 σ)
def B_X12_next_94 (d : Nat) (Q : Int → hh_S → Prop) (σ : hh_S) : Prop :=
  B_X12_next_95 d Q 0 σ
def B_X12_next_59 (d : Nat) (Q : Int → hh_S → Prop) (x1 : Int) (σ : hh_S) : Prop :=
  (¬ σ 128 7 = x1 → B_X12_next_94 d Q (hh_up σ 128 8 (σ 128 7))) ∧ (σ 128 7 = x1 → (σ 128 10 = 0 → B_X12_next_94 d Q (hh_up σ 128 8 (σ 128 7))) ∧ (¬ σ 128 10 = 0 → (σ 128 10 = 3 → B_X12_next_94 d Q (hh_up σ 128 8 (σ 128 7))) ∧ (¬ σ 128 10 = 3 → B_X12_next_95 d Q 1 (hh_up σ 128 8 (σ 128 7)))))
def B_X12_next_21 (d : Nat) (Q : Int → hh_S → Prop) (k21 : Int → hh_S → Prop) (x1 : Int) (σ : hh_S) : Prop :=
  (σ 128 9 ≤ σ 128 7 → B_X12_next_59 d Q x1 σ) ∧ (¬ σ 128 9 ≤ σ 128 7 → ((0 ≤ σ 128 7 ∧ σ 128 7 < 120)) ∧ ((¬ σ 133 (σ 128 7) = 32 → B_X12_next_59 d Q x1 σ) ∧ (σ 133 (σ 128 7) = 32 → ((-2147483648 ≤ σ 128 7 + 1 ∧ σ 128 7 + 1 ≤ 2147483647)) ∧ (k21 x1 (hh_up σ 128 7 (σ 128 7 + 1))))))
def P_X12_next (d : Nat) (σ : hh_S) (Q : Int → hh_S → Prop) : Prop :=
  (σ 128 12 = 0 → ∃ n, hh_lp1 (B_X12_next_21 d Q) n (σ 128 8) (hh_up σ 128 7 (σ 128 8))) ∧ (¬ σ 128 12 = 0 → Q 0 σ)
set_option maxRecDepth 20000 in
theorem w_X12_next_222 {d : Nat} {Q : Int → hh_S → Prop} (σ : hh_S) (h : B_X12_next_222 d Q σ) : hh_J (d + 1) hm_X12_next 222 [some (hh_R 128), none, none] [] σ Q := by
  unfold B_X12_next_222 at h
  refine hh_aload_n dX12_next_222 rfl ?_
  refine hh_cV0 dX12_next_223 lk_X12_139 mo_X12_wrong rc_128 (Nat.le_of_ble_eq_true rfl) h (fun _ σ223 h => ?_)
  exact hh_vreturn dX12_next_226 rfl h
set_option maxRecDepth 20000 in
theorem w_X12_next_202 {d : Nat} {Q : Int → hh_S → Prop} (x2 : Int) (σ : hh_S) (h : B_X12_next_202 d Q x2 σ) : hh_J (d + 1) hm_X12_next 202 [some (hh_R 128), none, some (hh_I x2)] [] σ Q := by
  unfold B_X12_next_202 at h
  refine hh_iload_n dX12_next_202 rfl ?_
  refine hh_if_eq (tgt := 226) dX12_next_203 (by decide) (fun c => ?_) (fun c => ?_)
  · replace h := h.1 c
    exact hh_vreturn dX12_next_226 rfl h
  · replace h := h.2 c
    refine hh_aload_n dX12_next_206 rfl ?_
    refine hh_getI dX12_next_207 kf_X12_133 rf_128_10 rfl ?_
    refine hh_iconst dX12_next_210 (by decide) ?_
    refine hh_icmp_eq (tgt := 222) dX12_next_211 (by decide) (fun c => ?_) (fun c => ?_)
    · replace h := h.1 c
      exact hh_forget [true, false, false] (w_X12_next_222 _ h)
    · replace h := h.2 c
      refine hh_aload_n dX12_next_214 rfl ?_
      refine hh_getI dX12_next_215 kf_X12_133 rf_128_10 rfl ?_
      refine hh_iconst dX12_next_218 (by decide) ?_
      refine hh_icmp_ne (tgt := 226) dX12_next_219 (by decide) (fun c => ?_) (fun c => ?_)
      · replace h := h.1 c
        exact hh_vreturn dX12_next_226 rfl h
      · replace h := h.2 c
        exact hh_forget [true, false, false] (w_X12_next_222 _ h)
set_option maxRecDepth 20000 in
theorem w_X12_next_144 {d : Nat} {Q : Int → hh_S → Prop} {k144 : Int → hh_S → Prop} (hk144 : ∀ (x2 : Int) (σ : hh_S), k144 x2 σ → hh_J (d + 1) hm_X12_next 144 [some (hh_R 128), none, some (hh_I x2)] [] σ Q) (x2 : Int) (σ : hh_S) (h : B_X12_next_144 d Q k144 x2 σ) : hh_J (d + 1) hm_X12_next 144 [some (hh_R 128), none, some (hh_I x2)] [] σ Q := by
  unfold B_X12_next_144 at h
  refine hh_aload_n dX12_next_144 rfl ?_
  refine hh_getI dX12_next_145 kf_X12_133 rf_128_10 rfl ?_
  refine hh_iconst dX12_next_148 (by decide) ?_
  refine hh_icmp_eq (tgt := 202) dX12_next_149 (by decide) (fun c => ?_) (fun c => ?_)
  · replace h := h.1 c
    exact hh_forget [true, false, true] (w_X12_next_202 _ _ h)
  · replace h := h.2 c
    refine hh_aload_n dX12_next_152 rfl ?_
    refine hh_getI dX12_next_153 kf_X12_127 rf_128_8 rfl ?_
    refine hh_aload_n dX12_next_156 rfl ?_
    refine hh_getI dX12_next_157 kf_X12_130 rf_128_9 rfl ?_
    refine hh_icmp_ge (tgt := 202) dX12_next_160 (by decide) (fun c => ?_) (fun c => ?_)
    · replace h := h.1 c
      exact hh_forget [true, false, true] (w_X12_next_202 _ _ h)
    · replace h := h.2 c
      refine hh_aload_n dX12_next_163 rfl ?_
      refine hh_getI dX12_next_164 kf_X12_133 rf_128_10 rfl ?_
      refine hh_if_eq (tgt := 202) dX12_next_167 (by decide) (fun c => ?_) (fun c => ?_)
      · replace h := h.1 c
        exact hh_forget [true, false, true] (w_X12_next_202 _ _ h)
      · replace h := h.2 c
        obtain ⟨q1, h⟩ := h
        refine hh_aload_n dX12_next_170 rfl ?_
        refine hh_getR dX12_next_171 kf_X12_22 rf_128_5 ?_
        refine hh_aload_n dX12_next_174 rfl ?_
        refine hh_getI dX12_next_175 kf_X12_127 rf_128_8 rfl ?_
        refine hh_iald dX12_next_178 ra_133 q1 rfl ?_
        refine hh_cS1 dX12_next_179 lk_X12_136 mo_X12_sortOf (Nat.le_of_ble_eq_true rfl) h (fun r179 σ179 h => ?_)
        refine hh_aload_n dX12_next_182 rfl ?_
        refine hh_getI dX12_next_183 kf_X12_133 rf_128_10 rfl ?_
        refine hh_icmp_ne (tgt := 202) dX12_next_186 (by decide) (fun c => ?_) (fun c => ?_)
        · replace h := h.1 c
          exact hh_forget [true, false, true] (w_X12_next_202 _ _ h)
        · replace h := h.2 c
          obtain ⟨q1, h⟩ := h
          refine hh_aload_n dX12_next_189 rfl ?_
          refine hh_dup dX12_next_190 (fun _ => rfl) ?_
          refine hh_getI dX12_next_191 kf_X12_127 rf_128_8 rfl ?_
          refine hh_iconst dX12_next_194 (by decide) ?_
          refine hh_iadd dX12_next_195 q1 ?_
          refine hh_putI dX12_next_196 kp_X12_127 rf_128_8 ?_
          refine hh_goto (tgt := 144) dX12_next_199 (by decide) ?_
          exact hh_forget [true, false, true] (hk144 _ _ h)
theorem l_X12_next_144 {d : Nat} {Q : Int → hh_S → Prop} : ∀ (n : Nat) (x2 : Int) (σ : hh_S), hh_lp1 (B_X12_next_144 d Q) n x2 σ → hh_J (d + 1) hm_X12_next 144 [some (hh_R 128), none, some (hh_I x2)] [] σ Q := by
  intro n
  induction n with
  | zero => intro _ _ h; exact h.elim
  | succ n ih => intro x2 σ h; exact w_X12_next_144 ih x2 σ h
set_option maxRecDepth 20000 in
theorem w_X12_next_124 {d : Nat} {Q : Int → hh_S → Prop} (x2 s1 : Int) (σ : hh_S) (h : B_X12_next_124 d Q x2 s1 σ) : hh_J (d + 1) hm_X12_next 124 [some (hh_R 128), none, some (hh_I x2)] [hh_I s1, hh_R 128] σ Q := by
  unfold B_X12_next_124 at h
  refine hh_putI dX12_next_124 kp_X12_133 rf_128_10 ?_
  refine hh_aload_n dX12_next_127 rfl ?_
  refine hh_getI dX12_next_128 kf_X12_133 rf_128_10 rfl ?_
  refine hh_if_eq (tgt := 144) dX12_next_131 (by decide) (fun c => ?_) (fun c => ?_)
  · replace h := h.1 c
    obtain ⟨n, h⟩ := h
    exact hh_forget [true, false, true] (l_X12_next_144 n _ _ h)
  · replace h := h.2 c
    obtain ⟨q1, h⟩ := h
    refine hh_aload_n dX12_next_134 rfl ?_
    refine hh_dup dX12_next_135 (fun _ => rfl) ?_
    refine hh_getI dX12_next_136 kf_X12_127 rf_128_8 rfl ?_
    refine hh_iconst dX12_next_139 (by decide) ?_
    refine hh_iadd dX12_next_140 q1 ?_
    refine hh_putI dX12_next_141 kp_X12_127 rf_128_8 ?_
    obtain ⟨n, h⟩ := h
    exact hh_forget [true, false, true] (l_X12_next_144 n _ _ h)
set_option maxRecDepth 20000 in
theorem w_X12_next_95 {d : Nat} {Q : Int → hh_S → Prop} (s0 : Int) (σ : hh_S) (h : B_X12_next_95 d Q s0 σ) : hh_J (d + 1) hm_X12_next 95 [some (hh_R 128), none, none] [hh_I s0] σ Q := by
  unfold B_X12_next_95 at h
  refine hh_istore_n dX12_next_95 (by decide) rfl ?_
  refine hh_aload_n dX12_next_96 rfl ?_
  refine hh_aload_n dX12_next_97 rfl ?_
  refine hh_getI dX12_next_98 kf_X12_121 rf_128_7 rfl ?_
  refine hh_aload_n dX12_next_101 rfl ?_
  refine hh_getI dX12_next_102 kf_X12_130 rf_128_9 rfl ?_
  refine hh_icmp_ne (tgt := 112) dX12_next_105 (by decide) (fun c => ?_) (fun c => ?_)
  · replace h := h.1 c
    obtain ⟨q1, h⟩ := h
    refine hh_aload_n dX12_next_112 rfl ?_
    refine hh_getR dX12_next_113 kf_X12_22 rf_128_5 ?_
    refine hh_aload_n dX12_next_116 rfl ?_
    refine hh_getI dX12_next_117 kf_X12_121 rf_128_7 rfl ?_
    refine hh_iald dX12_next_120 ra_133 q1 rfl ?_
    refine hh_cS1 dX12_next_121 lk_X12_136 mo_X12_sortOf (Nat.le_of_ble_eq_true rfl) h (fun r121 σ121 h => ?_)
    exact hh_forget [true, false, true] (w_X12_next_124 _ _ _ h)
  · replace h := h.2 c
    refine hh_iconst dX12_next_108 (by decide) ?_
    refine hh_goto (tgt := 124) dX12_next_109 (by decide) ?_
    exact hh_forget [true, false, true] (w_X12_next_124 _ _ _ h)
set_option maxRecDepth 20000 in
theorem w_X12_next_94 {d : Nat} {Q : Int → hh_S → Prop} (σ : hh_S) (h : B_X12_next_94 d Q σ) : hh_J (d + 1) hm_X12_next 94 [some (hh_R 128), none, none] [] σ Q := by
  unfold B_X12_next_94 at h
  refine hh_iconst dX12_next_94 (by decide) ?_
  exact hh_forget [true, false, false] (w_X12_next_95 _ _ h)
set_option maxRecDepth 20000 in
theorem w_X12_next_59 {d : Nat} {Q : Int → hh_S → Prop} (x1 : Int) (σ : hh_S) (h : B_X12_next_59 d Q x1 σ) : hh_J (d + 1) hm_X12_next 59 [some (hh_R 128), some (hh_I x1), none] [] σ Q := by
  unfold B_X12_next_59 at h
  refine hh_aload_n dX12_next_59 rfl ?_
  refine hh_aload_n dX12_next_60 rfl ?_
  refine hh_getI dX12_next_61 kf_X12_121 rf_128_7 rfl ?_
  refine hh_putI dX12_next_64 kp_X12_127 rf_128_8 ?_
  refine hh_aload_n dX12_next_67 rfl ?_
  refine hh_getI dX12_next_68 kf_X12_121 rf_128_7 rfl ?_
  refine hh_iload_n dX12_next_71 rfl ?_
  refine hh_icmp_ne (tgt := 94) dX12_next_72 (by decide) (fun c => ?_) (fun c => ?_)
  · replace h := h.1 c
    exact hh_forget [true, false, false] (w_X12_next_94 _ h)
  · replace h := h.2 c
    refine hh_aload_n dX12_next_75 rfl ?_
    refine hh_getI dX12_next_76 kf_X12_133 rf_128_10 rfl ?_
    refine hh_if_eq (tgt := 94) dX12_next_79 (by decide) (fun c => ?_) (fun c => ?_)
    · replace h := h.1 c
      exact hh_forget [true, false, false] (w_X12_next_94 _ h)
    · replace h := h.2 c
      refine hh_aload_n dX12_next_82 rfl ?_
      refine hh_getI dX12_next_83 kf_X12_133 rf_128_10 rfl ?_
      refine hh_iconst dX12_next_86 (by decide) ?_
      refine hh_icmp_eq (tgt := 94) dX12_next_87 (by decide) (fun c => ?_) (fun c => ?_)
      · replace h := h.1 c
        exact hh_forget [true, false, false] (w_X12_next_94 _ h)
      · replace h := h.2 c
        refine hh_iconst dX12_next_90 (by decide) ?_
        refine hh_goto (tgt := 95) dX12_next_91 (by decide) ?_
        exact hh_forget [true, false, false] (w_X12_next_95 _ _ h)
set_option maxRecDepth 20000 in
theorem w_X12_next_21 {d : Nat} {Q : Int → hh_S → Prop} {k21 : Int → hh_S → Prop} (hk21 : ∀ (x1 : Int) (σ : hh_S), k21 x1 σ → hh_J (d + 1) hm_X12_next 21 [some (hh_R 128), some (hh_I x1), none] [] σ Q) (x1 : Int) (σ : hh_S) (h : B_X12_next_21 d Q k21 x1 σ) : hh_J (d + 1) hm_X12_next 21 [some (hh_R 128), some (hh_I x1), none] [] σ Q := by
  unfold B_X12_next_21 at h
  refine hh_aload_n dX12_next_21 rfl ?_
  refine hh_getI dX12_next_22 kf_X12_121 rf_128_7 rfl ?_
  refine hh_aload_n dX12_next_25 rfl ?_
  refine hh_getI dX12_next_26 kf_X12_130 rf_128_9 rfl ?_
  refine hh_icmp_ge (tgt := 59) dX12_next_29 (by decide) (fun c => ?_) (fun c => ?_)
  · replace h := h.1 c
    exact hh_forget [true, true, false] (w_X12_next_59 _ _ h)
  · replace h := h.2 c
    obtain ⟨q1, h⟩ := h
    refine hh_aload_n dX12_next_32 rfl ?_
    refine hh_getR dX12_next_33 kf_X12_22 rf_128_5 ?_
    refine hh_aload_n dX12_next_36 rfl ?_
    refine hh_getI dX12_next_37 kf_X12_121 rf_128_7 rfl ?_
    refine hh_iald dX12_next_40 ra_133 q1 rfl ?_
    refine hh_bipush dX12_next_41 (by decide) ?_
    refine hh_icmp_ne (tgt := 59) dX12_next_43 (by decide) (fun c => ?_) (fun c => ?_)
    · replace h := h.1 c
      exact hh_forget [true, true, false] (w_X12_next_59 _ _ h)
    · replace h := h.2 c
      obtain ⟨q1, h⟩ := h
      refine hh_aload_n dX12_next_46 rfl ?_
      refine hh_dup dX12_next_47 (fun _ => rfl) ?_
      refine hh_getI dX12_next_48 kf_X12_121 rf_128_7 rfl ?_
      refine hh_iconst dX12_next_51 (by decide) ?_
      refine hh_iadd dX12_next_52 q1 ?_
      refine hh_putI dX12_next_53 kp_X12_121 rf_128_7 ?_
      refine hh_goto (tgt := 21) dX12_next_56 (by decide) ?_
      exact hh_forget [true, true, false] (hk21 _ _ h)
theorem l_X12_next_21 {d : Nat} {Q : Int → hh_S → Prop} : ∀ (n : Nat) (x1 : Int) (σ : hh_S), hh_lp1 (B_X12_next_21 d Q) n x1 σ → hh_J (d + 1) hm_X12_next 21 [some (hh_R 128), some (hh_I x1), none] [] σ Q := by
  intro n
  induction n with
  | zero => intro _ _ h; exact h.elim
  | succ n ih => intro x1 σ h; exact w_X12_next_21 ih x1 σ h
set_option maxRecDepth 20000 in
theorem w_X12_next {d : Nat} {σ : hh_S} {Q : Int → hh_S → Prop} (h : P_X12_next d σ Q) : hh_J (d + 1) hm_X12_next 0 [some (hh_R 128), none, none] [] σ Q := by
  unfold P_X12_next at h
  refine hh_aload_n dX12_next_0 rfl ?_
  refine hh_getI dX12_next_1 kf_X12_117 rf_128_12 rfl ?_
  refine hh_if_eq (tgt := 8) dX12_next_4 (by decide) (fun c => ?_) (fun c => ?_)
  · replace h := h.1 c
    refine hh_aload_n dX12_next_8 rfl ?_
    refine hh_getI dX12_next_9 kf_X12_127 rf_128_8 rfl ?_
    refine hh_istore_n dX12_next_12 (by decide) rfl ?_
    refine hh_aload_n dX12_next_13 rfl ?_
    refine hh_aload_n dX12_next_14 rfl ?_
    refine hh_getI dX12_next_15 kf_X12_127 rf_128_8 rfl ?_
    refine hh_putI dX12_next_18 kp_X12_121 rf_128_7 ?_
    obtain ⟨n, h⟩ := h
    exact hh_forget [true, true, false] (l_X12_next_21 n _ _ h)
  · replace h := h.2 c
    exact hh_vreturn dX12_next_7 rfl h
theorem wp_X12_next {d : Nat} {σ : hh_S} {Q : Int → hh_S → Prop} (h : hh_cs σ → P_X12_next d σ Q) : hh_Sp (d + 1) hm_X12_next [hh_R 128] σ Q :=
  hh_entry rfl (Nat.le_of_ble_eq_true rfl) rfl (fun hs hc => w_X12_next (h hs))
def P_X12_emit (d : Nat) (a1 a2 : Int) (σ : hh_S) (Q : Int → hh_S → Prop) : Prop :=
  ((-2147483648 ≤ 241 * (σ 128 13) ∧ 241 * (σ 128 13) ≤ 2147483647) ∧ (-2147483648 ≤ 241 * (σ 128 13) + 1 ∧ 241 * (σ 128 13) + 1 ≤ 2147483647) ∧ (-2147483648 ≤ 2 * (σ 128 14) ∧ 2 * (σ 128 14) ≤ 2147483647) ∧ (-2147483648 ≤ 241 * (σ 128 13) + 1 + (2 * (σ 128 14)) ∧ 241 * (σ 128 13) + 1 + (2 * (σ 128 14)) ≤ 2147483647) ∧ (0 ≤ 241 * (σ 128 13) + 1 + (2 * (σ 128 14)) ∧ 241 * (σ 128 13) + 1 + (2 * (σ 128 14)) < 482) ∧ (-2147483648 ≤ 241 * (σ 128 13) + 1 + (2 * (σ 128 14)) + 1 ∧ 241 * (σ 128 13) + 1 + (2 * (σ 128 14)) + 1 ≤ 2147483647) ∧ (0 ≤ 241 * (σ 128 13) + 1 + (2 * (σ 128 14)) + 1 ∧ 241 * (σ 128 13) + 1 + (2 * (σ 128 14)) + 1 < 482) ∧ (-2147483648 ≤ σ 128 14 + 1 ∧ σ 128 14 + 1 ≤ 2147483647)) ∧ (Q 0 (hh_up (hh_up (hh_up σ 134 (241 * (σ 128 13) + 1 + (2 * (σ 128 14))) a1) 134 (241 * (σ 128 13) + 1 + (2 * (σ 128 14)) + 1) a2) 128 14 (σ 128 14 + 1)))
set_option maxRecDepth 20000 in
theorem w_X12_emit {d : Nat} {a1 a2 : Int} {σ : hh_S} {Q : Int → hh_S → Prop} (h : P_X12_emit d a1 a2 σ Q) : hh_J (d + 1) hm_X12_emit 0 [some (hh_R 128), some (hh_I a1), some (hh_I a2), none] [] σ Q := by
  unfold P_X12_emit at h
  obtain ⟨⟨q1, q2, q3, q4, q5, q6, q7, q8⟩, h⟩ := h
  refine hh_sipush dX12_emit_0 (by decide) ?_
  refine hh_aload_n dX12_emit_3 rfl ?_
  refine hh_getI dX12_emit_4 kf_X12_145 rf_128_13 rfl ?_
  refine hh_imul dX12_emit_7 q1 ?_
  refine hh_iconst dX12_emit_8 (by decide) ?_
  refine hh_iadd dX12_emit_9 q2 ?_
  refine hh_iconst dX12_emit_10 (by decide) ?_
  refine hh_aload_n dX12_emit_11 rfl ?_
  refine hh_getI dX12_emit_12 kf_X12_148 rf_128_14 rfl ?_
  refine hh_imul dX12_emit_15 q3 ?_
  refine hh_iadd dX12_emit_16 q4 ?_
  refine hh_istore_n dX12_emit_17 (by decide) rfl ?_
  refine hh_aload_n dX12_emit_18 rfl ?_
  refine hh_getR dX12_emit_19 kf_X12_25 rf_128_16 ?_
  refine hh_iload_n dX12_emit_22 rfl ?_
  refine hh_iload_n dX12_emit_23 rfl ?_
  refine hh_iast dX12_emit_24 ra_134 q5 ?_
  refine hh_aload_n dX12_emit_25 rfl ?_
  refine hh_getR dX12_emit_26 kf_X12_25 rf_128_16 ?_
  refine hh_iload_n dX12_emit_29 rfl ?_
  refine hh_iconst dX12_emit_30 (by decide) ?_
  refine hh_iadd dX12_emit_31 q6 ?_
  refine hh_iload_n dX12_emit_32 rfl ?_
  refine hh_iast dX12_emit_33 ra_134 q7 ?_
  refine hh_aload_n dX12_emit_34 rfl ?_
  refine hh_dup dX12_emit_35 (fun _ => rfl) ?_
  refine hh_getI dX12_emit_36 kf_X12_148 rf_128_14 rfl ?_
  refine hh_iconst dX12_emit_39 (by decide) ?_
  refine hh_iadd dX12_emit_40 q8 ?_
  refine hh_putI dX12_emit_41 kp_X12_148 rf_128_14 ?_
  exact hh_vreturn dX12_emit_44 rfl h
theorem wp_X12_emit {d : Nat} (a1 a2 : Int) {σ : hh_S} {Q : Int → hh_S → Prop} (h : hh_cs σ → hh_can a1 → hh_can a2 → P_X12_emit d a1 a2 σ Q) : hh_Sp (d + 1) hm_X12_emit [hh_R 128, hh_I a1, hh_I a2] σ Q :=
  hh_entry rfl (Nat.le_of_ble_eq_true rfl) rfl (fun hs hc => w_X12_emit (h hs (hc _ (List.mem_of_getElem? (i := 1) rfl)) (hc _ (List.mem_of_getElem? (i := 2) rfl))))
def B_X12_isName_42 (d : Nat) (Q : Int → hh_S → Prop) (σ : hh_S) : Prop :=
  Q 1 σ
def P_X12_isName (d : Nat) (a1 : Int) (σ : hh_S) (Q : Int → hh_S → Prop) : Prop :=
  (a1 = 110 → B_X12_isName_42 d Q σ) ∧ (¬ a1 = 110 → (a1 = 114 → B_X12_isName_42 d Q σ) ∧ (¬ a1 = 114 → (a1 = 107 → B_X12_isName_42 d Q σ) ∧ (¬ a1 = 107 → (a1 = 99 → B_X12_isName_42 d Q σ) ∧ (¬ a1 = 99 → (a1 = 103 → B_X12_isName_42 d Q σ) ∧ (¬ a1 = 103 → (a1 = 119 → B_X12_isName_42 d Q σ) ∧ (¬ a1 = 119 → (¬ a1 = 109 → Q 0 σ) ∧ (a1 = 109 → B_X12_isName_42 d Q σ)))))))
set_option maxRecDepth 20000 in
theorem w_X12_isName_42 {d : Nat} {Q : Int → hh_S → Prop} (σ : hh_S) (h : B_X12_isName_42 d Q σ) : hh_J (d + 1) hm_X12_isName 42 [none, none] [] σ Q := by
  unfold B_X12_isName_42 at h
  refine hh_iconst dX12_isName_42 (by decide) ?_
  refine hh_goto (tgt := 47) dX12_isName_43 (by decide) ?_
  exact hh_zreturn dX12_isName_47 rfl (by decide) h
set_option maxRecDepth 20000 in
theorem w_X12_isName {d : Nat} {a1 : Int} {σ : hh_S} {Q : Int → hh_S → Prop} (h : P_X12_isName d a1 σ Q) : hh_J (d + 1) hm_X12_isName 0 [some (hh_R 128), some (hh_I a1)] [] σ Q := by
  unfold P_X12_isName at h
  refine hh_iload_n dX12_isName_0 rfl ?_
  refine hh_bipush dX12_isName_1 (by decide) ?_
  refine hh_icmp_eq (tgt := 42) dX12_isName_3 (by decide) (fun c => ?_) (fun c => ?_)
  · replace h := h.1 c
    exact hh_forget [false, false] (w_X12_isName_42 _ h)
  · replace h := h.2 c
    refine hh_iload_n dX12_isName_6 rfl ?_
    refine hh_bipush dX12_isName_7 (by decide) ?_
    refine hh_icmp_eq (tgt := 42) dX12_isName_9 (by decide) (fun c => ?_) (fun c => ?_)
    · replace h := h.1 c
      exact hh_forget [false, false] (w_X12_isName_42 _ h)
    · replace h := h.2 c
      refine hh_iload_n dX12_isName_12 rfl ?_
      refine hh_bipush dX12_isName_13 (by decide) ?_
      refine hh_icmp_eq (tgt := 42) dX12_isName_15 (by decide) (fun c => ?_) (fun c => ?_)
      · replace h := h.1 c
        exact hh_forget [false, false] (w_X12_isName_42 _ h)
      · replace h := h.2 c
        refine hh_iload_n dX12_isName_18 rfl ?_
        refine hh_bipush dX12_isName_19 (by decide) ?_
        refine hh_icmp_eq (tgt := 42) dX12_isName_21 (by decide) (fun c => ?_) (fun c => ?_)
        · replace h := h.1 c
          exact hh_forget [false, false] (w_X12_isName_42 _ h)
        · replace h := h.2 c
          refine hh_iload_n dX12_isName_24 rfl ?_
          refine hh_bipush dX12_isName_25 (by decide) ?_
          refine hh_icmp_eq (tgt := 42) dX12_isName_27 (by decide) (fun c => ?_) (fun c => ?_)
          · replace h := h.1 c
            exact hh_forget [false, false] (w_X12_isName_42 _ h)
          · replace h := h.2 c
            refine hh_iload_n dX12_isName_30 rfl ?_
            refine hh_bipush dX12_isName_31 (by decide) ?_
            refine hh_icmp_eq (tgt := 42) dX12_isName_33 (by decide) (fun c => ?_) (fun c => ?_)
            · replace h := h.1 c
              exact hh_forget [false, false] (w_X12_isName_42 _ h)
            · replace h := h.2 c
              refine hh_iload_n dX12_isName_36 rfl ?_
              refine hh_bipush dX12_isName_37 (by decide) ?_
              refine hh_icmp_ne (tgt := 46) dX12_isName_39 (by decide) (fun c => ?_) (fun c => ?_)
              · replace h := h.1 c
                refine hh_iconst dX12_isName_46 (by decide) ?_
                exact hh_zreturn dX12_isName_47 rfl (by decide) h
              · replace h := h.2 c
                exact hh_forget [false, false] (w_X12_isName_42 _ h)
theorem wp_X12_isName {d : Nat} (a1 : Int) {σ : hh_S} {Q : Int → hh_S → Prop} (h : hh_cs σ → hh_can a1 → P_X12_isName d a1 σ Q) : hh_Sp (d + 1) hm_X12_isName [hh_R 128, hh_I a1] σ Q :=
  hh_entry rfl (Nat.le_of_ble_eq_true rfl) rfl (fun hs hc => w_X12_isName (h hs (hc _ (List.mem_of_getElem? (i := 1) rfl))))
def P_X12_isSign (d : Nat) (a1 : Int) (σ : hh_S) (Q : Int → hh_S → Prop) : Prop :=
  (¬ σ 128 10 = 3 → Q 0 σ) ∧ (σ 128 10 = 3 → ((0 ≤ σ 128 7 ∧ σ 128 7 < 120)) ∧ ((¬ σ 133 (σ 128 7) = a1 → Q 0 σ) ∧ (σ 133 (σ 128 7) = a1 → Q 1 σ)))
set_option maxRecDepth 20000 in
theorem w_X12_isSign {d : Nat} {a1 : Int} {σ : hh_S} {Q : Int → hh_S → Prop} (h : P_X12_isSign d a1 σ Q) : hh_J (d + 1) hm_X12_isSign 0 [some (hh_R 128), some (hh_I a1)] [] σ Q := by
  unfold P_X12_isSign at h
  refine hh_aload_n dX12_isSign_0 rfl ?_
  refine hh_getI dX12_isSign_1 kf_X12_133 rf_128_10 rfl ?_
  refine hh_iconst dX12_isSign_4 (by decide) ?_
  refine hh_icmp_ne (tgt := 25) dX12_isSign_5 (by decide) (fun c => ?_) (fun c => ?_)
  · replace h := h.1 c
    refine hh_iconst dX12_isSign_25 (by decide) ?_
    exact hh_zreturn dX12_isSign_26 rfl (by decide) h
  · replace h := h.2 c
    obtain ⟨q1, h⟩ := h
    refine hh_aload_n dX12_isSign_8 rfl ?_
    refine hh_getR dX12_isSign_9 kf_X12_22 rf_128_5 ?_
    refine hh_aload_n dX12_isSign_12 rfl ?_
    refine hh_getI dX12_isSign_13 kf_X12_121 rf_128_7 rfl ?_
    refine hh_iald dX12_isSign_16 ra_133 q1 rfl ?_
    refine hh_iload_n dX12_isSign_17 rfl ?_
    refine hh_icmp_ne (tgt := 25) dX12_isSign_18 (by decide) (fun c => ?_) (fun c => ?_)
    · replace h := h.1 c
      refine hh_iconst dX12_isSign_25 (by decide) ?_
      exact hh_zreturn dX12_isSign_26 rfl (by decide) h
    · replace h := h.2 c
      refine hh_iconst dX12_isSign_21 (by decide) ?_
      refine hh_goto (tgt := 26) dX12_isSign_22 (by decide) ?_
      exact hh_zreturn dX12_isSign_26 rfl (by decide) h
theorem wp_X12_isSign {d : Nat} (a1 : Int) {σ : hh_S} {Q : Int → hh_S → Prop} (h : hh_cs σ → hh_can a1 → P_X12_isSign d a1 σ Q) : hh_Sp (d + 1) hm_X12_isSign [hh_R 128, hh_I a1] σ Q :=
  hh_entry rfl (Nat.le_of_ble_eq_true rfl) rfl (fun hs hc => w_X12_isSign (h hs (hc _ (List.mem_of_getElem? (i := 1) rfl))))
