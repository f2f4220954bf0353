def B_X8_putFour_3 (d : Nat) (Q : Int → hh_S → Prop) (k3 : Int → Int → hh_S → Prop) (x1 x2 : Int) (σ : hh_S) : Prop :=
  (x2 < 0 → Q 0 σ) ∧ (¬ x2 < 0 → (120 ≤ σ 109 1 → Q 0 σ) ∧ (¬ 120 ≤ σ 109 1 → ((0 ≤ σ 109 1 ∧ σ 109 1 < 120) ∧ (-2147483648 ≤ σ 109 1 + 1 ∧ σ 109 1 + 1 ≤ 2147483647) ∧ (-2147483648 ≤ x2 + (-8) ∧ x2 + (-8) ≤ 2147483647)) ∧ (k3 x1 (x2 + (-8)) (hh_up (hh_up σ 110 (σ 109 1) (hh_i2b (hh_i2b (hh_shr x1 x2)))) 109 1 (σ 109 1 + 1)))))
def P_X8_putFour (d : Nat) (a1 : Int) (σ : hh_S) (Q : Int → hh_S → Prop) : Prop :=
  ∃ n, hh_lp2 (B_X8_putFour_3 d Q) n a1 24 σ
set_option maxRecDepth 20000 in
theorem w_X8_putFour_3 {d : Nat} {Q : Int → hh_S → Prop} {k3 : Int → Int → hh_S → Prop} (hk3 : ∀ (x1 x2 : Int) (σ : hh_S), k3 x1 x2 σ → hh_J (d + 1) hm_X8_putFour 3 [some (hh_R 109), some (hh_I x1), some (hh_I x2)] [] σ Q) (x1 x2 : Int) (σ : hh_S) (h : B_X8_putFour_3 d Q k3 x1 x2 σ) : hh_J (d + 1) hm_X8_putFour 3 [some (hh_R 109), some (hh_I x1), some (hh_I x2)] [] σ Q := by
  unfold B_X8_putFour_3 at h
  refine hh_iload_n dX8_putFour_3 rfl ?_
  refine hh_if_lt (tgt := 45) dX8_putFour_4 (by decide) (fun c => ?_) (fun c => ?_)
  · replace h := h.1 c
    exact hh_vreturn dX8_putFour_45 rfl h
  · replace h := h.2 c
    refine hh_aload_n dX8_putFour_7 rfl ?_
    refine hh_getI dX8_putFour_8 kf_X8_19 rf_109_1 rfl ?_
    refine hh_bipush dX8_putFour_11 (by decide) ?_
    refine hh_icmp_ge (tgt := 45) dX8_putFour_13 (by decide) (fun c => ?_) (fun c => ?_)
    · replace h := h.1 c
      exact hh_vreturn dX8_putFour_45 rfl h
    · replace h := h.2 c
      obtain ⟨⟨q1, q2, q3⟩, h⟩ := h
      refine hh_aload_n dX8_putFour_16 rfl ?_
      refine hh_getR dX8_putFour_17 kf_X8_9 rf_109_0 ?_
      refine hh_aload_n dX8_putFour_20 rfl ?_
      refine hh_getI dX8_putFour_21 kf_X8_19 rf_109_1 rfl ?_
      refine hh_iload_n dX8_putFour_24 rfl ?_
      refine hh_iload_n dX8_putFour_25 rfl ?_
      refine hh_ishr dX8_putFour_26 ?_
      refine hh_oi2b dX8_putFour_27 ?_
      refine hh_bast dX8_putFour_28 ra_110 q1 ?_
      refine hh_aload_n dX8_putFour_29 rfl ?_
      refine hh_dup dX8_putFour_30 (fun _ => rfl) ?_
      refine hh_getI dX8_putFour_31 kf_X8_19 rf_109_1 rfl ?_
      refine hh_iconst dX8_putFour_34 (by decide) ?_
      refine hh_iadd dX8_putFour_35 q2 ?_
      refine hh_putI dX8_putFour_36 kp_X8_19 rf_109_1 ?_
      refine hh_iinc dX8_putFour_39 (by decide) rfl rfl q3 ?_
      refine hh_goto (tgt := 3) dX8_putFour_42 (by decide) ?_
      exact hh_forget [true, true, true] (hk3 _ _ _ h)
theorem l_X8_putFour_3 {d : Nat} {Q : Int → hh_S → Prop} : ∀ (n : Nat) (x1 x2 : Int) (σ : hh_S), hh_lp2 (B_X8_putFour_3 d Q) n x1 x2 σ → hh_J (d + 1) hm_X8_putFour 3 [some (hh_R 109), some (hh_I x1), some (hh_I x2)] [] σ Q := by
  intro n
  induction n with
  | zero => intro _ _ _ h; exact h.elim
  | succ n ih => intro x1 x2 σ h; exact w_X8_putFour_3 ih x1 x2 σ h
set_option maxRecDepth 20000 in
theorem w_X8_putFour {d : Nat} {a1 : Int} {σ : hh_S} {Q : Int → hh_S → Prop} (h : P_X8_putFour d a1 σ Q) : hh_J (d + 1) hm_X8_putFour 0 [some (hh_R 109), some (hh_I a1), none] [] σ Q := by
  unfold P_X8_putFour at h
  refine hh_bipush dX8_putFour_0 (by decide) ?_
  refine hh_istore_n dX8_putFour_2 (by decide) rfl ?_
  obtain ⟨n, h⟩ := h
  exact hh_forget [true, true, true] (l_X8_putFour_3 n _ _ _ h)
theorem wp_X8_putFour {d : Nat} (a1 : Int) {σ : hh_S} {Q : Int → hh_S → Prop} (h : hh_cs σ → hh_can a1 → P_X8_putFour d a1 σ Q) : hh_Sp (d + 1) hm_X8_putFour [hh_R 109, hh_I a1] σ Q :=
  hh_entry rfl (Nat.le_of_ble_eq_true rfl) rfl (fun hs hc => w_X8_putFour (h hs (hc _ (List.mem_of_getElem? (i := 1) rfl))))
def P_X8_fail (d : Nat) (σ : hh_S) (Q : Int → hh_S → Prop) : Prop :=
  (¬ σ 109 11 = (-1000000005) → Q 0 σ) ∧ (σ 109 11 = (-1000000005) → Q 0 (hh_up σ 109 11 (σ 109 7)))
set_option maxRecDepth 20000 in
theorem w_X8_fail {d : Nat} {σ : hh_S} {Q : Int → hh_S → Prop} (h : P_X8_fail d σ Q) : hh_J (d + 1) hm_X8_fail 0 [some (hh_R 109)] [] σ Q := by
  unfold P_X8_fail at h
  refine hh_aload_n dX8_fail_0 rfl ?_
  refine hh_getI dX8_fail_1 kf_X8_36 rf_109_11 rfl ?_
  refine hh_ldc (n := -1000000005) dX8_fail_4 kc_X8_35 (by decide) ?_
  refine hh_icmp_ne (tgt := 17) dX8_fail_6 (by decide) (fun c => ?_) (fun c => ?_)
  · replace h := h.1 c
    exact hh_vreturn dX8_fail_17 rfl h
  · replace h := h.2 c
    refine hh_aload_n dX8_fail_9 rfl ?_
    refine hh_aload_n dX8_fail_10 rfl ?_
    refine hh_getI dX8_fail_11 kf_X8_65 rf_109_7 rfl ?_
    refine hh_putI dX8_fail_14 kp_X8_36 rf_109_11 ?_
    exact hh_vreturn dX8_fail_17 rfl h
theorem wp_X8_fail {d : Nat} {σ : hh_S} {Q : Int → hh_S → Prop} (h : hh_cs σ → P_X8_fail d σ Q) : hh_Sp (d + 1) hm_X8_fail [hh_R 109] σ Q :=
  hh_entry rfl (Nat.le_of_ble_eq_true rfl) rfl (fun hs hc => w_X8_fail (h hs))
def B_X8_isAtWord_i0_28 (d : Nat) (Q : Int → hh_S → Prop) (k28 : Int → hh_S → Prop) (x2 : Int) (σ : hh_S) : Prop :=
  hh_Sp d hm_J0_length_8abf5 [hh_R 1000] σ (fun r30 σ30 => (r30 ≤ x2 → Q 1 σ30) ∧ (¬ r30 ≤ x2 → ((-2147483648 ≤ σ30 109 7 + x2 ∧ σ30 109 7 + x2 ≤ 2147483647) ∧ (0 ≤ σ30 109 7 + x2 ∧ σ30 109 7 + x2 < 120)) ∧ (hh_Sp d hm_J0_charAt_5068e [hh_R 1000, hh_I x2] σ30 (fun r49 σ49 => (σ30 110 (σ30 109 7 + x2) = r49 → ((-2147483648 ≤ x2 + 1 ∧ x2 + 1 ≤ 2147483647)) ∧ (k28 (x2 + 1) σ49)) ∧ (¬ σ30 110 (σ30 109 7 + x2) = r49 → Q 0 σ49)))))
def P_X8_isAtWord_i0 (d : Nat) (σ : hh_S) (Q : Int → hh_S → Prop) : Prop :=
  (¬ σ 109 6 = 2 → Q 0 σ) ∧ (σ 109 6 = 2 → ((-2147483648 ≤ σ 109 8 - (σ 109 7) ∧ σ 109 8 - (σ 109 7) ≤ 2147483647)) ∧ (hh_Sp d hm_J0_length_8abf5 [hh_R 1000] σ (fun r18 σ18 => (σ 109 8 - (σ 109 7) = r18 → ∃ n, hh_lp1 (B_X8_isAtWord_i0_28 d Q) n 0 σ18) ∧ (¬ σ 109 8 - (σ 109 7) = r18 → Q 0 σ18))))
set_option maxRecDepth 20000 in
theorem w_X8_isAtWord_i0_28 {d : Nat} {Q : Int → hh_S → Prop} {k28 : Int → hh_S → Prop} (hk28 : ∀ (x2 : Int) (σ : hh_S), k28 x2 σ → hh_J (d + 1) hm_X8_isAtWord 28 [some (hh_R 109), some (hh_R 1000), some (hh_I x2)] [] σ Q) (x2 : Int) (σ : hh_S) (h : B_X8_isAtWord_i0_28 d Q k28 x2 σ) : hh_J (d + 1) hm_X8_isAtWord 28 [some (hh_R 109), some (hh_R 1000), some (hh_I x2)] [] σ Q := by
  unfold B_X8_isAtWord_i0_28 at h
  refine hh_iload_n dX8_isAtWord_28 rfl ?_
  refine hh_aload_n dX8_isAtWord_29 rfl ?_
  refine hh_cV0 dX8_isAtWord_30 lk_X8_86 mo_J0_length_8abf5 rc_1000 (Nat.le_of_ble_eq_true rfl) h (fun r30 σ30 h => ?_)
  refine hh_icmp_ge (tgt := 63) dX8_isAtWord_33 (by decide) (fun c => ?_) (fun c => ?_)
  · replace h := h.1 c
    refine hh_iconst dX8_isAtWord_63 (by decide) ?_
    exact hh_zreturn dX8_isAtWord_64 rfl (by decide) h
  · replace h := h.2 c
    obtain ⟨⟨q1, q2⟩, h⟩ := h
    refine hh_aload_n dX8_isAtWord_36 rfl ?_
    refine hh_getR dX8_isAtWord_37 kf_X8_9 rf_109_0 ?_
    refine hh_aload_n dX8_isAtWord_40 rfl ?_
    refine hh_getI dX8_isAtWord_41 kf_X8_65 rf_109_7 rfl ?_
    refine hh_iload_n dX8_isAtWord_44 rfl ?_
    refine hh_iadd dX8_isAtWord_45 q1 ?_
    refine hh_bald dX8_isAtWord_46 ra_110 q2 rfl ?_
    refine hh_aload_n dX8_isAtWord_47 rfl ?_
    refine hh_iload_n dX8_isAtWord_48 rfl ?_
    refine hh_cV1 dX8_isAtWord_49 lk_X8_92 mo_J0_charAt_5068e rc_1000 (Nat.le_of_ble_eq_true rfl) h (fun r49 σ49 h => ?_)
    refine hh_icmp_eq (tgt := 57) dX8_isAtWord_52 (by decide) (fun c => ?_) (fun c => ?_)
    · replace h := h.1 c
      obtain ⟨q1, h⟩ := h
      refine hh_iinc dX8_isAtWord_57 (by decide) rfl rfl q1 ?_
      refine hh_goto (tgt := 28) dX8_isAtWord_60 (by decide) ?_
      exact hh_forget [true, true, true] (hk28 _ _ h)
    · replace h := h.2 c
      refine hh_iconst dX8_isAtWord_55 (by decide) ?_
      exact hh_zreturn dX8_isAtWord_56 rfl (by decide) h
theorem l_X8_isAtWord_i0_28 {d : Nat} {Q : Int → hh_S → Prop} : ∀ (n : Nat) (x2 : Int) (σ : hh_S), hh_lp1 (B_X8_isAtWord_i0_28 d Q) n x2 σ → hh_J (d + 1) hm_X8_isAtWord 28 [some (hh_R 109), some (hh_R 1000), some (hh_I x2)] [] σ Q := by
  intro n
  induction n with
  | zero => intro _ _ h; exact h.elim
  | succ n ih => intro x2 σ h; exact w_X8_isAtWord_i0_28 ih x2 σ h
set_option maxRecDepth 20000 in
theorem w_X8_isAtWord_i0 {d : Nat} {σ : hh_S} {Q : Int → hh_S → Prop} (h : P_X8_isAtWord_i0 d σ Q) : hh_J (d + 1) hm_X8_isAtWord 0 [some (hh_R 109), some (hh_R 1000), none] [] σ Q := by
  unfold P_X8_isAtWord_i0 at h
  refine hh_aload_n dX8_isAtWord_0 rfl ?_
  refine hh_getI dX8_isAtWord_1 kf_X8_39 rf_109_6 rfl ?_
  refine hh_iconst dX8_isAtWord_4 (by decide) ?_
  refine hh_icmp_ne (tgt := 24) dX8_isAtWord_5 (by decide) (fun c => ?_) (fun c => ?_)
  · replace h := h.1 c
    refine hh_iconst dX8_isAtWord_24 (by decide) ?_
    exact hh_zreturn dX8_isAtWord_25 rfl (by decide) h
  · replace h := h.2 c
    obtain ⟨q1, h⟩ := h
    refine hh_aload_n dX8_isAtWord_8 rfl ?_
    refine hh_getI dX8_isAtWord_9 kf_X8_42 rf_109_8 rfl ?_
    refine hh_aload_n dX8_isAtWord_12 rfl ?_
    refine hh_getI dX8_isAtWord_13 kf_X8_65 rf_109_7 rfl ?_
    refine hh_isub dX8_isAtWord_16 q1 ?_
    refine hh_aload_n dX8_isAtWord_17 rfl ?_
    refine hh_cV0 dX8_isAtWord_18 lk_X8_86 mo_J0_length_8abf5 rc_1000 (Nat.le_of_ble_eq_true rfl) h (fun r18 σ18 h => ?_)
    refine hh_icmp_eq (tgt := 26) dX8_isAtWord_21 (by decide) (fun c => ?_) (fun c => ?_)
    · replace h := h.1 c
      refine hh_iconst dX8_isAtWord_26 (by decide) ?_
      refine hh_istore_n dX8_isAtWord_27 (by decide) rfl ?_
      obtain ⟨n, h⟩ := h
      exact hh_forget [true, true, true] (l_X8_isAtWord_i0_28 n _ _ h)
    · replace h := h.2 c
      refine hh_iconst dX8_isAtWord_24 (by decide) ?_
      exact hh_zreturn dX8_isAtWord_25 rfl (by decide) h
theorem wp_X8_isAtWord_i0 {d : Nat} {σ : hh_S} {Q : Int → hh_S → Prop} (h : hh_cs σ → P_X8_isAtWord_i0 d σ Q) : hh_Sp (d + 1) hm_X8_isAtWord [hh_R 109, hh_R 1000] σ Q :=
  hh_entry rfl (Nat.le_of_ble_eq_true rfl) rfl (fun hs hc => w_X8_isAtWord_i0 (h hs))
def P_X8_isDigit (d : Nat) (a0 : Int) (σ : hh_S) (Q : Int → hh_S → Prop) : Prop :=
  (a0 < 48 → Q 0 σ) ∧ (¬ a0 < 48 → (57 < a0 → Q 0 σ) ∧ (¬ 57 < a0 → Q 1 σ))
set_option maxRecDepth 20000 in
theorem w_X8_isDigit {d : Nat} {a0 : Int} {σ : hh_S} {Q : Int → hh_S → Prop} (h : P_X8_isDigit d a0 σ Q) : hh_J (d + 1) hm_X8_isDigit 0 [some (hh_I a0)] [] σ Q := by
  unfold P_X8_isDigit at h
  refine hh_iload_n dX8_isDigit_0 rfl ?_
  refine hh_bipush dX8_isDigit_1 (by decide) ?_
  refine hh_icmp_lt (tgt := 16) dX8_isDigit_3 (by decide) (fun c => ?_) (fun c => ?_)
  · replace h := h.1 c
    refine hh_iconst dX8_isDigit_16 (by decide) ?_
    exact hh_zreturn dX8_isDigit_17 rfl (by decide) h
  · replace h := h.2 c
    refine hh_iload_n dX8_isDigit_6 rfl ?_
    refine hh_bipush dX8_isDigit_7 (by decide) ?_
    refine hh_icmp_gt (tgt := 16) dX8_isDigit_9 (by decide) (fun c => ?_) (fun c => ?_)
    · replace h := h.1 c
      refine hh_iconst dX8_isDigit_16 (by decide) ?_
      exact hh_zreturn dX8_isDigit_17 rfl (by decide) h
    · replace h := h.2 c
      refine hh_iconst dX8_isDigit_12 (by decide) ?_
      refine hh_goto (tgt := 17) dX8_isDigit_13 (by decide) ?_
      exact hh_zreturn dX8_isDigit_17 rfl (by decide) h
theorem wp_X8_isDigit {d : Nat} (a0 : Int) {σ : hh_S} {Q : Int → hh_S → Prop} (h : hh_cs σ → hh_can a0 → P_X8_isDigit d a0 σ Q) : hh_Sp (d + 1) hm_X8_isDigit [hh_I a0] σ Q :=
  hh_entry rfl (Nat.le_of_ble_eq_true rfl) rfl (fun hs hc => w_X8_isDigit (h hs (hc _ (List.mem_of_getElem? (i := 0) rfl))))
def B_X8_endOfDigits_2 (d : Nat) (Q : Int → hh_S → Prop) (k2 : Int → hh_S → Prop) (x2 : Int) (σ : hh_S) : Prop :=
  (σ 109 1 ≤ x2 → Q x2 σ) ∧ (¬ σ 109 1 ≤ x2 → ((0 ≤ x2 ∧ x2 < 120)) ∧ (hh_Sp d hm_X8_isDigit [hh_I (σ 110 x2)] σ (fun r16 σ16 => (r16 = 0 → Q x2 σ16) ∧ (¬ r16 = 0 → ((-2147483648 ≤ x2 + 1 ∧ x2 + 1 ≤ 2147483647)) ∧ (k2 (x2 + 1) σ16)))))
def P_X8_endOfDigits (d : Nat) (a1 : Int) (σ : hh_S) (Q : Int → hh_S → Prop) : Prop :=
  ∃ n, hh_lp1 (B_X8_endOfDigits_2 d Q) n a1 σ
set_option maxRecDepth 20000 in
theorem w_X8_endOfDigits_2 {d : Nat} {Q : Int → hh_S → Prop} {k2 : Int → hh_S → Prop} (hk2 : ∀ (x2 : Int) (σ : hh_S), k2 x2 σ → hh_J (d + 1) hm_X8_endOfDigits 2 [some (hh_R 109), none, some (hh_I x2)] [] σ Q) (x2 : Int) (σ : hh_S) (h : B_X8_endOfDigits_2 d Q k2 x2 σ) : hh_J (d + 1) hm_X8_endOfDigits 2 [some (hh_R 109), none, some (hh_I x2)] [] σ Q := by
  unfold B_X8_endOfDigits_2 at h
  refine hh_iload_n dX8_endOfDigits_2 rfl ?_
  refine hh_aload_n dX8_endOfDigits_3 rfl ?_
  refine hh_getI dX8_endOfDigits_4 kf_X8_19 rf_109_1 rfl ?_
  refine hh_icmp_ge (tgt := 28) dX8_endOfDigits_7 (by decide) (fun c => ?_) (fun c => ?_)
  · replace h := h.1 c
    refine hh_iload_n dX8_endOfDigits_28 rfl ?_
    exact hh_ireturn dX8_endOfDigits_29 rfl h
  · replace h := h.2 c
    obtain ⟨q1, h⟩ := h
    refine hh_aload_n dX8_endOfDigits_10 rfl ?_
    refine hh_getR dX8_endOfDigits_11 kf_X8_9 rf_109_0 ?_
    refine hh_iload_n dX8_endOfDigits_14 rfl ?_
    refine hh_bald dX8_endOfDigits_15 ra_110 q1 rfl ?_
    refine hh_cS1 dX8_endOfDigits_16 lk_X8_68 mo_X8_isDigit (Nat.le_of_ble_eq_true rfl) h (fun r16 σ16 h => ?_)
    refine hh_if_eq (tgt := 28) dX8_endOfDigits_19 (by decide) (fun c => ?_) (fun c => ?_)
    · replace h := h.1 c
      refine hh_iload_n dX8_endOfDigits_28 rfl ?_
      exact hh_ireturn dX8_endOfDigits_29 rfl h
    · replace h := h.2 c
      obtain ⟨q1, h⟩ := h
      refine hh_iinc dX8_endOfDigits_22 (by decide) rfl rfl q1 ?_
      refine hh_goto (tgt := 2) dX8_endOfDigits_25 (by decide) ?_
      exact hh_forget [true, false, true] (hk2 _ _ h)
theorem l_X8_endOfDigits_2 {d : Nat} {Q : Int → hh_S → Prop} : ∀ (n : Nat) (x2 : Int) (σ : hh_S), hh_lp1 (B_X8_endOfDigits_2 d Q) n x2 σ → hh_J (d + 1) hm_X8_endOfDigits 2 [some (hh_R 109), none, some (hh_I x2)] [] σ Q := by
  intro n
  induction n with
  | zero => intro _ _ h; exact h.elim
  | succ n ih => intro x2 σ h; exact w_X8_endOfDigits_2 ih x2 σ h
set_option maxRecDepth 20000 in
theorem w_X8_endOfDigits {d : Nat} {a1 : Int} {σ : hh_S} {Q : Int → hh_S → Prop} (h : P_X8_endOfDigits d a1 σ Q) : hh_J (d + 1) hm_X8_endOfDigits 0 [some (hh_R 109), some (hh_I a1), none] [] σ Q := by
  unfold P_X8_endOfDigits at h
  refine hh_iload_n dX8_endOfDigits_0 rfl ?_
  refine hh_istore_n dX8_endOfDigits_1 (by decide) rfl ?_
  obtain ⟨n, h⟩ := h
  exact hh_forget [true, false, true] (l_X8_endOfDigits_2 n _ _ h)
theorem wp_X8_endOfDigits {d : Nat} (a1 : Int) {σ : hh_S} {Q : Int → hh_S → Prop} (h : hh_cs σ → hh_can a1 → P_X8_endOfDigits d a1 σ Q) : hh_Sp (d + 1) hm_X8_endOfDigits [hh_R 109, hh_I a1] σ Q :=
  hh_entry rfl (Nat.le_of_ble_eq_true rfl) rfl (fun hs hc => w_X8_endOfDigits (h hs (hc _ (List.mem_of_getElem? (i := 1) rfl))))
def P_X8_isLetter (d : Nat) (a0 : Int) (σ : hh_S) (Q : Int → hh_S → Prop) : Prop :=
  (a0 < 97 → Q 0 σ) ∧ (¬ a0 < 97 → (122 < a0 → Q 0 σ) ∧ (¬ 122 < a0 → Q 1 σ))
set_option maxRecDepth 20000 in
theorem w_X8_isLetter {d : Nat} {a0 : Int} {σ : hh_S} {Q : Int → hh_S → Prop} (h : P_X8_isLetter d a0 σ Q) : hh_J (d + 1) hm_X8_isLetter 0 [some (hh_I a0)] [] σ Q := by
  unfold P_X8_isLetter at h
  refine hh_iload_n dX8_isLetter_0 rfl ?_
  refine hh_bipush dX8_isLetter_1 (by decide) ?_
  refine hh_icmp_lt (tgt := 16) dX8_isLetter_3 (by decide) (fun c => ?_) (fun c => ?_)
  · replace h := h.1 c
    refine hh_iconst dX8_isLetter_16 (by decide) ?_
    exact hh_zreturn dX8_isLetter_17 rfl (by decide) h
  · replace h := h.2 c
    refine hh_iload_n dX8_isLetter_6 rfl ?_
    refine hh_bipush dX8_isLetter_7 (by decide) ?_
    refine hh_icmp_gt (tgt := 16) dX8_isLetter_9 (by decide) (fun c => ?_) (fun c => ?_)
    · replace h := h.1 c
      refine hh_iconst dX8_isLetter_16 (by decide) ?_
      exact hh_zreturn dX8_isLetter_17 rfl (by decide) h
    · replace h := h.2 c
      refine hh_iconst dX8_isLetter_12 (by decide) ?_
      refine hh_goto (tgt := 17) dX8_isLetter_13 (by decide) ?_
      exact hh_zreturn dX8_isLetter_17 rfl (by decide) h
theorem wp_X8_isLetter {d : Nat} (a0 : Int) {σ : hh_S} {Q : Int → hh_S → Prop} (h : hh_cs σ → hh_can a0 → P_X8_isLetter d a0 σ Q) : hh_Sp (d + 1) hm_X8_isLetter [hh_I a0] σ Q :=
  hh_entry rfl (Nat.le_of_ble_eq_true rfl) rfl (fun hs hc => w_X8_isLetter (h hs (hc _ (List.mem_of_getElem? (i := 0) rfl))))
def B_X8_endOfLetters_2 (d : Nat) (Q : Int → hh_S → Prop) (k2 : Int → hh_S → Prop) (x2 : Int) (σ : hh_S) : Prop :=
  (σ 109 1 ≤ x2 → Q x2 σ) ∧ (¬ σ 109 1 ≤ x2 → ((0 ≤ x2 ∧ x2 < 120)) ∧ (hh_Sp d hm_X8_isLetter [hh_I (σ 110 x2)] σ (fun r16 σ16 => (r16 = 0 → Q x2 σ16) ∧ (¬ r16 = 0 → ((-2147483648 ≤ x2 + 1 ∧ x2 + 1 ≤ 2147483647)) ∧ (k2 (x2 + 1) σ16)))))
def P_X8_endOfLetters (d : Nat) (a1 : Int) (σ : hh_S) (Q : Int → hh_S → Prop) : Prop :=
  ∃ n, hh_lp1 (B_X8_endOfLetters_2 d Q) n a1 σ
set_option maxRecDepth 20000 in
theorem w_X8_endOfLetters_2 {d : Nat} {Q : Int → hh_S → Prop} {k2 : Int → hh_S → Prop} (hk2 : ∀ (x2 : Int) (σ : hh_S), k2 x2 σ → hh_J (d + 1) hm_X8_endOfLetters 2 [some (hh_R 109), none, some (hh_I x2)] [] σ Q) (x2 : Int) (σ : hh_S) (h : B_X8_endOfLetters_2 d Q k2 x2 σ) : hh_J (d + 1) hm_X8_endOfLetters 2 [some (hh_R 109), none, some (hh_I x2)] [] σ Q := by
  unfold B_X8_endOfLetters_2 at h
  refine hh_iload_n dX8_endOfLetters_2 rfl ?_
  refine hh_aload_n dX8_endOfLetters_3 rfl ?_
  refine hh_getI dX8_endOfLetters_4 kf_X8_19 rf_109_1 rfl ?_
  refine hh_icmp_ge (tgt := 28) dX8_endOfLetters_7 (by decide) (fun c => ?_) (fun c => ?_)
  · replace h := h.1 c
    refine hh_iload_n dX8_endOfLetters_28 rfl ?_
    exact hh_ireturn dX8_endOfLetters_29 rfl h
  · replace h := h.2 c
    obtain ⟨q1, h⟩ := h
    refine hh_aload_n dX8_endOfLetters_10 rfl ?_
    refine hh_getR dX8_endOfLetters_11 kf_X8_9 rf_109_0 ?_
    refine hh_iload_n dX8_endOfLetters_14 rfl ?_
    refine hh_bald dX8_endOfLetters_15 ra_110 q1 rfl ?_
    refine hh_cS1 dX8_endOfLetters_16 lk_X8_76 mo_X8_isLetter (Nat.le_of_ble_eq_true rfl) h (fun r16 σ16 h => ?_)
    refine hh_if_eq (tgt := 28) dX8_endOfLetters_19 (by decide) (fun c => ?_) (fun c => ?_)
    · replace h := h.1 c
      refine hh_iload_n dX8_endOfLetters_28 rfl ?_
      exact hh_ireturn dX8_endOfLetters_29 rfl h
    · replace h := h.2 c
      obtain ⟨q1, h⟩ := h
      refine hh_iinc dX8_endOfLetters_22 (by decide) rfl rfl q1 ?_
      refine hh_goto (tgt := 2) dX8_endOfLetters_25 (by decide) ?_
      exact hh_forget [true, false, true] (hk2 _ _ h)
theorem l_X8_endOfLetters_2 {d : Nat} {Q : Int → hh_S → Prop} : ∀ (n : Nat) (x2 : Int) (σ : hh_S), hh_lp1 (B_X8_endOfLetters_2 d Q) n x2 σ → hh_J (d + 1) hm_X8_endOfLetters 2 [some (hh_R 109), none, some (hh_I x2)] [] σ Q := by
  intro n
  induction n with
  | zero => intro _ _ h; exact h.elim
  | succ n ih => intro x2 σ h; exact w_X8_endOfLetters_2 ih x2 σ h
set_option maxRecDepth 20000 in
theorem w_X8_endOfLetters {d : Nat} {a1 : Int} {σ : hh_S} {Q : Int → hh_S → Prop} (h : P_X8_endOfLetters d a1 σ Q) : hh_J (d + 1) hm_X8_endOfLetters 0 [some (hh_R 109), some (hh_I a1), none] [] σ Q := by
  unfold P_X8_endOfLetters at h
  refine hh_iload_n dX8_endOfLetters_0 rfl ?_
  refine hh_istore_n dX8_endOfLetters_1 (by decide) rfl ?_
  obtain ⟨n, h⟩ := h
  exact hh_forget [true, false, true] (l_X8_endOfLetters_2 n _ _ h)
theorem wp_X8_endOfLetters {d : Nat} (a1 : Int) {σ : hh_S} {Q : Int → hh_S → Prop} (h : hh_cs σ → hh_can a1 → P_X8_endOfLetters d a1 σ Q) : hh_Sp (d + 1) hm_X8_endOfLetters [hh_R 109, hh_I a1] σ Q :=
  hh_entry rfl (Nat.le_of_ble_eq_true rfl) rfl (fun hs hc => w_X8_endOfLetters (h hs (hc _ (List.mem_of_getElem? (i := 1) rfl))))
def B_X8_readNext_164 (d : Nat) (Q : Int → hh_S → Prop) (s1 : Int) (σ : hh_S) : Prop :=
  Q 0 (hh_up σ 109 6 s1)
def B_X8_readNext_127 (d : Nat) (Q : Int → hh_S → Prop) (s1 : Int) (σ : hh_S) : Prop :=
  Q 0 (hh_up σ 109 6 s1)
def B_X8_readNext_122 (d : Nat) (Q : Int → hh_S → Prop) (σ : hh_S) : Prop :=
  B_X8_readNext_127 d Q 4 σ
def B_X8_readNext_59 (d : Nat) (Q : Int → hh_S → Prop) (x1 s0 : Int) (σ : hh_S) : Prop :=
  (x1 < σ 109 1 → ((0 ≤ x1 ∧ x1 < 120)) ∧ (hh_Sp d hm_X8_isDigit [hh_I (σ 110 x1)] (hh_up σ 109 7 x1) (fun r92 σ92 => (r92 = 0 → ((0 ≤ x1 ∧ x1 < 120)) ∧ (hh_Sp d hm_X8_isLetter [hh_I (σ92 110 x1)] σ92 (fun r139 σ139 => (r139 = 0 → ((-2147483648 ≤ x1 + 1 ∧ x1 + 1 ≤ 2147483647)) ∧ (Q 0 (hh_up (hh_up σ139 109 8 (x1 + 1)) 109 6 3))) ∧ (¬ r139 = 0 → hh_Sp d hm_X8_endOfLetters [hh_R 109, hh_I x1] σ139 (fun r148 σ148 => (s0 = 0 → B_X8_readNext_164 d Q 2 (hh_up σ148 109 8 r148)) ∧ (¬ s0 = 0 → B_X8_readNext_164 d Q 4 (hh_up σ148 109 8 r148))))))) ∧ (¬ r92 = 0 → hh_Sp d hm_X8_endOfDigits [hh_R 109, hh_I x1] σ92 (fun r101 σ101 => (¬ s0 = 0 → B_X8_readNext_122 d Q (hh_up σ101 109 8 r101)) ∧ (s0 = 0 → ((-2147483648 ≤ r101 - x1 ∧ r101 - x1 ≤ 2147483647)) ∧ ((r101 - x1 ≤ 5 → B_X8_readNext_127 d Q 1 (hh_up σ101 109 8 r101)) ∧ (¬ r101 - x1 ≤ 5 → B_X8_readNext_122 d Q (hh_up σ101 109 8 r101))))))))) ∧ (¬ x1 < σ 109 1 → Q 0 (hh_up (hh_up (hh_up σ 109 7 x1) 109 8 x1) 109 6 0))
def B_X8_readNext_58 (d : Nat) (Q : Int → hh_S → Prop) (x1 : Int) (σ : hh_S) : Prop :=
  B_X8_readNext_59 d Q x1 0 σ
def B_X8_readNext_54 (d : Nat) (Q : Int → hh_S → Prop) (x1 : Int) (σ : hh_S) : Prop :=
  B_X8_readNext_59 d Q x1 1 σ
def B_X8_readNext_30 (d : Nat) (Q : Int → hh_S → Prop) (x1 : Int) (σ : hh_S) : Prop :=
  (¬ x1 = σ 109 8 → B_X8_readNext_58 d Q x1 σ) ∧ (x1 = σ 109 8 → (σ 109 6 = 1 → B_X8_readNext_54 d Q x1 σ) ∧ (¬ σ 109 6 = 1 → (¬ σ 109 6 = 2 → B_X8_readNext_58 d Q x1 σ) ∧ (σ 109 6 = 2 → B_X8_readNext_54 d Q x1 σ)))
def B_X8_readNext_5 (d : Nat) (Q : Int → hh_S → Prop) (k5 : Int → hh_S → Prop) (x1 : Int) (σ : hh_S) : Prop :=
  (σ 109 1 ≤ x1 → B_X8_readNext_30 d Q x1 σ) ∧ (¬ σ 109 1 ≤ x1 → ((0 ≤ x1 ∧ x1 < 120)) ∧ ((¬ σ 110 x1 = 32 → B_X8_readNext_30 d Q x1 σ) ∧ (σ 110 x1 = 32 → ((-2147483648 ≤ x1 + 1 ∧ x1 + 1 ≤ 2147483647)) ∧ (k5 (x1 + 1) σ))))
def P_X8_readNext (d : Nat) (σ : hh_S) (Q : Int → hh_S → Prop) : Prop :=
  ∃ n, hh_lp1 (B_X8_readNext_5 d Q) n (σ 109 8) σ
set_option maxRecDepth 20000 in
theorem w_X8_readNext_164 {d : Nat} {Q : Int → hh_S → Prop} (s1 : Int) (σ : hh_S) (h : B_X8_readNext_164 d Q s1 σ) : hh_J (d + 1) hm_X8_readNext 164 [none, none, none] [hh_I s1, hh_R 109] σ Q := by
  unfold B_X8_readNext_164 at h
  refine hh_putI dX8_readNext_164 kp_X8_39 rf_109_6 ?_
  refine hh_goto (tgt := 182) dX8_readNext_167 (by decide) ?_
  exact hh_vreturn dX8_readNext_182 rfl h
set_option maxRecDepth 20000 in
theorem w_X8_readNext_127 {d : Nat} {Q : Int → hh_S → Prop} (s1 : Int) (σ : hh_S) (h : B_X8_readNext_127 d Q s1 σ) : hh_J (d + 1) hm_X8_readNext 127 [none, none, none] [hh_I s1, hh_R 109] σ Q := by
  unfold B_X8_readNext_127 at h
  refine hh_putI dX8_readNext_127 kp_X8_39 rf_109_6 ?_
  refine hh_goto (tgt := 182) dX8_readNext_130 (by decide) ?_
  exact hh_vreturn dX8_readNext_182 rfl h
set_option maxRecDepth 20000 in
theorem w_X8_readNext_122 {d : Nat} {Q : Int → hh_S → Prop} (σ : hh_S) (h : B_X8_readNext_122 d Q σ) : hh_J (d + 1) hm_X8_readNext 122 [none, none, none] [hh_R 109] σ Q := by
  unfold B_X8_readNext_122 at h
  refine hh_iconst dX8_readNext_122 (by decide) ?_
  refine hh_goto (tgt := 127) dX8_readNext_123 (by decide) ?_
  exact hh_forget [false, false, false] (w_X8_readNext_127 _ _ h)
set_option maxRecDepth 20000 in
theorem w_X8_readNext_59 {d : Nat} {Q : Int → hh_S → Prop} (x1 s0 : Int) (σ : hh_S) (h : B_X8_readNext_59 d Q x1 s0 σ) : hh_J (d + 1) hm_X8_readNext 59 [some (hh_R 109), some (hh_I x1), none] [hh_I s0] σ Q := by
  unfold B_X8_readNext_59 at h
  refine hh_istore_n dX8_readNext_59 (by decide) rfl ?_
  refine hh_aload_n dX8_readNext_60 rfl ?_
  refine hh_iload_n dX8_readNext_61 rfl ?_
  refine hh_putI dX8_readNext_62 kp_X8_65 rf_109_7 ?_
  refine hh_iload_n dX8_readNext_65 rfl ?_
  refine hh_aload_n dX8_readNext_66 rfl ?_
  refine hh_getI dX8_readNext_67 kf_X8_19 rf_109_1 rfl ?_
  refine hh_icmp_lt (tgt := 86) dX8_readNext_70 (by decide) (fun c => ?_) (fun c => ?_)
  · replace h := h.1 c
    obtain ⟨q1, h⟩ := h
    refine hh_aload_n dX8_readNext_86 rfl ?_
    refine hh_getR dX8_readNext_87 kf_X8_9 rf_109_0 ?_
    refine hh_iload_n dX8_readNext_90 rfl ?_
    refine hh_bald dX8_readNext_91 ra_110 q1 rfl ?_
    refine hh_cS1 dX8_readNext_92 lk_X8_68 mo_X8_isDigit (Nat.le_of_ble_eq_true rfl) h (fun r92 σ92 h => ?_)
    refine hh_if_eq (tgt := 133) dX8_readNext_95 (by decide) (fun c => ?_) (fun c => ?_)
    · replace h := h.1 c
      obtain ⟨q1, h⟩ := h
      refine hh_aload_n dX8_readNext_133 rfl ?_
      refine hh_getR dX8_readNext_134 kf_X8_9 rf_109_0 ?_
      refine hh_iload_n dX8_readNext_137 rfl ?_
      refine hh_bald dX8_readNext_138 ra_110 q1 rfl ?_
      refine hh_cS1 dX8_readNext_139 lk_X8_76 mo_X8_isLetter (Nat.le_of_ble_eq_true rfl) h (fun r139 σ139 h => ?_)
      refine hh_if_eq (tgt := 170) dX8_readNext_142 (by decide) (fun c => ?_) (fun c => ?_)
      · replace h := h.1 c
        obtain ⟨q1, h⟩ := h
        refine hh_aload_n dX8_readNext_170 rfl ?_
        refine hh_iload_n dX8_readNext_171 rfl ?_
        refine hh_iconst dX8_readNext_172 (by decide) ?_
        refine hh_iadd dX8_readNext_173 q1 ?_
        refine hh_putI dX8_readNext_174 kp_X8_42 rf_109_8 ?_
        refine hh_aload_n dX8_readNext_177 rfl ?_
        refine hh_iconst dX8_readNext_178 (by decide) ?_
        refine hh_putI dX8_readNext_179 kp_X8_39 rf_109_6 ?_
        exact hh_vreturn dX8_readNext_182 rfl h
      · replace h := h.2 c
        refine hh_aload_n dX8_readNext_145 rfl ?_
        refine hh_aload_n dX8_readNext_146 rfl ?_
        refine hh_iload_n dX8_readNext_147 rfl ?_
        refine hh_cV1 dX8_readNext_148 lk_X8_79 mo_X8_endOfLetters rc_109 (Nat.le_of_ble_eq_true rfl) h (fun r148 σ148 h => ?_)
        refine hh_putI dX8_readNext_151 kp_X8_42 rf_109_8 ?_
        refine hh_aload_n dX8_readNext_154 rfl ?_
        refine hh_iload_n dX8_readNext_155 rfl ?_
        refine hh_if_eq (tgt := 163) dX8_readNext_156 (by decide) (fun c => ?_) (fun c => ?_)
        · replace h := h.1 c
          refine hh_iconst dX8_readNext_163 (by decide) ?_
          exact hh_forget [false, false, false] (w_X8_readNext_164 _ _ h)
        · replace h := h.2 c
          refine hh_iconst dX8_readNext_159 (by decide) ?_
          refine hh_goto (tgt := 164) dX8_readNext_160 (by decide) ?_
          exact hh_forget [false, false, false] (w_X8_readNext_164 _ _ h)
    · replace h := h.2 c
      refine hh_aload_n dX8_readNext_98 rfl ?_
      refine hh_aload_n dX8_readNext_99 rfl ?_
      refine hh_iload_n dX8_readNext_100 rfl ?_
      refine hh_cV1 dX8_readNext_101 lk_X8_72 mo_X8_endOfDigits rc_109 (Nat.le_of_ble_eq_true rfl) h (fun r101 σ101 h => ?_)
      refine hh_putI dX8_readNext_104 kp_X8_42 rf_109_8 ?_
      refine hh_aload_n dX8_readNext_107 rfl ?_
      refine hh_iload_n dX8_readNext_108 rfl ?_
      refine hh_if_ne (tgt := 122) dX8_readNext_109 (by decide) (fun c => ?_) (fun c => ?_)
      · replace h := h.1 c
        exact hh_forget [false, false, false] (w_X8_readNext_122 _ h)
      · replace h := h.2 c
        obtain ⟨q1, h⟩ := h
        refine hh_aload_n dX8_readNext_112 rfl ?_
        refine hh_getI dX8_readNext_113 kf_X8_42 rf_109_8 rfl ?_
        refine hh_iload_n dX8_readNext_116 rfl ?_
        refine hh_isub dX8_readNext_117 q1 ?_
        refine hh_iconst dX8_readNext_118 (by decide) ?_
        refine hh_icmp_le (tgt := 126) dX8_readNext_119 (by decide) (fun c => ?_) (fun c => ?_)
        · replace h := h.1 c
          refine hh_iconst dX8_readNext_126 (by decide) ?_
          exact hh_forget [false, false, false] (w_X8_readNext_127 _ _ h)
        · replace h := h.2 c
          exact hh_forget [false, false, false] (w_X8_readNext_122 _ h)
  · replace h := h.2 c
    refine hh_aload_n dX8_readNext_73 rfl ?_
    refine hh_iload_n dX8_readNext_74 rfl ?_
    refine hh_putI dX8_readNext_75 kp_X8_42 rf_109_8 ?_
    refine hh_aload_n dX8_readNext_78 rfl ?_
    refine hh_iconst dX8_readNext_79 (by decide) ?_
    refine hh_putI dX8_readNext_80 kp_X8_39 rf_109_6 ?_
    refine hh_goto (tgt := 182) dX8_readNext_83 (by decide) ?_
    exact hh_vreturn dX8_readNext_182 rfl h
set_option maxRecDepth 20000 in
theorem w_X8_readNext_58 {d : Nat} {Q : Int → hh_S → Prop} (x1 : Int) (σ : hh_S) (h : B_X8_readNext_58 d Q x1 σ) : hh_J (d + 1) hm_X8_readNext 58 [some (hh_R 109), some (hh_I x1), none] [] σ Q := by
  unfold B_X8_readNext_58 at h
  refine hh_iconst dX8_readNext_58 (by decide) ?_
  exact hh_forget [true, true, false] (w_X8_readNext_59 _ _ _ h)
set_option maxRecDepth 20000 in
theorem w_X8_readNext_54 {d : Nat} {Q : Int → hh_S → Prop} (x1 : Int) (σ : hh_S) (h : B_X8_readNext_54 d Q x1 σ) : hh_J (d + 1) hm_X8_readNext 54 [some (hh_R 109), some (hh_I x1), none] [] σ Q := by
  unfold B_X8_readNext_54 at h
  refine hh_iconst dX8_readNext_54 (by decide) ?_
  refine hh_goto (tgt := 59) dX8_readNext_55 (by decide) ?_
  exact hh_forget [true, true, false] (w_X8_readNext_59 _ _ _ h)
set_option maxRecDepth 20000 in
theorem w_X8_readNext_30 {d : Nat} {Q : Int → hh_S → Prop} (x1 : Int) (σ : hh_S) (h : B_X8_readNext_30 d Q x1 σ) : hh_J (d + 1) hm_X8_readNext 30 [some (hh_R 109), some (hh_I x1), none] [] σ Q := by
  unfold B_X8_readNext_30 at h
  refine hh_iload_n dX8_readNext_30 rfl ?_
  refine hh_aload_n dX8_readNext_31 rfl ?_
  refine hh_getI dX8_readNext_32 kf_X8_42 rf_109_8 rfl ?_
  refine hh_icmp_ne (tgt := 58) dX8_readNext_35 (by decide) (fun c => ?_) (fun c => ?_)
  · replace h := h.1 c
    exact hh_forget [true, true, false] (w_X8_readNext_58 _ _ h)
  · replace h := h.2 c
    refine hh_aload_n dX8_readNext_38 rfl ?_
    refine hh_getI dX8_readNext_39 kf_X8_39 rf_109_6 rfl ?_
    refine hh_iconst dX8_readNext_42 (by decide) ?_
    refine hh_icmp_eq (tgt := 54) dX8_readNext_43 (by decide) (fun c => ?_) (fun c => ?_)
    · replace h := h.1 c
      exact hh_forget [true, true, false] (w_X8_readNext_54 _ _ h)
    · replace h := h.2 c
      refine hh_aload_n dX8_readNext_46 rfl ?_
      refine hh_getI dX8_readNext_47 kf_X8_39 rf_109_6 rfl ?_
      refine hh_iconst dX8_readNext_50 (by decide) ?_
      refine hh_icmp_ne (tgt := 58) dX8_readNext_51 (by decide) (fun c => ?_) (fun c => ?_)
      · replace h := h.1 c
        exact hh_forget [true, true, false] (w_X8_readNext_58 _ _ h)
      · replace h := h.2 c
        exact hh_forget [true, true, false] (w_X8_readNext_54 _ _ h)
set_option maxRecDepth 20000 in
theorem w_X8_readNext_5 {d : Nat} {Q : Int → hh_S → Prop} {k5 : Int → hh_S → Prop} (hk5 : ∀ (x1 : Int) (σ : hh_S), k5 x1 σ → hh_J (d + 1) hm_X8_readNext 5 [some (hh_R 109), some (hh_I x1), none] [] σ Q) (x1 : Int) (σ : hh_S) (h : B_X8_readNext_5 d Q k5 x1 σ) : hh_J (d + 1) hm_X8_readNext 5 [some (hh_R 109), some (hh_I x1), none] [] σ Q := by
  unfold B_X8_readNext_5 at h
  refine hh_iload_n dX8_readNext_5 rfl ?_
  refine hh_aload_n dX8_readNext_6 rfl ?_
  refine hh_getI dX8_readNext_7 kf_X8_19 rf_109_1 rfl ?_
  refine hh_icmp_ge (tgt := 30) dX8_readNext_10 (by decide) (fun c => ?_) (fun c => ?_)
  · replace h := h.1 c
    exact hh_forget [true, true, false] (w_X8_readNext_30 _ _ h)
  · replace h := h.2 c
    obtain ⟨q1, h⟩ := h
    refine hh_aload_n dX8_readNext_13 rfl ?_
    refine hh_getR dX8_readNext_14 kf_X8_9 rf_109_0 ?_
    refine hh_iload_n dX8_readNext_17 rfl ?_
    refine hh_bald dX8_readNext_18 ra_110 q1 rfl ?_
    refine hh_bipush dX8_readNext_19 (by decide) ?_
    refine hh_icmp_ne (tgt := 30) dX8_readNext_21 (by decide) (fun c => ?_) (fun c => ?_)
    · replace h := h.1 c
      exact hh_forget [true, true, false] (w_X8_readNext_30 _ _ h)
    · replace h := h.2 c
      obtain ⟨q1, h⟩ := h
      refine hh_iinc dX8_readNext_24 (by decide) rfl rfl q1 ?_
      refine hh_goto (tgt := 5) dX8_readNext_27 (by decide) ?_
      exact hh_forget [true, true, false] (hk5 _ _ h)
theorem l_X8_readNext_5 {d : Nat} {Q : Int → hh_S → Prop} : ∀ (n : Nat) (x1 : Int) (σ : hh_S), hh_lp1 (B_X8_readNext_5 d Q) n x1 σ → hh_J (d + 1) hm_X8_readNext 5 [some (hh_R 109), some (hh_I x1), none] [] σ Q := by
  intro n
  induction n with
  | zero => intro _ _ h; exact h.elim
  | succ n ih => intro x1 σ h; exact w_X8_readNext_5 ih x1 σ h
set_option maxRecDepth 20000 in
theorem w_X8_readNext {d : Nat} {σ : hh_S} {Q : Int → hh_S → Prop} (h : P_X8_readNext d σ Q) : hh_J (d + 1) hm_X8_readNext 0 [some (hh_R 109), none, none] [] σ Q := by
  unfold P_X8_readNext at h
  refine hh_aload_n dX8_readNext_0 rfl ?_
  refine hh_getI dX8_readNext_1 kf_X8_42 rf_109_8 rfl ?_
  refine hh_istore_n dX8_readNext_4 (by decide) rfl ?_
  obtain ⟨n, h⟩ := h
  exact hh_forget [true, true, false] (l_X8_readNext_5 n _ _ h)
theorem wp_X8_readNext {d : Nat} {σ : hh_S} {Q : Int → hh_S → Prop} (h : hh_cs σ → P_X8_readNext d σ Q) : hh_Sp (d + 1) hm_X8_readNext [hh_R 109] σ Q :=
  hh_entry rfl (Nat.le_of_ble_eq_true rfl) rfl (fun hs hc => w_X8_readNext (h hs))
def P_X8_readKeyword_i0 (d : Nat) (σ : hh_S) (Q : Int → hh_S → Prop) : Prop :=
  (σ 109 11 = (-1000000005) → hh_Sp d hm_X8_isAtWord [hh_R 109, hh_R 1000] σ (fun r12 σ12 => (¬ r12 = 0 → hh_Sp d hm_X8_readNext [hh_R 109] σ12 (fun _ σ24 => Q 0 σ24)) ∧ (r12 = 0 → hh_Sp d hm_X8_fail [hh_R 109] σ12 (fun _ σ19 => Q 0 σ19)))) ∧ (¬ σ 109 11 = (-1000000005) → Q 0 σ)
set_option maxRecDepth 20000 in
theorem w_X8_readKeyword_i0 {d : Nat} {σ : hh_S} {Q : Int → hh_S → Prop} (h : P_X8_readKeyword_i0 d σ Q) : hh_J (d + 1) hm_X8_readKeyword 0 [some (hh_R 109), some (hh_R 1000)] [] σ Q := by
  unfold P_X8_readKeyword_i0 at h
  refine hh_aload_n dX8_readKeyword_0 rfl ?_
  refine hh_getI dX8_readKeyword_1 kf_X8_36 rf_109_11 rfl ?_
  refine hh_ldc (n := -1000000005) dX8_readKeyword_4 kc_X8_35 (by decide) ?_
  refine hh_icmp_eq (tgt := 10) dX8_readKeyword_6 (by decide) (fun c => ?_) (fun c => ?_)
  · replace h := h.1 c
    refine hh_aload_n dX8_readKeyword_10 rfl ?_
    refine hh_aload_n dX8_readKeyword_11 rfl ?_
    refine hh_cV1 dX8_readKeyword_12 lk_X8_82 mo_X8_isAtWord rc_109 (Nat.le_of_ble_eq_true rfl) h (fun r12 σ12 h => ?_)
    refine hh_if_ne (tgt := 23) dX8_readKeyword_15 (by decide) (fun c => ?_) (fun c => ?_)
    · replace h := h.1 c
      refine hh_aload_n dX8_readKeyword_23 rfl ?_
      refine hh_cV0 dX8_readKeyword_24 lk_X8_45 mo_X8_readNext rc_109 (Nat.le_of_ble_eq_true rfl) h (fun _ σ24 h => ?_)
      exact hh_vreturn dX8_readKeyword_27 rfl h
    · replace h := h.2 c
      refine hh_aload_n dX8_readKeyword_18 rfl ?_
      refine hh_cV0 dX8_readKeyword_19 lk_X8_62 mo_X8_fail rc_109 (Nat.le_of_ble_eq_true rfl) h (fun _ σ19 h => ?_)
      exact hh_vreturn dX8_readKeyword_22 rfl h
  · replace h := h.2 c
    exact hh_vreturn dX8_readKeyword_9 rfl h
theorem wp_X8_readKeyword_i0 {d : Nat} {σ : hh_S} {Q : Int → hh_S → Prop} (h : hh_cs σ → P_X8_readKeyword_i0 d σ Q) : hh_Sp (d + 1) hm_X8_readKeyword [hh_R 109, hh_R 1000] σ Q :=
  hh_entry rfl (Nat.le_of_ble_eq_true rfl) rfl (fun hs hc => w_X8_readKeyword_i0 (h hs))
def B_X8_isAtWord_i1_28 (d : Nat) (Q : Int → hh_S → Prop) (k28 : Int → hh_S → Prop) (x2 : Int) (σ : hh_S) : Prop :=
  hh_Sp d hm_J0_length_8abf5 [hh_R 1001] σ (fun r30 σ30 => (r30 ≤ x2 → Q 1 σ30) ∧ (¬ r30 ≤ x2 → ((-2147483648 ≤ σ30 109 7 + x2 ∧ σ30 109 7 + x2 ≤ 2147483647) ∧ (0 ≤ σ30 109 7 + x2 ∧ σ30 109 7 + x2 < 120)) ∧ (hh_Sp d hm_J0_charAt_5068e [hh_R 1001, hh_I x2] σ30 (fun r49 σ49 => (σ30 110 (σ30 109 7 + x2) = r49 → ((-2147483648 ≤ x2 + 1 ∧ x2 + 1 ≤ 2147483647)) ∧ (k28 (x2 + 1) σ49)) ∧ (¬ σ30 110 (σ30 109 7 + x2) = r49 → Q 0 σ49)))))
def P_X8_isAtWord_i1 (d : Nat) (σ : hh_S) (Q : Int → hh_S → Prop) : Prop :=
  (¬ σ 109 6 = 2 → Q 0 σ) ∧ (σ 109 6 = 2 → ((-2147483648 ≤ σ 109 8 - (σ 109 7) ∧ σ 109 8 - (σ 109 7) ≤ 2147483647)) ∧ (hh_Sp d hm_J0_length_8abf5 [hh_R 1001] σ (fun r18 σ18 => (σ 109 8 - (σ 109 7) = r18 → ∃ n, hh_lp1 (B_X8_isAtWord_i1_28 d Q) n 0 σ18) ∧ (¬ σ 109 8 - (σ 109 7) = r18 → Q 0 σ18))))
set_option maxRecDepth 20000 in
theorem w_X8_isAtWord_i1_28 {d : Nat} {Q : Int → hh_S → Prop} {k28 : Int → hh_S → Prop} (hk28 : ∀ (x2 : Int) (σ : hh_S), k28 x2 σ → hh_J (d + 1) hm_X8_isAtWord 28 [some (hh_R 109), some (hh_R 1001), some (hh_I x2)] [] σ Q) (x2 : Int) (σ : hh_S) (h : B_X8_isAtWord_i1_28 d Q k28 x2 σ) : hh_J (d + 1) hm_X8_isAtWord 28 [some (hh_R 109), some (hh_R 1001), some (hh_I x2)] [] σ Q := by
  unfold B_X8_isAtWord_i1_28 at h
  refine hh_iload_n dX8_isAtWord_28 rfl ?_
  refine hh_aload_n dX8_isAtWord_29 rfl ?_
  refine hh_cV0 dX8_isAtWord_30 lk_X8_86 mo_J0_length_8abf5 rc_1001 (Nat.le_of_ble_eq_true rfl) h (fun r30 σ30 h => ?_)
  refine hh_icmp_ge (tgt := 63) dX8_isAtWord_33 (by decide) (fun c => ?_) (fun c => ?_)
  · replace h := h.1 c
    refine hh_iconst dX8_isAtWord_63 (by decide) ?_
    exact hh_zreturn dX8_isAtWord_64 rfl (by decide) h
  · replace h := h.2 c
    obtain ⟨⟨q1, q2⟩, h⟩ := h
    refine hh_aload_n dX8_isAtWord_36 rfl ?_
    refine hh_getR dX8_isAtWord_37 kf_X8_9 rf_109_0 ?_
    refine hh_aload_n dX8_isAtWord_40 rfl ?_
    refine hh_getI dX8_isAtWord_41 kf_X8_65 rf_109_7 rfl ?_
    refine hh_iload_n dX8_isAtWord_44 rfl ?_
    refine hh_iadd dX8_isAtWord_45 q1 ?_
    refine hh_bald dX8_isAtWord_46 ra_110 q2 rfl ?_
    refine hh_aload_n dX8_isAtWord_47 rfl ?_
    refine hh_iload_n dX8_isAtWord_48 rfl ?_
    refine hh_cV1 dX8_isAtWord_49 lk_X8_92 mo_J0_charAt_5068e rc_1001 (Nat.le_of_ble_eq_true rfl) h (fun r49 σ49 h => ?_)
    refine hh_icmp_eq (tgt := 57) dX8_isAtWord_52 (by decide) (fun c => ?_) (fun c => ?_)
    · replace h := h.1 c
      obtain ⟨q1, h⟩ := h
      refine hh_iinc dX8_isAtWord_57 (by decide) rfl rfl q1 ?_
      refine hh_goto (tgt := 28) dX8_isAtWord_60 (by decide) ?_
      exact hh_forget [true, true, true] (hk28 _ _ h)
    · replace h := h.2 c
      refine hh_iconst dX8_isAtWord_55 (by decide) ?_
      exact hh_zreturn dX8_isAtWord_56 rfl (by decide) h
theorem l_X8_isAtWord_i1_28 {d : Nat} {Q : Int → hh_S → Prop} : ∀ (n : Nat) (x2 : Int) (σ : hh_S), hh_lp1 (B_X8_isAtWord_i1_28 d Q) n x2 σ → hh_J (d + 1) hm_X8_isAtWord 28 [some (hh_R 109), some (hh_R 1001), some (hh_I x2)] [] σ Q := by
  intro n
  induction n with
  | zero => intro _ _ h; exact h.elim
  | succ n ih => intro x2 σ h; exact w_X8_isAtWord_i1_28 ih x2 σ h
set_option maxRecDepth 20000 in
theorem w_X8_isAtWord_i1 {d : Nat} {σ : hh_S} {Q : Int → hh_S → Prop} (h : P_X8_isAtWord_i1 d σ Q) : hh_J (d + 1) hm_X8_isAtWord 0 [some (hh_R 109), some (hh_R 1001), none] [] σ Q := by
  unfold P_X8_isAtWord_i1 at h
  refine hh_aload_n dX8_isAtWord_0 rfl ?_
  refine hh_getI dX8_isAtWord_1 kf_X8_39 rf_109_6 rfl ?_
  refine hh_iconst dX8_isAtWord_4 (by decide) ?_
  refine hh_icmp_ne (tgt := 24) dX8_isAtWord_5 (by decide) (fun c => ?_) (fun c => ?_)
  · replace h := h.1 c
    refine hh_iconst dX8_isAtWord_24 (by decide) ?_
    exact hh_zreturn dX8_isAtWord_25 rfl (by decide) h
  · replace h := h.2 c
    obtain ⟨q1, h⟩ := h
    refine hh_aload_n dX8_isAtWord_8 rfl ?_
    refine hh_getI dX8_isAtWord_9 kf_X8_42 rf_109_8 rfl ?_
    refine hh_aload_n dX8_isAtWord_12 rfl ?_
    refine hh_getI dX8_isAtWord_13 kf_X8_65 rf_109_7 rfl ?_
    refine hh_isub dX8_isAtWord_16 q1 ?_
    refine hh_aload_n dX8_isAtWord_17 rfl ?_
    refine hh_cV0 dX8_isAtWord_18 lk_X8_86 mo_J0_length_8abf5 rc_1001 (Nat.le_of_ble_eq_true rfl) h (fun r18 σ18 h => ?_)
    refine hh_icmp_eq (tgt := 26) dX8_isAtWord_21 (by decide) (fun c => ?_) (fun c => ?_)
    · replace h := h.1 c
      refine hh_iconst dX8_isAtWord_26 (by decide) ?_
      refine hh_istore_n dX8_isAtWord_27 (by decide) rfl ?_
      obtain ⟨n, h⟩ := h
      exact hh_forget [true, true, true] (l_X8_isAtWord_i1_28 n _ _ h)
    · replace h := h.2 c
      refine hh_iconst dX8_isAtWord_24 (by decide) ?_
      exact hh_zreturn dX8_isAtWord_25 rfl (by decide) h
theorem wp_X8_isAtWord_i1 {d : Nat} {σ : hh_S} {Q : Int → hh_S → Prop} (h : hh_cs σ → P_X8_isAtWord_i1 d σ Q) : hh_Sp (d + 1) hm_X8_isAtWord [hh_R 109, hh_R 1001] σ Q :=
  hh_entry rfl (Nat.le_of_ble_eq_true rfl) rfl (fun hs hc => w_X8_isAtWord_i1 (h hs))
def P_X8_readKeyword_i1 (d : Nat) (σ : hh_S) (Q : Int → hh_S → Prop) : Prop :=
  (σ 109 11 = (-1000000005) → hh_Sp d hm_X8_isAtWord [hh_R 109, hh_R 1001] σ (fun r12 σ12 => (¬ r12 = 0 → hh_Sp d hm_X8_readNext [hh_R 109] σ12 (fun _ σ24 => Q 0 σ24)) ∧ (r12 = 0 → hh_Sp d hm_X8_fail [hh_R 109] σ12 (fun _ σ19 => Q 0 σ19)))) ∧ (¬ σ 109 11 = (-1000000005) → Q 0 σ)
set_option maxRecDepth 20000 in
theorem w_X8_readKeyword_i1 {d : Nat} {σ : hh_S} {Q : Int → hh_S → Prop} (h : P_X8_readKeyword_i1 d σ Q) : hh_J (d + 1) hm_X8_readKeyword 0 [some (hh_R 109), some (hh_R 1001)] [] σ Q := by
  unfold P_X8_readKeyword_i1 at h
  refine hh_aload_n dX8_readKeyword_0 rfl ?_
  refine hh_getI dX8_readKeyword_1 kf_X8_36 rf_109_11 rfl ?_
  refine hh_ldc (n := -1000000005) dX8_readKeyword_4 kc_X8_35 (by decide) ?_
  refine hh_icmp_eq (tgt := 10) dX8_readKeyword_6 (by decide) (fun c => ?_) (fun c => ?_)
  · replace h := h.1 c
    refine hh_aload_n dX8_readKeyword_10 rfl ?_
    refine hh_aload_n dX8_readKeyword_11 rfl ?_
    refine hh_cV1 dX8_readKeyword_12 lk_X8_82 mo_X8_isAtWord rc_109 (Nat.le_of_ble_eq_true rfl) h (fun r12 σ12 h => ?_)
    refine hh_if_ne (tgt := 23) dX8_readKeyword_15 (by decide) (fun c => ?_) (fun c => ?_)
    · replace h := h.1 c
      refine hh_aload_n dX8_readKeyword_23 rfl ?_
      refine hh_cV0 dX8_readKeyword_24 lk_X8_45 mo_X8_readNext rc_109 (Nat.le_of_ble_eq_true rfl) h (fun _ σ24 h => ?_)
      exact hh_vreturn dX8_readKeyword_27 rfl h
    · replace h := h.2 c
      refine hh_aload_n dX8_readKeyword_18 rfl ?_
      refine hh_cV0 dX8_readKeyword_19 lk_X8_62 mo_X8_fail rc_109 (Nat.le_of_ble_eq_true rfl) h (fun _ σ19 h => ?_)
      exact hh_vreturn dX8_readKeyword_22 rfl h
  · replace h := h.2 c
    exact hh_vreturn dX8_readKeyword_9 rfl h
theorem wp_X8_readKeyword_i1 {d : Nat} {σ : hh_S} {Q : Int → hh_S → Prop} (h : hh_cs σ → P_X8_readKeyword_i1 d σ Q) : hh_Sp (d + 1) hm_X8_readKeyword [hh_R 109, hh_R 1001] σ Q :=
  hh_entry rfl (Nat.le_of_ble_eq_true rfl) rfl (fun hs hc => w_X8_readKeyword_i1 (h hs))
def P_X8_isAtSign (d : Nat) (a1 : Int) (σ : hh_S) (Q : Int → hh_S → Prop) : Prop :=
  (¬ σ 109 11 = (-1000000005) → Q 0 σ) ∧ (σ 109 11 = (-1000000005) → (¬ σ 109 6 = 3 → Q 0 σ) ∧ (σ 109 6 = 3 → ((0 ≤ σ 109 7 ∧ σ 109 7 < 120)) ∧ ((¬ σ 110 (σ 109 7) = a1 → Q 0 σ) ∧ (σ 110 (σ 109 7) = a1 → Q 1 σ))))
set_option maxRecDepth 20000 in
theorem w_X8_isAtSign {d : Nat} {a1 : Int} {σ : hh_S} {Q : Int → hh_S → Prop} (h : P_X8_isAtSign d a1 σ Q) : hh_J (d + 1) hm_X8_isAtSign 0 [some (hh_R 109), some (hh_I a1)] [] σ Q := by
  unfold P_X8_isAtSign at h
  refine hh_aload_n dX8_isAtSign_0 rfl ?_
  refine hh_getI dX8_isAtSign_1 kf_X8_36 rf_109_11 rfl ?_
  refine hh_ldc (n := -1000000005) dX8_isAtSign_4 kc_X8_35 (by decide) ?_
  refine hh_icmp_ne (tgt := 34) dX8_isAtSign_6 (by decide) (fun c => ?_) (fun c => ?_)
  · replace h := h.1 c
    refine hh_iconst dX8_isAtSign_34 (by decide) ?_
    exact hh_zreturn dX8_isAtSign_35 rfl (by decide) h
  · replace h := h.2 c
    refine hh_aload_n dX8_isAtSign_9 rfl ?_
    refine hh_getI dX8_isAtSign_10 kf_X8_39 rf_109_6 rfl ?_
    refine hh_iconst dX8_isAtSign_13 (by decide) ?_
    refine hh_icmp_ne (tgt := 34) dX8_isAtSign_14 (by decide) (fun c => ?_) (fun c => ?_)
    · replace h := h.1 c
      refine hh_iconst dX8_isAtSign_34 (by decide) ?_
      exact hh_zreturn dX8_isAtSign_35 rfl (by decide) h
    · replace h := h.2 c
      obtain ⟨q1, h⟩ := h
      refine hh_aload_n dX8_isAtSign_17 rfl ?_
      refine hh_getR dX8_isAtSign_18 kf_X8_9 rf_109_0 ?_
      refine hh_aload_n dX8_isAtSign_21 rfl ?_
      refine hh_getI dX8_isAtSign_22 kf_X8_65 rf_109_7 rfl ?_
      refine hh_bald dX8_isAtSign_25 ra_110 q1 rfl ?_
      refine hh_iload_n dX8_isAtSign_26 rfl ?_
      refine hh_icmp_ne (tgt := 34) dX8_isAtSign_27 (by decide) (fun c => ?_) (fun c => ?_)
      · replace h := h.1 c
        refine hh_iconst dX8_isAtSign_34 (by decide) ?_
        exact hh_zreturn dX8_isAtSign_35 rfl (by decide) h
      · replace h := h.2 c
        refine hh_iconst dX8_isAtSign_30 (by decide) ?_
        refine hh_goto (tgt := 35) dX8_isAtSign_31 (by decide) ?_
        exact hh_zreturn dX8_isAtSign_35 rfl (by decide) h
theorem wp_X8_isAtSign {d : Nat} (a1 : Int) {σ : hh_S} {Q : Int → hh_S → Prop} (h : hh_cs σ → hh_can a1 → P_X8_isAtSign d a1 σ Q) : hh_Sp (d + 1) hm_X8_isAtSign [hh_R 109, hh_I a1] σ Q :=
  hh_entry rfl (Nat.le_of_ble_eq_true rfl) rfl (fun hs hc => w_X8_isAtSign (h hs (hc _ (List.mem_of_getElem? (i := 1) rfl))))
def P_X8_put (d : Nat) (a1 : Int) (σ : hh_S) (Q : Int → hh_S → Prop) : Prop :=
  (120 ≤ σ 109 3 → Q 0 σ) ∧ (¬ 120 ≤ σ 109 3 → ((0 ≤ σ 109 3 ∧ σ 109 3 < 120) ∧ (-2147483648 ≤ σ 109 3 + 1 ∧ σ 109 3 + 1 ≤ 2147483647)) ∧ (Q 0 (hh_up (hh_up σ 111 (σ 109 3) a1) 109 3 (σ 109 3 + 1))))
set_option maxRecDepth 20000 in
theorem w_X8_put {d : Nat} {a1 : Int} {σ : hh_S} {Q : Int → hh_S → Prop} (h : P_X8_put d a1 σ Q) : hh_J (d + 1) hm_X8_put 0 [some (hh_R 109), some (hh_I a1)] [] σ Q := by
  unfold P_X8_put at h
  refine hh_aload_n dX8_put_0 rfl ?_
  refine hh_getI dX8_put_1 kf_X8_23 rf_109_3 rfl ?_
  refine hh_aload_n dX8_put_4 rfl ?_
  refine hh_getR dX8_put_5 kf_X8_15 rf_109_2 ?_
  refine hh_alen dX8_put_8 ra_111 (by decide) ?_
  refine hh_icmp_ge (tgt := 32) dX8_put_9 (by decide) (fun c => ?_) (fun c => ?_)
  · replace h := h.1 c
    exact hh_vreturn dX8_put_32 rfl h
  · replace h := h.2 c
    obtain ⟨⟨q1, q2⟩, h⟩ := h
    refine hh_aload_n dX8_put_12 rfl ?_
    refine hh_getR dX8_put_13 kf_X8_15 rf_109_2 ?_
    refine hh_aload_n dX8_put_16 rfl ?_
    refine hh_getI dX8_put_17 kf_X8_23 rf_109_3 rfl ?_
    refine hh_iload_n dX8_put_20 rfl ?_
    refine hh_iast dX8_put_21 ra_111 q1 ?_
    refine hh_aload_n dX8_put_22 rfl ?_
    refine hh_dup dX8_put_23 (fun _ => rfl) ?_
    refine hh_getI dX8_put_24 kf_X8_23 rf_109_3 rfl ?_
    refine hh_iconst dX8_put_27 (by decide) ?_
    refine hh_iadd dX8_put_28 q2 ?_
    refine hh_putI dX8_put_29 kp_X8_23 rf_109_3 ?_
    exact hh_vreturn dX8_put_32 rfl h
theorem wp_X8_put {d : Nat} (a1 : Int) {σ : hh_S} {Q : Int → hh_S → Prop} (h : hh_cs σ → hh_can a1 → P_X8_put d a1 σ Q) : hh_Sp (d + 1) hm_X8_put [hh_R 109, hh_I a1] σ Q :=
  hh_entry rfl (Nat.le_of_ble_eq_true rfl) rfl (fun hs hc => w_X8_put (h hs (hc _ (List.mem_of_getElem? (i := 1) rfl))))
def P_X8_readBrackets (d : Nat) (σ : hh_S) (Q : Int → hh_S → Prop) : Prop :=
  ((-2147483648 ≤ σ 109 9 + 1 ∧ σ 109 9 + 1 ≤ 2147483647)) ∧ (hh_Sp d hm_X8_readNext [hh_R 109] (hh_up σ 109 9 (σ 109 9 + 1)) (fun _ σ11 => hh_Sp d hm_X8_readOr [hh_R 109] σ11 (fun _ σ15 => ((-2147483648 ≤ σ15 109 9 - 1 ∧ σ15 109 9 - 1 ≤ 2147483647)) ∧ (hh_Sp d hm_X8_isAtSign [hh_R 109, hh_I 41] (hh_up σ15 109 9 (σ15 109 9 - 1)) (fun r31 σ31 => (r31 = 0 → hh_Sp d hm_X8_fail [hh_R 109] σ31 (fun _ σ45 => Q 0 σ45)) ∧ (¬ r31 = 0 → hh_Sp d hm_X8_readNext [hh_R 109] σ31 (fun _ σ38 => Q 0 σ38)))))))
set_option maxRecDepth 20000 in
theorem w_X8_readBrackets {d : Nat} {σ : hh_S} {Q : Int → hh_S → Prop} (h : P_X8_readBrackets d σ Q) : hh_J (d + 1) hm_X8_readBrackets 0 [some (hh_R 109)] [] σ Q := by
  unfold P_X8_readBrackets at h
  obtain ⟨q1, h⟩ := h
  refine hh_aload_n dX8_readBrackets_0 rfl ?_
  refine hh_dup dX8_readBrackets_1 (fun _ => rfl) ?_
  refine hh_getI dX8_readBrackets_2 kf_X8_29 rf_109_9 rfl ?_
  refine hh_iconst dX8_readBrackets_5 (by decide) ?_
  refine hh_iadd dX8_readBrackets_6 q1 ?_
  refine hh_putI dX8_readBrackets_7 kp_X8_29 rf_109_9 ?_
  refine hh_aload_n dX8_readBrackets_10 rfl ?_
  refine hh_cV0 dX8_readBrackets_11 lk_X8_45 mo_X8_readNext rc_109 (Nat.le_of_ble_eq_true rfl) h (fun _ σ11 h => ?_)
  refine hh_aload_n dX8_readBrackets_14 rfl ?_
  refine hh_cV0 dX8_readBrackets_15 lk_X8_54 mo_X8_readOr rc_109 (Nat.le_of_ble_eq_true rfl) h (fun _ σ15 h => ?_)
  obtain ⟨q1, h⟩ := h
  refine hh_aload_n dX8_readBrackets_18 rfl ?_
  refine hh_dup dX8_readBrackets_19 (fun _ => rfl) ?_
  refine hh_getI dX8_readBrackets_20 kf_X8_29 rf_109_9 rfl ?_
  refine hh_iconst dX8_readBrackets_23 (by decide) ?_
  refine hh_isub dX8_readBrackets_24 q1 ?_
  refine hh_putI dX8_readBrackets_25 kp_X8_29 rf_109_9 ?_
  refine hh_aload_n dX8_readBrackets_28 rfl ?_
  refine hh_bipush dX8_readBrackets_29 (by decide) ?_
  refine hh_cV1 dX8_readBrackets_31 lk_X8_99 mo_X8_isAtSign rc_109 (Nat.le_of_ble_eq_true rfl) h (fun r31 σ31 h => ?_)
  refine hh_if_eq (tgt := 44) dX8_readBrackets_34 (by decide) (fun c => ?_) (fun c => ?_)
  · replace h := h.1 c
    refine hh_aload_n dX8_readBrackets_44 rfl ?_
    refine hh_cV0 dX8_readBrackets_45 lk_X8_62 mo_X8_fail rc_109 (Nat.le_of_ble_eq_true rfl) h (fun _ σ45 h => ?_)
    exact hh_vreturn dX8_readBrackets_48 rfl h
  · replace h := h.2 c
    refine hh_aload_n dX8_readBrackets_37 rfl ?_
    refine hh_cV0 dX8_readBrackets_38 lk_X8_45 mo_X8_readNext rc_109 (Nat.le_of_ble_eq_true rfl) h (fun _ σ38 h => ?_)
    refine hh_goto (tgt := 48) dX8_readBrackets_41 (by decide) ?_
    exact hh_vreturn dX8_readBrackets_48 rfl h
theorem wp_X8_readBrackets {d : Nat} {σ : hh_S} {Q : Int → hh_S → Prop} (h : hh_cs σ → P_X8_readBrackets d σ Q) : hh_Sp (d + 1) hm_X8_readBrackets [hh_R 109] σ Q :=
  hh_entry rfl (Nat.le_of_ble_eq_true rfl) rfl (fun hs hc => w_X8_readBrackets (h hs))
def B_X8_readNumber_44 (d : Nat) (Q : Int → hh_S → Prop) (x1 : Int) (σ : hh_S) : Prop :=
  hh_Sp d hm_X8_put [hh_R 109, hh_I x1] σ (fun _ σ46 => ((-2147483648 ≤ σ46 109 5 + 1 ∧ σ46 109 5 + 1 ≤ 2147483647)) ∧ (hh_Sp d hm_X8_readNext [hh_R 109] (hh_up σ46 109 5 (σ46 109 5 + 1)) (fun _ σ60 => Q 0 σ60)))
def B_X8_readNumber_7 (d : Nat) (Q : Int → hh_S → Prop) (k7 : Int → Int → hh_S → Prop) (x1 x2 : Int) (σ : hh_S) : Prop :=
  (σ 109 8 ≤ x2 → B_X8_readNumber_44 d Q x1 σ) ∧ (¬ σ 109 8 ≤ x2 → (σ 109 1 ≤ x2 → B_X8_readNumber_44 d Q x1 σ) ∧ (¬ σ 109 1 ≤ x2 → ((-2147483648 ≤ x1 * 10 ∧ x1 * 10 ≤ 2147483647) ∧ (0 ≤ x2 ∧ x2 < 120) ∧ (-2147483648 ≤ x1 * 10 + (σ 110 x2) ∧ x1 * 10 + (σ 110 x2) ≤ 2147483647) ∧ (-2147483648 ≤ x1 * 10 + (σ 110 x2) - 48 ∧ x1 * 10 + (σ 110 x2) - 48 ≤ 2147483647) ∧ (-2147483648 ≤ x2 + 1 ∧ x2 + 1 ≤ 2147483647)) ∧ (k7 (x1 * 10 + (σ 110 x2) - 48) (x2 + 1) σ)))
def P_X8_readNumber (d : Nat) (σ : hh_S) (Q : Int → hh_S → Prop) : Prop :=
  ∃ n, hh_lp2 (B_X8_readNumber_7 d Q) n 0 (σ 109 7) σ
set_option maxRecDepth 20000 in
theorem w_X8_readNumber_44 {d : Nat} {Q : Int → hh_S → Prop} (x1 : Int) (σ : hh_S) (h : B_X8_readNumber_44 d Q x1 σ) : hh_J (d + 1) hm_X8_readNumber 44 [some (hh_R 109), some (hh_I x1), none] [] σ Q := by
  unfold B_X8_readNumber_44 at h
  refine hh_aload_n dX8_readNumber_44 rfl ?_
  refine hh_iload_n dX8_readNumber_45 rfl ?_
  refine hh_cV1 dX8_readNumber_46 lk_X8_103 mo_X8_put rc_109 (Nat.le_of_ble_eq_true rfl) h (fun _ σ46 h => ?_)
  obtain ⟨q1, h⟩ := h
  refine hh_aload_n dX8_readNumber_49 rfl ?_
  refine hh_dup dX8_readNumber_50 (fun _ => rfl) ?_
  refine hh_getI dX8_readNumber_51 kf_X8_26 rf_109_5 rfl ?_
  refine hh_iconst dX8_readNumber_54 (by decide) ?_
  refine hh_iadd dX8_readNumber_55 q1 ?_
  refine hh_putI dX8_readNumber_56 kp_X8_26 rf_109_5 ?_
  refine hh_aload_n dX8_readNumber_59 rfl ?_
  refine hh_cV0 dX8_readNumber_60 lk_X8_45 mo_X8_readNext rc_109 (Nat.le_of_ble_eq_true rfl) h (fun _ σ60 h => ?_)
  exact hh_vreturn dX8_readNumber_63 rfl h
set_option maxRecDepth 20000 in
theorem w_X8_readNumber_7 {d : Nat} {Q : Int → hh_S → Prop} {k7 : Int → Int → hh_S → Prop} (hk7 : ∀ (x1 x2 : Int) (σ : hh_S), k7 x1 x2 σ → hh_J (d + 1) hm_X8_readNumber 7 [some (hh_R 109), some (hh_I x1), some (hh_I x2)] [] σ Q) (x1 x2 : Int) (σ : hh_S) (h : B_X8_readNumber_7 d Q k7 x1 x2 σ) : hh_J (d + 1) hm_X8_readNumber 7 [some (hh_R 109), some (hh_I x1), some (hh_I x2)] [] σ Q := by
  unfold B_X8_readNumber_7 at h
  refine hh_iload_n dX8_readNumber_7 rfl ?_
  refine hh_aload_n dX8_readNumber_8 rfl ?_
  refine hh_getI dX8_readNumber_9 kf_X8_42 rf_109_8 rfl ?_
  refine hh_icmp_ge (tgt := 44) dX8_readNumber_12 (by decide) (fun c => ?_) (fun c => ?_)
  · replace h := h.1 c
    exact hh_forget [true, true, false] (w_X8_readNumber_44 _ _ h)
  · replace h := h.2 c
    refine hh_iload_n dX8_readNumber_15 rfl ?_
    refine hh_aload_n dX8_readNumber_16 rfl ?_
    refine hh_getI dX8_readNumber_17 kf_X8_19 rf_109_1 rfl ?_
    refine hh_icmp_ge (tgt := 44) dX8_readNumber_20 (by decide) (fun c => ?_) (fun c => ?_)
    · replace h := h.1 c
      exact hh_forget [true, true, false] (w_X8_readNumber_44 _ _ h)
    · replace h := h.2 c
      obtain ⟨⟨q1, q2, q3, q4, q5⟩, h⟩ := h
      refine hh_iload_n dX8_readNumber_23 rfl ?_
      refine hh_bipush dX8_readNumber_24 (by decide) ?_
      refine hh_imul dX8_readNumber_26 q1 ?_
      refine hh_aload_n dX8_readNumber_27 rfl ?_
      refine hh_getR dX8_readNumber_28 kf_X8_9 rf_109_0 ?_
      refine hh_iload_n dX8_readNumber_31 rfl ?_
      refine hh_bald dX8_readNumber_32 ra_110 q2 rfl ?_
      refine hh_iadd dX8_readNumber_33 q3 ?_
      refine hh_bipush dX8_readNumber_34 (by decide) ?_
      refine hh_isub dX8_readNumber_36 q4 ?_
      refine hh_istore_n dX8_readNumber_37 (by decide) rfl ?_
      refine hh_iinc dX8_readNumber_38 (by decide) rfl rfl q5 ?_
      refine hh_goto (tgt := 7) dX8_readNumber_41 (by decide) ?_
      exact hh_forget [true, true, true] (hk7 _ _ _ h)
theorem l_X8_readNumber_7 {d : Nat} {Q : Int → hh_S → Prop} : ∀ (n : Nat) (x1 x2 : Int) (σ : hh_S), hh_lp2 (B_X8_readNumber_7 d Q) n x1 x2 σ → hh_J (d + 1) hm_X8_readNumber 7 [some (hh_R 109), some (hh_I x1), some (hh_I x2)] [] σ Q := by
  intro n
  induction n with
  | zero => intro _ _ _ h; exact h.elim
  | succ n ih => intro x1 x2 σ h; exact w_X8_readNumber_7 ih x1 x2 σ h
set_option maxRecDepth 20000 in
theorem w_X8_readNumber {d : Nat} {σ : hh_S} {Q : Int → hh_S → Prop} (h : P_X8_readNumber d σ Q) : hh_J (d + 1) hm_X8_readNumber 0 [some (hh_R 109), none, none] [] σ Q := by
  unfold P_X8_readNumber at h
  refine hh_iconst dX8_readNumber_0 (by decide) ?_
  refine hh_istore_n dX8_readNumber_1 (by decide) rfl ?_
  refine hh_aload_n dX8_readNumber_2 rfl ?_
  refine hh_getI dX8_readNumber_3 kf_X8_65 rf_109_7 rfl ?_
  refine hh_istore_n dX8_readNumber_6 (by decide) rfl ?_
  obtain ⟨n, h⟩ := h
  exact hh_forget [true, true, true] (l_X8_readNumber_7 n _ _ _ h)
theorem wp_X8_readNumber {d : Nat} {σ : hh_S} {Q : Int → hh_S → Prop} (h : hh_cs σ → P_X8_readNumber d σ Q) : hh_Sp (d + 1) hm_X8_readNumber [hh_R 109] σ Q :=
  hh_entry rfl (Nat.le_of_ble_eq_true rfl) rfl (fun hs hc => w_X8_readNumber (h hs))
def B_X8_readPart_177 (d : Nat) (Q : Int → hh_S → Prop) (σ : hh_S) : Prop :=
  hh_Sp d hm_X8_fail [hh_R 109] σ (fun _ σ178 => Q 0 σ178)
def B_X8_readPart_152 (d : Nat) (Q : Int → hh_S → Prop) (σ : hh_S) : Prop :=
  hh_Sp d hm_X8_isAtSign [hh_R 109, hh_I 40] σ (fun r155 σ155 => (r155 = 0 → B_X8_readPart_177 d Q σ155) ∧ (¬ r155 = 0 → (8 ≤ σ155 109 9 → B_X8_readPart_177 d Q σ155) ∧ (¬ 8 ≤ σ155 109 9 → hh_Sp d hm_X8_readBrackets [hh_R 109] σ155 (fun _ σ171 => Q 0 σ171))))
def B_X8_readPart_97 (d : Nat) (Q : Int → hh_S → Prop) (σ : hh_S) : Prop :=
  hh_Sp d hm_X8_isAtSign [hh_R 109, hh_I 33] σ (fun r100 σ100 => (r100 = 0 → B_X8_readPart_152 d Q σ100) ∧ (¬ r100 = 0 → (8 ≤ σ100 109 10 → B_X8_readPart_152 d Q σ100) ∧ (¬ 8 ≤ σ100 109 10 → ((-2147483648 ≤ σ100 109 10 + 1 ∧ σ100 109 10 + 1 ≤ 2147483647)) ∧ (hh_Sp d hm_X8_readNext [hh_R 109] (hh_up σ100 109 10 (σ100 109 10 + 1)) (fun _ σ126 => hh_Sp d hm_X8_readPart [hh_R 109] σ126 (fun _ σ130 => ((-2147483648 ≤ σ130 109 10 - 1 ∧ σ130 109 10 - 1 ≤ 2147483647)) ∧ (hh_Sp d hm_X8_put [hh_R 109, hh_I (-33)] (hh_up σ130 109 10 (σ130 109 10 - 1)) (fun _ σ146 => Q 0 σ146))))))))
def P_X8_readPart (d : Nat) (σ : hh_S) (Q : Int → hh_S → Prop) : Prop :=
  (σ 109 11 = (-1000000005) → (¬ σ 109 6 = 1 → (¬ σ 109 6 = 2 → B_X8_readPart_97 d Q σ) ∧ (σ 109 6 = 2 → ((-2147483648 ≤ σ 109 8 - (σ 109 7) ∧ σ 109 8 - (σ 109 7) ≤ 2147483647)) ∧ ((¬ σ 109 8 - (σ 109 7) = 1 → B_X8_readPart_97 d Q σ) ∧ (σ 109 8 - (σ 109 7) = 1 → ((0 ≤ σ 109 7 ∧ σ 109 7 < 120)) ∧ (hh_Sp d hm_J0_indexOf_0f7a4 [hh_R 1002, hh_I (hh_i2c (σ 110 (σ 109 7)))] σ (fun r58 σ58 => (r58 < 0 → B_X8_readPart_97 d Q σ58) ∧ (¬ r58 < 0 → ((0 ≤ σ58 109 7 ∧ σ58 109 7 < 120) ∧ (-2147483648 ≤ 100000 + (σ58 110 (σ58 109 7)) ∧ 100000 + (σ58 110 (σ58 109 7)) ≤ 2147483647)) ∧ (hh_Sp d hm_X8_put [hh_R 109, hh_I (100000 + (σ58 110 (σ58 109 7)))] σ58 (fun _ σ77 => ((-2147483648 ≤ σ77 109 5 + 1 ∧ σ77 109 5 + 1 ≤ 2147483647)) ∧ (hh_Sp d hm_X8_readNext [hh_R 109] (hh_up σ77 109 5 (σ77 109 5 + 1)) (fun _ σ91 => Q 0 σ91))))))))))) ∧ (σ 109 6 = 1 → hh_Sp d hm_X8_readNumber [hh_R 109] σ (fun _ σ19 => Q 0 σ19))) ∧ (¬ σ 109 11 = (-1000000005) → Q 0 σ)
set_option maxRecDepth 20000 in
theorem w_X8_readPart_177 {d : Nat} {Q : Int → hh_S → Prop} (σ : hh_S) (h : B_X8_readPart_177 d Q σ) : hh_J (d + 1) hm_X8_readPart 177 [some (hh_R 109)] [] σ Q := by
  unfold B_X8_readPart_177 at h
  refine hh_aload_n dX8_readPart_177 rfl ?_
  refine hh_cV0 dX8_readPart_178 lk_X8_62 mo_X8_fail rc_109 (Nat.le_of_ble_eq_true rfl) h (fun _ σ178 h => ?_)
  exact hh_vreturn dX8_readPart_181 rfl h
set_option maxRecDepth 20000 in
theorem w_X8_readPart_152 {d : Nat} {Q : Int → hh_S → Prop} (σ : hh_S) (h : B_X8_readPart_152 d Q σ) : hh_J (d + 1) hm_X8_readPart 152 [some (hh_R 109)] [] σ Q := by
  unfold B_X8_readPart_152 at h
  refine hh_aload_n dX8_readPart_152 rfl ?_
  refine hh_bipush dX8_readPart_153 (by decide) ?_
  refine hh_cV1 dX8_readPart_155 lk_X8_99 mo_X8_isAtSign rc_109 (Nat.le_of_ble_eq_true rfl) h (fun r155 σ155 h => ?_)
  refine hh_if_eq (tgt := 177) dX8_readPart_158 (by decide) (fun c => ?_) (fun c => ?_)
  · replace h := h.1 c
    exact hh_forget [true] (w_X8_readPart_177 _ h)
  · replace h := h.2 c
    refine hh_aload_n dX8_readPart_161 rfl ?_
    refine hh_getI dX8_readPart_162 kf_X8_29 rf_109_9 rfl ?_
    refine hh_bipush dX8_readPart_165 (by decide) ?_
    refine hh_icmp_ge (tgt := 177) dX8_readPart_167 (by decide) (fun c => ?_) (fun c => ?_)
    · replace h := h.1 c
      exact hh_forget [true] (w_X8_readPart_177 _ h)
    · replace h := h.2 c
      refine hh_aload_n dX8_readPart_170 rfl ?_
      refine hh_cV0 dX8_readPart_171 lk_X8_128 mo_X8_readBrackets rc_109 (Nat.le_of_ble_eq_true rfl) h (fun _ σ171 h => ?_)
      refine hh_goto (tgt := 181) dX8_readPart_174 (by decide) ?_
      exact hh_vreturn dX8_readPart_181 rfl h
set_option maxRecDepth 20000 in
theorem w_X8_readPart_97 {d : Nat} {Q : Int → hh_S → Prop} (σ : hh_S) (h : B_X8_readPart_97 d Q σ) : hh_J (d + 1) hm_X8_readPart 97 [some (hh_R 109)] [] σ Q := by
  unfold B_X8_readPart_97 at h
  refine hh_aload_n dX8_readPart_97 rfl ?_
  refine hh_bipush dX8_readPart_98 (by decide) ?_
  refine hh_cV1 dX8_readPart_100 lk_X8_99 mo_X8_isAtSign rc_109 (Nat.le_of_ble_eq_true rfl) h (fun r100 σ100 h => ?_)
  refine hh_if_eq (tgt := 152) dX8_readPart_103 (by decide) (fun c => ?_) (fun c => ?_)
  · replace h := h.1 c
    exact hh_forget [true] (w_X8_readPart_152 _ h)
  · replace h := h.2 c
    refine hh_aload_n dX8_readPart_106 rfl ?_
    refine hh_getI dX8_readPart_107 kf_X8_32 rf_109_10 rfl ?_
    refine hh_bipush dX8_readPart_110 (by decide) ?_
    refine hh_icmp_ge (tgt := 152) dX8_readPart_112 (by decide) (fun c => ?_) (fun c => ?_)
    · replace h := h.1 c
      exact hh_forget [true] (w_X8_readPart_152 _ h)
    · replace h := h.2 c
      obtain ⟨q1, h⟩ := h
      refine hh_aload_n dX8_readPart_115 rfl ?_
      refine hh_dup dX8_readPart_116 (fun _ => rfl) ?_
      refine hh_getI dX8_readPart_117 kf_X8_32 rf_109_10 rfl ?_
      refine hh_iconst dX8_readPart_120 (by decide) ?_
      refine hh_iadd dX8_readPart_121 q1 ?_
      refine hh_putI dX8_readPart_122 kp_X8_32 rf_109_10 ?_
      refine hh_aload_n dX8_readPart_125 rfl ?_
      refine hh_cV0 dX8_readPart_126 lk_X8_45 mo_X8_readNext rc_109 (Nat.le_of_ble_eq_true rfl) h (fun _ σ126 h => ?_)
      refine hh_aload_n dX8_readPart_129 rfl ?_
      refine hh_cV0 dX8_readPart_130 lk_X8_116 mo_X8_readPart rc_109 (Nat.le_of_ble_eq_true rfl) h (fun _ σ130 h => ?_)
      obtain ⟨q1, h⟩ := h
      refine hh_aload_n dX8_readPart_133 rfl ?_
      refine hh_dup dX8_readPart_134 (fun _ => rfl) ?_
      refine hh_getI dX8_readPart_135 kf_X8_32 rf_109_10 rfl ?_
      refine hh_iconst dX8_readPart_138 (by decide) ?_
      refine hh_isub dX8_readPart_139 q1 ?_
      refine hh_putI dX8_readPart_140 kp_X8_32 rf_109_10 ?_
      refine hh_aload_n dX8_readPart_143 rfl ?_
      refine hh_bipush dX8_readPart_144 (by decide) ?_
      refine hh_cV1 dX8_readPart_146 lk_X8_103 mo_X8_put rc_109 (Nat.le_of_ble_eq_true rfl) h (fun _ σ146 h => ?_)
      refine hh_goto (tgt := 181) dX8_readPart_149 (by decide) ?_
      exact hh_vreturn dX8_readPart_181 rfl h
set_option maxRecDepth 20000 in
theorem w_X8_readPart {d : Nat} {σ : hh_S} {Q : Int → hh_S → Prop} (h : P_X8_readPart d σ Q) : hh_J (d + 1) hm_X8_readPart 0 [some (hh_R 109)] [] σ Q := by
  unfold P_X8_readPart at h
  refine hh_aload_n dX8_readPart_0 rfl ?_
  refine hh_getI dX8_readPart_1 kf_X8_36 rf_109_11 rfl ?_
  refine hh_ldc (n := -1000000005) dX8_readPart_4 kc_X8_35 (by decide) ?_
  refine hh_icmp_eq (tgt := 10) dX8_readPart_6 (by decide) (fun c => ?_) (fun c => ?_)
  · replace h := h.1 c
    refine hh_aload_n dX8_readPart_10 rfl ?_
    refine hh_getI dX8_readPart_11 kf_X8_39 rf_109_6 rfl ?_
    refine hh_iconst dX8_readPart_14 (by decide) ?_
    refine hh_icmp_ne (tgt := 25) dX8_readPart_15 (by decide) (fun c => ?_) (fun c => ?_)
    · replace h := h.1 c
      refine hh_aload_n dX8_readPart_25 rfl ?_
      refine hh_getI dX8_readPart_26 kf_X8_39 rf_109_6 rfl ?_
      refine hh_iconst dX8_readPart_29 (by decide) ?_
      refine hh_icmp_ne (tgt := 97) dX8_readPart_30 (by decide) (fun c => ?_) (fun c => ?_)
      · replace h := h.1 c
        exact hh_forget [true] (w_X8_readPart_97 _ h)
      · replace h := h.2 c
        obtain ⟨q1, h⟩ := h
        refine hh_aload_n dX8_readPart_33 rfl ?_
        refine hh_getI dX8_readPart_34 kf_X8_42 rf_109_8 rfl ?_
        refine hh_aload_n dX8_readPart_37 rfl ?_
        refine hh_getI dX8_readPart_38 kf_X8_65 rf_109_7 rfl ?_
        refine hh_isub dX8_readPart_41 q1 ?_
        refine hh_iconst dX8_readPart_42 (by decide) ?_
        refine hh_icmp_ne (tgt := 97) dX8_readPart_43 (by decide) (fun c => ?_) (fun c => ?_)
        · replace h := h.1 c
          exact hh_forget [true] (w_X8_readPart_97 _ h)
        · replace h := h.2 c
          obtain ⟨q1, h⟩ := h
          refine hh_ldcS2 dX8_readPart_46 rfl ?_
          refine hh_aload_n dX8_readPart_48 rfl ?_
          refine hh_getR dX8_readPart_49 kf_X8_9 rf_109_0 ?_
          refine hh_aload_n dX8_readPart_52 rfl ?_
          refine hh_getI dX8_readPart_53 kf_X8_65 rf_109_7 rfl ?_
          refine hh_bald dX8_readPart_56 ra_110 q1 rfl ?_
          refine hh_oi2c dX8_readPart_57 ?_
          refine hh_cV1 dX8_readPart_58 lk_X8_124 mo_J0_indexOf_0f7a4 rc_1002 (Nat.le_of_ble_eq_true rfl) h (fun r58 σ58 h => ?_)
          refine hh_if_lt (tgt := 97) dX8_readPart_61 (by decide) (fun c => ?_) (fun c => ?_)
          · replace h := h.1 c
            exact hh_forget [true] (w_X8_readPart_97 _ h)
          · replace h := h.2 c
            obtain ⟨⟨q1, q2⟩, h⟩ := h
            refine hh_aload_n dX8_readPart_64 rfl ?_
            refine hh_ldc (n := 100000) dX8_readPart_65 kc_X8_127 (by decide) ?_
            refine hh_aload_n dX8_readPart_67 rfl ?_
            refine hh_getR dX8_readPart_68 kf_X8_9 rf_109_0 ?_
            refine hh_aload_n dX8_readPart_71 rfl ?_
            refine hh_getI dX8_readPart_72 kf_X8_65 rf_109_7 rfl ?_
            refine hh_bald dX8_readPart_75 ra_110 q1 rfl ?_
            refine hh_iadd dX8_readPart_76 q2 ?_
            refine hh_cV1 dX8_readPart_77 lk_X8_103 mo_X8_put rc_109 (Nat.le_of_ble_eq_true rfl) h (fun _ σ77 h => ?_)
            obtain ⟨q1, h⟩ := h
            refine hh_aload_n dX8_readPart_80 rfl ?_
            refine hh_dup dX8_readPart_81 (fun _ => rfl) ?_
            refine hh_getI dX8_readPart_82 kf_X8_26 rf_109_5 rfl ?_
            refine hh_iconst dX8_readPart_85 (by decide) ?_
            refine hh_iadd dX8_readPart_86 q1 ?_
            refine hh_putI dX8_readPart_87 kp_X8_26 rf_109_5 ?_
            refine hh_aload_n dX8_readPart_90 rfl ?_
            refine hh_cV0 dX8_readPart_91 lk_X8_45 mo_X8_readNext rc_109 (Nat.le_of_ble_eq_true rfl) h (fun _ σ91 h => ?_)
            refine hh_goto (tgt := 181) dX8_readPart_94 (by decide) ?_
            exact hh_vreturn dX8_readPart_181 rfl h
    · replace h := h.2 c
      refine hh_aload_n dX8_readPart_18 rfl ?_
      refine hh_cV0 dX8_readPart_19 lk_X8_119 mo_X8_readNumber rc_109 (Nat.le_of_ble_eq_true rfl) h (fun _ σ19 h => ?_)
      refine hh_goto (tgt := 181) dX8_readPart_22 (by decide) ?_
      exact hh_vreturn dX8_readPart_181 rfl h
  · replace h := h.2 c
    exact hh_vreturn dX8_readPart_9 rfl h
theorem wp_X8_readPart {d : Nat} {σ : hh_S} {Q : Int → hh_S → Prop} (h : hh_cs σ → P_X8_readPart d σ Q) : hh_Sp (d + 1) hm_X8_readPart [hh_R 109] σ Q :=
  hh_entry rfl (Nat.le_of_ble_eq_true rfl) rfl (fun hs hc => w_X8_readPart (h hs))
def B_X8_readTerm_30 (d : Nat) (Q : Int → hh_S → Prop) (k6 : Int → hh_S → Prop) (x1 : Int) (σ : hh_S) : Prop :=
  ((0 ≤ σ 109 7 ∧ σ 109 7 < 120)) ∧ (hh_Sp d hm_X8_readNext [hh_R 109] σ (fun _ σ41 => hh_Sp d hm_X8_readPart [hh_R 109] σ41 (fun _ σ45 => ((-2147483648 ≤ -(σ 110 (σ 109 7)) ∧ -(σ 110 (σ 109 7)) ≤ 2147483647)) ∧ (hh_Sp d hm_X8_put [hh_R 109, hh_I (-(σ 110 (σ 109 7)))] σ45 (fun _ σ51 => ((-2147483648 ≤ x1 + 1 ∧ x1 + 1 ≤ 2147483647)) ∧ (k6 (x1 + 1) σ51))))))
def B_X8_readTerm_6 (d : Nat) (Q : Int → hh_S → Prop) (k6 : Int → hh_S → Prop) (x1 : Int) (σ : hh_S) : Prop :=
  (120 ≤ x1 → Q 0 σ) ∧ (¬ 120 ≤ x1 → hh_Sp d hm_X8_isAtSign [hh_R 109, hh_I 42] σ (fun r15 σ15 => (¬ r15 = 0 → B_X8_readTerm_30 d Q k6 x1 σ15) ∧ (r15 = 0 → hh_Sp d hm_X8_isAtSign [hh_R 109, hh_I 47] σ15 (fun r24 σ24 => (r24 = 0 → Q 0 σ24) ∧ (¬ r24 = 0 → B_X8_readTerm_30 d Q k6 x1 σ24)))))
def P_X8_readTerm (d : Nat) (σ : hh_S) (Q : Int → hh_S → Prop) : Prop :=
  hh_Sp d hm_X8_readPart [hh_R 109] σ (fun _ σ1 => ∃ n, hh_lp1 (B_X8_readTerm_6 d Q) n 0 σ1)
set_option maxRecDepth 20000 in
theorem w_X8_readTerm_30 {d : Nat} {Q : Int → hh_S → Prop} {k6 : Int → hh_S → Prop} (hk6 : ∀ (x1 : Int) (σ : hh_S), k6 x1 σ → hh_J (d + 1) hm_X8_readTerm 6 [some (hh_R 109), some (hh_I x1), none] [] σ Q) (x1 : Int) (σ : hh_S) (h : B_X8_readTerm_30 d Q k6 x1 σ) : hh_J (d + 1) hm_X8_readTerm 30 [some (hh_R 109), some (hh_I x1), none] [] σ Q := by
  unfold B_X8_readTerm_30 at h
  obtain ⟨q1, h⟩ := h
  refine hh_aload_n dX8_readTerm_30 rfl ?_
  refine hh_getR dX8_readTerm_31 kf_X8_9 rf_109_0 ?_
  refine hh_aload_n dX8_readTerm_34 rfl ?_
  refine hh_getI dX8_readTerm_35 kf_X8_65 rf_109_7 rfl ?_
  refine hh_bald dX8_readTerm_38 ra_110 q1 rfl ?_
  refine hh_istore_n dX8_readTerm_39 (by decide) rfl ?_
  refine hh_aload_n dX8_readTerm_40 rfl ?_
  refine hh_cV0 dX8_readTerm_41 lk_X8_45 mo_X8_readNext rc_109 (Nat.le_of_ble_eq_true rfl) h (fun _ σ41 h => ?_)
  refine hh_aload_n dX8_readTerm_44 rfl ?_
  refine hh_cV0 dX8_readTerm_45 lk_X8_116 mo_X8_readPart rc_109 (Nat.le_of_ble_eq_true rfl) h (fun _ σ45 h => ?_)
  obtain ⟨q1, h⟩ := h
  refine hh_aload_n dX8_readTerm_48 rfl ?_
  refine hh_iload_n dX8_readTerm_49 rfl ?_
  refine hh_ineg dX8_readTerm_50 q1 ?_
  refine hh_cV1 dX8_readTerm_51 lk_X8_103 mo_X8_put rc_109 (Nat.le_of_ble_eq_true rfl) h (fun _ σ51 h => ?_)
  obtain ⟨q1, h⟩ := h
  refine hh_iinc dX8_readTerm_54 (by decide) rfl rfl q1 ?_
  refine hh_goto (tgt := 6) dX8_readTerm_57 (by decide) ?_
  exact hh_forget [true, true, false] (hk6 _ _ h)
set_option maxRecDepth 20000 in
theorem w_X8_readTerm_6 {d : Nat} {Q : Int → hh_S → Prop} {k6 : Int → hh_S → Prop} (hk6 : ∀ (x1 : Int) (σ : hh_S), k6 x1 σ → hh_J (d + 1) hm_X8_readTerm 6 [some (hh_R 109), some (hh_I x1), none] [] σ Q) (x1 : Int) (σ : hh_S) (h : B_X8_readTerm_6 d Q k6 x1 σ) : hh_J (d + 1) hm_X8_readTerm 6 [some (hh_R 109), some (hh_I x1), none] [] σ Q := by
  unfold B_X8_readTerm_6 at h
  refine hh_iload_n dX8_readTerm_6 rfl ?_
  refine hh_bipush dX8_readTerm_7 (by decide) ?_
  refine hh_icmp_ge (tgt := 60) dX8_readTerm_9 (by decide) (fun c => ?_) (fun c => ?_)
  · replace h := h.1 c
    exact hh_vreturn dX8_readTerm_60 rfl h
  · replace h := h.2 c
    refine hh_aload_n dX8_readTerm_12 rfl ?_
    refine hh_bipush dX8_readTerm_13 (by decide) ?_
    refine hh_cV1 dX8_readTerm_15 lk_X8_99 mo_X8_isAtSign rc_109 (Nat.le_of_ble_eq_true rfl) h (fun r15 σ15 h => ?_)
    refine hh_if_ne (tgt := 30) dX8_readTerm_18 (by decide) (fun c => ?_) (fun c => ?_)
    · replace h := h.1 c
      exact hh_forget [true, true, false] (w_X8_readTerm_30 hk6 _ _ h)
    · replace h := h.2 c
      refine hh_aload_n dX8_readTerm_21 rfl ?_
      refine hh_bipush dX8_readTerm_22 (by decide) ?_
      refine hh_cV1 dX8_readTerm_24 lk_X8_99 mo_X8_isAtSign rc_109 (Nat.le_of_ble_eq_true rfl) h (fun r24 σ24 h => ?_)
      refine hh_if_eq (tgt := 60) dX8_readTerm_27 (by decide) (fun c => ?_) (fun c => ?_)
      · replace h := h.1 c
        exact hh_vreturn dX8_readTerm_60 rfl h
      · replace h := h.2 c
        exact hh_forget [true, true, false] (w_X8_readTerm_30 hk6 _ _ h)
theorem l_X8_readTerm_6 {d : Nat} {Q : Int → hh_S → Prop} : ∀ (n : Nat) (x1 : Int) (σ : hh_S), hh_lp1 (B_X8_readTerm_6 d Q) n x1 σ → hh_J (d + 1) hm_X8_readTerm 6 [some (hh_R 109), some (hh_I x1), none] [] σ Q := by
  intro n
  induction n with
  | zero => intro _ _ h; exact h.elim
  | succ n ih => intro x1 σ h; exact w_X8_readTerm_6 ih x1 σ h
set_option maxRecDepth 20000 in
theorem w_X8_readTerm {d : Nat} {σ : hh_S} {Q : Int → hh_S → Prop} (h : P_X8_readTerm d σ Q) : hh_J (d + 1) hm_X8_readTerm 0 [some (hh_R 109), none, none] [] σ Q := by
  unfold P_X8_readTerm at h
  refine hh_aload_n dX8_readTerm_0 rfl ?_
  refine hh_cV0 dX8_readTerm_1 lk_X8_116 mo_X8_readPart rc_109 (Nat.le_of_ble_eq_true rfl) h (fun _ σ1 h => ?_)
  refine hh_iconst dX8_readTerm_4 (by decide) ?_
  refine hh_istore_n dX8_readTerm_5 (by decide) rfl ?_
  obtain ⟨n, h⟩ := h
  exact hh_forget [true, true, false] (l_X8_readTerm_6 n _ _ h)
theorem wp_X8_readTerm {d : Nat} {σ : hh_S} {Q : Int → hh_S → Prop} (h : hh_cs σ → P_X8_readTerm d σ Q) : hh_Sp (d + 1) hm_X8_readTerm [hh_R 109] σ Q :=
  hh_entry rfl (Nat.le_of_ble_eq_true rfl) rfl (fun hs hc => w_X8_readTerm (h hs))
def B_X8_readSum_30 (d : Nat) (Q : Int → hh_S → Prop) (k6 : Int → hh_S → Prop) (x1 : Int) (σ : hh_S) : Prop :=
  ((0 ≤ σ 109 7 ∧ σ 109 7 < 120)) ∧ (hh_Sp d hm_X8_readNext [hh_R 109] σ (fun _ σ41 => hh_Sp d hm_X8_readTerm [hh_R 109] σ41 (fun _ σ45 => ((-2147483648 ≤ -(σ 110 (σ 109 7)) ∧ -(σ 110 (σ 109 7)) ≤ 2147483647)) ∧ (hh_Sp d hm_X8_put [hh_R 109, hh_I (-(σ 110 (σ 109 7)))] σ45 (fun _ σ51 => ((-2147483648 ≤ x1 + 1 ∧ x1 + 1 ≤ 2147483647)) ∧ (k6 (x1 + 1) σ51))))))
def B_X8_readSum_6 (d : Nat) (Q : Int → hh_S → Prop) (k6 : Int → hh_S → Prop) (x1 : Int) (σ : hh_S) : Prop :=
  (120 ≤ x1 → Q 0 σ) ∧ (¬ 120 ≤ x1 → hh_Sp d hm_X8_isAtSign [hh_R 109, hh_I 43] σ (fun r15 σ15 => (¬ r15 = 0 → B_X8_readSum_30 d Q k6 x1 σ15) ∧ (r15 = 0 → hh_Sp d hm_X8_isAtSign [hh_R 109, hh_I 45] σ15 (fun r24 σ24 => (r24 = 0 → Q 0 σ24) ∧ (¬ r24 = 0 → B_X8_readSum_30 d Q k6 x1 σ24)))))
def P_X8_readSum (d : Nat) (σ : hh_S) (Q : Int → hh_S → Prop) : Prop :=
  hh_Sp d hm_X8_readTerm [hh_R 109] σ (fun _ σ1 => ∃ n, hh_lp1 (B_X8_readSum_6 d Q) n 0 σ1)
set_option maxRecDepth 20000 in
theorem w_X8_readSum_30 {d : Nat} {Q : Int → hh_S → Prop} {k6 : Int → hh_S → Prop} (hk6 : ∀ (x1 : Int) (σ : hh_S), k6 x1 σ → hh_J (d + 1) hm_X8_readSum 6 [some (hh_R 109), some (hh_I x1), none] [] σ Q) (x1 : Int) (σ : hh_S) (h : B_X8_readSum_30 d Q k6 x1 σ) : hh_J (d + 1) hm_X8_readSum 30 [some (hh_R 109), some (hh_I x1), none] [] σ Q := by
  unfold B_X8_readSum_30 at h
  obtain ⟨q1, h⟩ := h
  refine hh_aload_n dX8_readSum_30 rfl ?_
  refine hh_getR dX8_readSum_31 kf_X8_9 rf_109_0 ?_
  refine hh_aload_n dX8_readSum_34 rfl ?_
  refine hh_getI dX8_readSum_35 kf_X8_65 rf_109_7 rfl ?_
  refine hh_bald dX8_readSum_38 ra_110 q1 rfl ?_
  refine hh_istore_n dX8_readSum_39 (by decide) rfl ?_
  refine hh_aload_n dX8_readSum_40 rfl ?_
  refine hh_cV0 dX8_readSum_41 lk_X8_45 mo_X8_readNext rc_109 (Nat.le_of_ble_eq_true rfl) h (fun _ σ41 h => ?_)
  refine hh_aload_n dX8_readSum_44 rfl ?_
  refine hh_cV0 dX8_readSum_45 lk_X8_113 mo_X8_readTerm rc_109 (Nat.le_of_ble_eq_true rfl) h (fun _ σ45 h => ?_)
  obtain ⟨q1, h⟩ := h
  refine hh_aload_n dX8_readSum_48 rfl ?_
  refine hh_iload_n dX8_readSum_49 rfl ?_
  refine hh_ineg dX8_readSum_50 q1 ?_
  refine hh_cV1 dX8_readSum_51 lk_X8_103 mo_X8_put rc_109 (Nat.le_of_ble_eq_true rfl) h (fun _ σ51 h => ?_)
  obtain ⟨q1, h⟩ := h
  refine hh_iinc dX8_readSum_54 (by decide) rfl rfl q1 ?_
  refine hh_goto (tgt := 6) dX8_readSum_57 (by decide) ?_
  exact hh_forget [true, true, false] (hk6 _ _ h)
set_option maxRecDepth 20000 in
theorem w_X8_readSum_6 {d : Nat} {Q : Int → hh_S → Prop} {k6 : Int → hh_S → Prop} (hk6 : ∀ (x1 : Int) (σ : hh_S), k6 x1 σ → hh_J (d + 1) hm_X8_readSum 6 [some (hh_R 109), some (hh_I x1), none] [] σ Q) (x1 : Int) (σ : hh_S) (h : B_X8_readSum_6 d Q k6 x1 σ) : hh_J (d + 1) hm_X8_readSum 6 [some (hh_R 109), some (hh_I x1), none] [] σ Q := by
  unfold B_X8_readSum_6 at h
  refine hh_iload_n dX8_readSum_6 rfl ?_
  refine hh_bipush dX8_readSum_7 (by decide) ?_
  refine hh_icmp_ge (tgt := 60) dX8_readSum_9 (by decide) (fun c => ?_) (fun c => ?_)
  · replace h := h.1 c
    exact hh_vreturn dX8_readSum_60 rfl h
  · replace h := h.2 c
    refine hh_aload_n dX8_readSum_12 rfl ?_
    refine hh_bipush dX8_readSum_13 (by decide) ?_
    refine hh_cV1 dX8_readSum_15 lk_X8_99 mo_X8_isAtSign rc_109 (Nat.le_of_ble_eq_true rfl) h (fun r15 σ15 h => ?_)
    refine hh_if_ne (tgt := 30) dX8_readSum_18 (by decide) (fun c => ?_) (fun c => ?_)
    · replace h := h.1 c
      exact hh_forget [true, true, false] (w_X8_readSum_30 hk6 _ _ h)
    · replace h := h.2 c
      refine hh_aload_n dX8_readSum_21 rfl ?_
      refine hh_bipush dX8_readSum_22 (by decide) ?_
      refine hh_cV1 dX8_readSum_24 lk_X8_99 mo_X8_isAtSign rc_109 (Nat.le_of_ble_eq_true rfl) h (fun r24 σ24 h => ?_)
      refine hh_if_eq (tgt := 60) dX8_readSum_27 (by decide) (fun c => ?_) (fun c => ?_)
      · replace h := h.1 c
        exact hh_vreturn dX8_readSum_60 rfl h
      · replace h := h.2 c
        exact hh_forget [true, true, false] (w_X8_readSum_30 hk6 _ _ h)
theorem l_X8_readSum_6 {d : Nat} {Q : Int → hh_S → Prop} : ∀ (n : Nat) (x1 : Int) (σ : hh_S), hh_lp1 (B_X8_readSum_6 d Q) n x1 σ → hh_J (d + 1) hm_X8_readSum 6 [some (hh_R 109), some (hh_I x1), none] [] σ Q := by
  intro n
  induction n with
  | zero => intro _ _ h; exact h.elim
  | succ n ih => intro x1 σ h; exact w_X8_readSum_6 ih x1 σ h
set_option maxRecDepth 20000 in
theorem w_X8_readSum {d : Nat} {σ : hh_S} {Q : Int → hh_S → Prop} (h : P_X8_readSum d σ Q) : hh_J (d + 1) hm_X8_readSum 0 [some (hh_R 109), none, none] [] σ Q := by
  unfold P_X8_readSum at h
  refine hh_aload_n dX8_readSum_0 rfl ?_
  refine hh_cV0 dX8_readSum_1 lk_X8_113 mo_X8_readTerm rc_109 (Nat.le_of_ble_eq_true rfl) h (fun _ σ1 h => ?_)
  refine hh_iconst dX8_readSum_4 (by decide) ?_
  refine hh_istore_n dX8_readSum_5 (by decide) rfl ?_
  obtain ⟨n, h⟩ := h
  exact hh_forget [true, true, false] (l_X8_readSum_6 n _ _ h)
theorem wp_X8_readSum {d : Nat} {σ : hh_S} {Q : Int → hh_S → Prop} (h : hh_cs σ → P_X8_readSum d σ Q) : hh_Sp (d + 1) hm_X8_readSum [hh_R 109] σ Q :=
  hh_entry rfl (Nat.le_of_ble_eq_true rfl) rfl (fun hs hc => w_X8_readSum (h hs))
def B_X8_readTest_31 (d : Nat) (Q : Int → hh_S → Prop) (σ : hh_S) : Prop :=
  ((0 ≤ σ 109 7 ∧ σ 109 7 < 120)) ∧ (hh_Sp d hm_X8_readNext [hh_R 109] σ (fun _ σ42 => hh_Sp d hm_X8_readSum [hh_R 109] σ42 (fun _ σ46 => ((-2147483648 ≤ -(σ 110 (σ 109 7)) ∧ -(σ 110 (σ 109 7)) ≤ 2147483647)) ∧ (hh_Sp d hm_X8_put [hh_R 109, hh_I (-(σ 110 (σ 109 7)))] σ46 (fun _ σ52 => Q 0 σ52)))))
def P_X8_readTest (d : Nat) (σ : hh_S) (Q : Int → hh_S → Prop) : Prop :=
  hh_Sp d hm_X8_readSum [hh_R 109] σ (fun _ σ1 => hh_Sp d hm_X8_isAtSign [hh_R 109, hh_I 60] σ1 (fun r7 σ7 => (¬ r7 = 0 → B_X8_readTest_31 d Q σ7) ∧ (r7 = 0 → hh_Sp d hm_X8_isAtSign [hh_R 109, hh_I 61] σ7 (fun r16 σ16 => (¬ r16 = 0 → B_X8_readTest_31 d Q σ16) ∧ (r16 = 0 → hh_Sp d hm_X8_isAtSign [hh_R 109, hh_I 62] σ16 (fun r25 σ25 => (r25 = 0 → Q 0 σ25) ∧ (¬ r25 = 0 → B_X8_readTest_31 d Q σ25)))))))
set_option maxRecDepth 20000 in
theorem w_X8_readTest_31 {d : Nat} {Q : Int → hh_S → Prop} (σ : hh_S) (h : B_X8_readTest_31 d Q σ) : hh_J (d + 1) hm_X8_readTest 31 [some (hh_R 109), none] [] σ Q := by
  unfold B_X8_readTest_31 at h
  obtain ⟨q1, h⟩ := h
  refine hh_aload_n dX8_readTest_31 rfl ?_
  refine hh_getR dX8_readTest_32 kf_X8_9 rf_109_0 ?_
  refine hh_aload_n dX8_readTest_35 rfl ?_
  refine hh_getI dX8_readTest_36 kf_X8_65 rf_109_7 rfl ?_
  refine hh_bald dX8_readTest_39 ra_110 q1 rfl ?_
  refine hh_istore_n dX8_readTest_40 (by decide) rfl ?_
  refine hh_aload_n dX8_readTest_41 rfl ?_
  refine hh_cV0 dX8_readTest_42 lk_X8_45 mo_X8_readNext rc_109 (Nat.le_of_ble_eq_true rfl) h (fun _ σ42 h => ?_)
  refine hh_aload_n dX8_readTest_45 rfl ?_
  refine hh_cV0 dX8_readTest_46 lk_X8_110 mo_X8_readSum rc_109 (Nat.le_of_ble_eq_true rfl) h (fun _ σ46 h => ?_)
  obtain ⟨q1, h⟩ := h
  refine hh_aload_n dX8_readTest_49 rfl ?_
  refine hh_iload_n dX8_readTest_50 rfl ?_
  refine hh_ineg dX8_readTest_51 q1 ?_
  refine hh_cV1 dX8_readTest_52 lk_X8_103 mo_X8_put rc_109 (Nat.le_of_ble_eq_true rfl) h (fun _ σ52 h => ?_)
  exact hh_vreturn dX8_readTest_55 rfl h
set_option maxRecDepth 20000 in
theorem w_X8_readTest {d : Nat} {σ : hh_S} {Q : Int → hh_S → Prop} (h : P_X8_readTest d σ Q) : hh_J (d + 1) hm_X8_readTest 0 [some (hh_R 109), none] [] σ Q := by
  unfold P_X8_readTest at h
  refine hh_aload_n dX8_readTest_0 rfl ?_
  refine hh_cV0 dX8_readTest_1 lk_X8_110 mo_X8_readSum rc_109 (Nat.le_of_ble_eq_true rfl) h (fun _ σ1 h => ?_)
  refine hh_aload_n dX8_readTest_4 rfl ?_
  refine hh_bipush dX8_readTest_5 (by decide) ?_
  refine hh_cV1 dX8_readTest_7 lk_X8_99 mo_X8_isAtSign rc_109 (Nat.le_of_ble_eq_true rfl) h (fun r7 σ7 h => ?_)
  refine hh_if_ne (tgt := 31) dX8_readTest_10 (by decide) (fun c => ?_) (fun c => ?_)
  · replace h := h.1 c
    exact hh_forget [true, false] (w_X8_readTest_31 _ h)
  · replace h := h.2 c
    refine hh_aload_n dX8_readTest_13 rfl ?_
    refine hh_bipush dX8_readTest_14 (by decide) ?_
    refine hh_cV1 dX8_readTest_16 lk_X8_99 mo_X8_isAtSign rc_109 (Nat.le_of_ble_eq_true rfl) h (fun r16 σ16 h => ?_)
    refine hh_if_ne (tgt := 31) dX8_readTest_19 (by decide) (fun c => ?_) (fun c => ?_)
    · replace h := h.1 c
      exact hh_forget [true, false] (w_X8_readTest_31 _ h)
    · replace h := h.2 c
      refine hh_aload_n dX8_readTest_22 rfl ?_
      refine hh_bipush dX8_readTest_23 (by decide) ?_
      refine hh_cV1 dX8_readTest_25 lk_X8_99 mo_X8_isAtSign rc_109 (Nat.le_of_ble_eq_true rfl) h (fun r25 σ25 h => ?_)
      refine hh_if_eq (tgt := 55) dX8_readTest_28 (by decide) (fun c => ?_) (fun c => ?_)
      · replace h := h.1 c
        exact hh_vreturn dX8_readTest_55 rfl h
      · replace h := h.2 c
        exact hh_forget [true, false] (w_X8_readTest_31 _ h)
theorem wp_X8_readTest {d : Nat} {σ : hh_S} {Q : Int → hh_S → Prop} (h : hh_cs σ → P_X8_readTest d σ Q) : hh_Sp (d + 1) hm_X8_readTest [hh_R 109] σ Q :=
  hh_entry rfl (Nat.le_of_ble_eq_true rfl) rfl (fun hs hc => w_X8_readTest (h hs))
def B_X8_readAnd_6 (d : Nat) (Q : Int → hh_S → Prop) (k6 : Int → hh_S → Prop) (x1 : Int) (σ : hh_S) : Prop :=
  (120 ≤ x1 → Q 0 σ) ∧ (¬ 120 ≤ x1 → hh_Sp d hm_X8_isAtSign [hh_R 109, hh_I 38] σ (fun r15 σ15 => (r15 = 0 → Q 0 σ15) ∧ (¬ r15 = 0 → hh_Sp d hm_X8_readNext [hh_R 109] σ15 (fun _ σ22 => hh_Sp d hm_X8_readTest [hh_R 109] σ22 (fun _ σ26 => hh_Sp d hm_X8_put [hh_R 109, hh_I (-38)] σ26 (fun _ σ32 => ((-2147483648 ≤ x1 + 1 ∧ x1 + 1 ≤ 2147483647)) ∧ (k6 (x1 + 1) σ32)))))))
def P_X8_readAnd (d : Nat) (σ : hh_S) (Q : Int → hh_S → Prop) : Prop :=
  hh_Sp d hm_X8_readTest [hh_R 109] σ (fun _ σ1 => ∃ n, hh_lp1 (B_X8_readAnd_6 d Q) n 0 σ1)
set_option maxRecDepth 20000 in
theorem w_X8_readAnd_6 {d : Nat} {Q : Int → hh_S → Prop} {k6 : Int → hh_S → Prop} (hk6 : ∀ (x1 : Int) (σ : hh_S), k6 x1 σ → hh_J (d + 1) hm_X8_readAnd 6 [some (hh_R 109), some (hh_I x1)] [] σ Q) (x1 : Int) (σ : hh_S) (h : B_X8_readAnd_6 d Q k6 x1 σ) : hh_J (d + 1) hm_X8_readAnd 6 [some (hh_R 109), some (hh_I x1)] [] σ Q := by
  unfold B_X8_readAnd_6 at h
  refine hh_iload_n dX8_readAnd_6 rfl ?_
  refine hh_bipush dX8_readAnd_7 (by decide) ?_
  refine hh_icmp_ge (tgt := 41) dX8_readAnd_9 (by decide) (fun c => ?_) (fun c => ?_)
  · replace h := h.1 c
    exact hh_vreturn dX8_readAnd_41 rfl h
  · replace h := h.2 c
    refine hh_aload_n dX8_readAnd_12 rfl ?_
    refine hh_bipush dX8_readAnd_13 (by decide) ?_
    refine hh_cV1 dX8_readAnd_15 lk_X8_99 mo_X8_isAtSign rc_109 (Nat.le_of_ble_eq_true rfl) h (fun r15 σ15 h => ?_)
    refine hh_if_eq (tgt := 41) dX8_readAnd_18 (by decide) (fun c => ?_) (fun c => ?_)
    · replace h := h.1 c
      exact hh_vreturn dX8_readAnd_41 rfl h
    · replace h := h.2 c
      refine hh_aload_n dX8_readAnd_21 rfl ?_
      refine hh_cV0 dX8_readAnd_22 lk_X8_45 mo_X8_readNext rc_109 (Nat.le_of_ble_eq_true rfl) h (fun _ σ22 h => ?_)
      refine hh_aload_n dX8_readAnd_25 rfl ?_
      refine hh_cV0 dX8_readAnd_26 lk_X8_107 mo_X8_readTest rc_109 (Nat.le_of_ble_eq_true rfl) h (fun _ σ26 h => ?_)
      refine hh_aload_n dX8_readAnd_29 rfl ?_
      refine hh_bipush dX8_readAnd_30 (by decide) ?_
      refine hh_cV1 dX8_readAnd_32 lk_X8_103 mo_X8_put rc_109 (Nat.le_of_ble_eq_true rfl) h (fun _ σ32 h => ?_)
      obtain ⟨q1, h⟩ := h
      refine hh_iinc dX8_readAnd_35 (by decide) rfl rfl q1 ?_
      refine hh_goto (tgt := 6) dX8_readAnd_38 (by decide) ?_
      exact hh_forget [true, true] (hk6 _ _ h)
theorem l_X8_readAnd_6 {d : Nat} {Q : Int → hh_S → Prop} : ∀ (n : Nat) (x1 : Int) (σ : hh_S), hh_lp1 (B_X8_readAnd_6 d Q) n x1 σ → hh_J (d + 1) hm_X8_readAnd 6 [some (hh_R 109), some (hh_I x1)] [] σ Q := by
  intro n
  induction n with
  | zero => intro _ _ h; exact h.elim
  | succ n ih => intro x1 σ h; exact w_X8_readAnd_6 ih x1 σ h
set_option maxRecDepth 20000 in
theorem w_X8_readAnd {d : Nat} {σ : hh_S} {Q : Int → hh_S → Prop} (h : P_X8_readAnd d σ Q) : hh_J (d + 1) hm_X8_readAnd 0 [some (hh_R 109), none] [] σ Q := by
  unfold P_X8_readAnd at h
  refine hh_aload_n dX8_readAnd_0 rfl ?_
  refine hh_cV0 dX8_readAnd_1 lk_X8_107 mo_X8_readTest rc_109 (Nat.le_of_ble_eq_true rfl) h (fun _ σ1 h => ?_)
  refine hh_iconst dX8_readAnd_4 (by decide) ?_
  refine hh_istore_n dX8_readAnd_5 (by decide) rfl ?_
  obtain ⟨n, h⟩ := h
  exact hh_forget [true, true] (l_X8_readAnd_6 n _ _ h)
theorem wp_X8_readAnd {d : Nat} {σ : hh_S} {Q : Int → hh_S → Prop} (h : hh_cs σ → P_X8_readAnd d σ Q) : hh_Sp (d + 1) hm_X8_readAnd [hh_R 109] σ Q :=
  hh_entry rfl (Nat.le_of_ble_eq_true rfl) rfl (fun hs hc => w_X8_readAnd (h hs))
def B_X8_readOr_6 (d : Nat) (Q : Int → hh_S → Prop) (k6 : Int → hh_S → Prop) (x1 : Int) (σ : hh_S) : Prop :=
  (120 ≤ x1 → Q 0 σ) ∧ (¬ 120 ≤ x1 → hh_Sp d hm_X8_isAtSign [hh_R 109, hh_I 124] σ (fun r15 σ15 => (r15 = 0 → Q 0 σ15) ∧ (¬ r15 = 0 → hh_Sp d hm_X8_readNext [hh_R 109] σ15 (fun _ σ22 => hh_Sp d hm_X8_readAnd [hh_R 109] σ22 (fun _ σ26 => hh_Sp d hm_X8_put [hh_R 109, hh_I (-124)] σ26 (fun _ σ32 => ((-2147483648 ≤ x1 + 1 ∧ x1 + 1 ≤ 2147483647)) ∧ (k6 (x1 + 1) σ32)))))))
def P_X8_readOr (d : Nat) (σ : hh_S) (Q : Int → hh_S → Prop) : Prop :=
  hh_Sp d hm_X8_readAnd [hh_R 109] σ (fun _ σ1 => ∃ n, hh_lp1 (B_X8_readOr_6 d Q) n 0 σ1)
set_option maxRecDepth 20000 in
theorem w_X8_readOr_6 {d : Nat} {Q : Int → hh_S → Prop} {k6 : Int → hh_S → Prop} (hk6 : ∀ (x1 : Int) (σ : hh_S), k6 x1 σ → hh_J (d + 1) hm_X8_readOr 6 [some (hh_R 109), some (hh_I x1)] [] σ Q) (x1 : Int) (σ : hh_S) (h : B_X8_readOr_6 d Q k6 x1 σ) : hh_J (d + 1) hm_X8_readOr 6 [some (hh_R 109), some (hh_I x1)] [] σ Q := by
  unfold B_X8_readOr_6 at h
  refine hh_iload_n dX8_readOr_6 rfl ?_
  refine hh_bipush dX8_readOr_7 (by decide) ?_
  refine hh_icmp_ge (tgt := 41) dX8_readOr_9 (by decide) (fun c => ?_) (fun c => ?_)
  · replace h := h.1 c
    exact hh_vreturn dX8_readOr_41 rfl h
  · replace h := h.2 c
    refine hh_aload_n dX8_readOr_12 rfl ?_
    refine hh_bipush dX8_readOr_13 (by decide) ?_
    refine hh_cV1 dX8_readOr_15 lk_X8_99 mo_X8_isAtSign rc_109 (Nat.le_of_ble_eq_true rfl) h (fun r15 σ15 h => ?_)
    refine hh_if_eq (tgt := 41) dX8_readOr_18 (by decide) (fun c => ?_) (fun c => ?_)
    · replace h := h.1 c
      exact hh_vreturn dX8_readOr_41 rfl h
    · replace h := h.2 c
      refine hh_aload_n dX8_readOr_21 rfl ?_
      refine hh_cV0 dX8_readOr_22 lk_X8_45 mo_X8_readNext rc_109 (Nat.le_of_ble_eq_true rfl) h (fun _ σ22 h => ?_)
      refine hh_aload_n dX8_readOr_25 rfl ?_
      refine hh_cV0 dX8_readOr_26 lk_X8_96 mo_X8_readAnd rc_109 (Nat.le_of_ble_eq_true rfl) h (fun _ σ26 h => ?_)
      refine hh_aload_n dX8_readOr_29 rfl ?_
      refine hh_bipush dX8_readOr_30 (by decide) ?_
      refine hh_cV1 dX8_readOr_32 lk_X8_103 mo_X8_put rc_109 (Nat.le_of_ble_eq_true rfl) h (fun _ σ32 h => ?_)
      obtain ⟨q1, h⟩ := h
      refine hh_iinc dX8_readOr_35 (by decide) rfl rfl q1 ?_
      refine hh_goto (tgt := 6) dX8_readOr_38 (by decide) ?_
      exact hh_forget [true, true] (hk6 _ _ h)
theorem l_X8_readOr_6 {d : Nat} {Q : Int → hh_S → Prop} : ∀ (n : Nat) (x1 : Int) (σ : hh_S), hh_lp1 (B_X8_readOr_6 d Q) n x1 σ → hh_J (d + 1) hm_X8_readOr 6 [some (hh_R 109), some (hh_I x1)] [] σ Q := by
  intro n
  induction n with
  | zero => intro _ _ h; exact h.elim
  | succ n ih => intro x1 σ h; exact w_X8_readOr_6 ih x1 σ h
set_option maxRecDepth 20000 in
theorem w_X8_readOr {d : Nat} {σ : hh_S} {Q : Int → hh_S → Prop} (h : P_X8_readOr d σ Q) : hh_J (d + 1) hm_X8_readOr 0 [some (hh_R 109), none] [] σ Q := by
  unfold P_X8_readOr at h
  refine hh_aload_n dX8_readOr_0 rfl ?_
  refine hh_cV0 dX8_readOr_1 lk_X8_96 mo_X8_readAnd rc_109 (Nat.le_of_ble_eq_true rfl) h (fun _ σ1 h => ?_)
  refine hh_iconst dX8_readOr_4 (by decide) ?_
  refine hh_istore_n dX8_readOr_5 (by decide) rfl ?_
  obtain ⟨n, h⟩ := h
  exact hh_forget [true, true] (l_X8_readOr_6 n _ _ h)
theorem wp_X8_readOr {d : Nat} {σ : hh_S} {Q : Int → hh_S → Prop} (h : hh_cs σ → P_X8_readOr d σ Q) : hh_Sp (d + 1) hm_X8_readOr [hh_R 109] σ Q :=
  hh_entry rfl (Nat.le_of_ble_eq_true rfl) rfl (fun hs hc => w_X8_readOr (h hs))
def B_X8_readText_79 (d : Nat) (Q : Int → hh_S → Prop) (σ : hh_S) : Prop :=
  Q (σ 109 11) σ
def P_X8_readText (d : Nat) (σ : hh_S) (Q : Int → hh_S → Prop) : Prop :=
  hh_Sp d hm_X8_readNext [hh_R 109] (hh_up (hh_up (hh_up (hh_up (hh_up (hh_up (hh_up σ 109 3 0) 109 5 0) 109 9 0) 109 10 0) 109 11 (-1000000005)) 109 6 3) 109 8 0) (fun _ σ37 => hh_Sp d hm_X8_readKeyword [hh_R 109, hh_R 1000] σ37 (fun _ σ43 => hh_Sp d hm_X8_readOr [hh_R 109] σ43 (fun _ σ47 => hh_Sp d hm_X8_readKeyword [hh_R 109, hh_R 1001] (hh_up σ47 109 4 (σ47 109 3)) (fun _ σ61 => hh_Sp d hm_X8_readOr [hh_R 109] σ61 (fun _ σ65 => (σ65 109 6 = 0 → B_X8_readText_79 d Q σ65) ∧ (¬ σ65 109 6 = 0 → hh_Sp d hm_X8_fail [hh_R 109] σ65 (fun _ σ76 => B_X8_readText_79 d Q σ76)))))))
set_option maxRecDepth 20000 in
theorem w_X8_readText_79 {d : Nat} {Q : Int → hh_S → Prop} (σ : hh_S) (h : B_X8_readText_79 d Q σ) : hh_J (d + 1) hm_X8_readText 79 [some (hh_R 109)] [] σ Q := by
  unfold B_X8_readText_79 at h
  refine hh_aload_n dX8_readText_79 rfl ?_
  refine hh_getI dX8_readText_80 kf_X8_36 rf_109_11 rfl ?_
  exact hh_ireturn dX8_readText_83 rfl h
set_option maxRecDepth 20000 in
theorem w_X8_readText {d : Nat} {σ : hh_S} {Q : Int → hh_S → Prop} (h : P_X8_readText d σ Q) : hh_J (d + 1) hm_X8_readText 0 [some (hh_R 109)] [] σ Q := by
  unfold P_X8_readText at h
  refine hh_aload_n dX8_readText_0 rfl ?_
  refine hh_iconst dX8_readText_1 (by decide) ?_
  refine hh_putI dX8_readText_2 kp_X8_23 rf_109_3 ?_
  refine hh_aload_n dX8_readText_5 rfl ?_
  refine hh_iconst dX8_readText_6 (by decide) ?_
  refine hh_putI dX8_readText_7 kp_X8_26 rf_109_5 ?_
  refine hh_aload_n dX8_readText_10 rfl ?_
  refine hh_iconst dX8_readText_11 (by decide) ?_
  refine hh_putI dX8_readText_12 kp_X8_29 rf_109_9 ?_
  refine hh_aload_n dX8_readText_15 rfl ?_
  refine hh_iconst dX8_readText_16 (by decide) ?_
  refine hh_putI dX8_readText_17 kp_X8_32 rf_109_10 ?_
  refine hh_aload_n dX8_readText_20 rfl ?_
  refine hh_ldc (n := -1000000005) dX8_readText_21 kc_X8_35 (by decide) ?_
  refine hh_putI dX8_readText_23 kp_X8_36 rf_109_11 ?_
  refine hh_aload_n dX8_readText_26 rfl ?_
  refine hh_iconst dX8_readText_27 (by decide) ?_
  refine hh_putI dX8_readText_28 kp_X8_39 rf_109_6 ?_
  refine hh_aload_n dX8_readText_31 rfl ?_
  refine hh_iconst dX8_readText_32 (by decide) ?_
  refine hh_putI dX8_readText_33 kp_X8_42 rf_109_8 ?_
  refine hh_aload_n dX8_readText_36 rfl ?_
  refine hh_cV0 dX8_readText_37 lk_X8_45 mo_X8_readNext rc_109 (Nat.le_of_ble_eq_true rfl) h (fun _ σ37 h => ?_)
  refine hh_aload_n dX8_readText_40 rfl ?_
  refine hh_ldcS0 dX8_readText_41 rfl ?_
  refine hh_cV1 dX8_readText_43 lk_X8_50 mo_X8_readKeyword rc_109 (Nat.le_of_ble_eq_true rfl) h (fun _ σ43 h => ?_)
  refine hh_aload_n dX8_readText_46 rfl ?_
  refine hh_cV0 dX8_readText_47 lk_X8_54 mo_X8_readOr rc_109 (Nat.le_of_ble_eq_true rfl) h (fun _ σ47 h => ?_)
  refine hh_aload_n dX8_readText_50 rfl ?_
  refine hh_aload_n dX8_readText_51 rfl ?_
  refine hh_getI dX8_readText_52 kf_X8_23 rf_109_3 rfl ?_
  refine hh_putI dX8_readText_55 kp_X8_57 rf_109_4 ?_
  refine hh_aload_n dX8_readText_58 rfl ?_
  refine hh_ldcS1 dX8_readText_59 rfl ?_
  refine hh_cV1 dX8_readText_61 lk_X8_50 mo_X8_readKeyword rc_109 (Nat.le_of_ble_eq_true rfl) h (fun _ σ61 h => ?_)
  refine hh_aload_n dX8_readText_64 rfl ?_
  refine hh_cV0 dX8_readText_65 lk_X8_54 mo_X8_readOr rc_109 (Nat.le_of_ble_eq_true rfl) h (fun _ σ65 h => ?_)
  refine hh_aload_n dX8_readText_68 rfl ?_
  refine hh_getI dX8_readText_69 kf_X8_39 rf_109_6 rfl ?_
  refine hh_if_eq (tgt := 79) dX8_readText_72 (by decide) (fun c => ?_) (fun c => ?_)
  · replace h := h.1 c
    exact hh_forget [true] (w_X8_readText_79 _ h)
  · replace h := h.2 c
    refine hh_aload_n dX8_readText_75 rfl ?_
    refine hh_cV0 dX8_readText_76 lk_X8_62 mo_X8_fail rc_109 (Nat.le_of_ble_eq_true rfl) h (fun _ σ76 h => ?_)
    exact hh_forget [true] (w_X8_readText_79 _ h)
theorem wp_X8_readText {d : Nat} {σ : hh_S} {Q : Int → hh_S → Prop} (h : hh_cs σ → P_X8_readText d σ Q) : hh_Sp (d + 1) hm_X8_readText [hh_R 109] σ Q :=
  hh_entry rfl (Nat.le_of_ble_eq_true rfl) rfl (fun hs hc => w_X8_readText (h hs))
