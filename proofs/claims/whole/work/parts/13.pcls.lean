def P_X6_has (d : Nat) (a1 : Int) (σ : hh_S) (Q : Int → hh_S → Prop) : Prop :=
  ((-2147483648 ≤ σ 2 0 - 1 ∧ σ 2 0 - 1 ≤ 2147483647)) ∧ (hh_Sp d hm_X11_within [hh_I a1, hh_I 0, hh_I (σ 2 0 - 1)] σ (fun r8 σ8 => ((r8 = 0 ∨ r8 = 1)) ∧ (Q r8 σ8)))
set_option maxRecDepth 20000 in
theorem w_X6_has {d : Nat} {a1 : Int} {σ : hh_S} {Q : Int → hh_S → Prop} (h : P_X6_has d a1 σ Q) : hh_J (d + 1) hm_X6_has 0 [some (hh_R 2), some (hh_I a1)] [] σ Q := by
  unfold P_X6_has at h
  obtain ⟨q1, h⟩ := h
  refine hh_iload_n dX6_has_0 rfl ?_
  refine hh_iconst dX6_has_1 (by decide) ?_
  refine hh_aload_n dX6_has_2 rfl ?_
  refine hh_getI dX6_has_3 kf_X6_21 rf_2_0 rfl ?_
  refine hh_iconst dX6_has_6 (by decide) ?_
  refine hh_isub dX6_has_7 q1 ?_
  refine hh_cN3 dX6_has_8 lk_X6_25 mo_X11_within (Nat.le_of_ble_eq_true rfl) h (fun r8 σ8 h => ?_)
  obtain ⟨q1, h⟩ := h
  exact hh_zreturn dX6_has_11 rfl q1 h
theorem wp_X6_has {d : Nat} (a1 : Int) {σ : hh_S} {Q : Int → hh_S → Prop} (h : hh_cs σ → hh_can a1 → P_X6_has d a1 σ Q) : hh_Sp (d + 1) hm_X6_has [hh_R 2, hh_I a1] σ Q :=
  hh_entry rfl (Nat.le_of_ble_eq_true rfl) rfl (fun hs hc => w_X6_has (h hs (hc _ (List.mem_of_getElem? (i := 1) rfl))))
def B_X6_isUnder_26 (d : Nat) (Q : Int → hh_S → Prop) (σ : hh_S) : Prop :=
  Q 1 σ
def P_X6_isUnder (d : Nat) (a1 a2 : Int) (σ : hh_S) (Q : Int → hh_S → Prop) : Prop :=
  ((0 ≤ a1 ∧ a1 < 8)) ∧ ((a2 = 0 → B_X6_isUnder_26 d Q σ) ∧ (¬ a2 = 0 → (σ 3 a1 = a2 → B_X6_isUnder_26 d Q σ) ∧ (¬ σ 3 a1 = a2 → (¬ a2 = 1 → Q 0 σ) ∧ (a2 = 1 → (¬ σ 3 a1 = 2 → Q 0 σ) ∧ (σ 3 a1 = 2 → B_X6_isUnder_26 d Q σ)))))
set_option maxRecDepth 20000 in
theorem w_X6_isUnder_26 {d : Nat} {Q : Int → hh_S → Prop} (σ : hh_S) (h : B_X6_isUnder_26 d Q σ) : hh_J (d + 1) hm_X6_isUnder 26 [none, none, none, none] [] σ Q := by
  unfold B_X6_isUnder_26 at h
  refine hh_iconst dX6_isUnder_26 (by decide) ?_
  refine hh_goto (tgt := 31) dX6_isUnder_27 (by decide) ?_
  exact hh_zreturn dX6_isUnder_31 rfl (by decide) h
set_option maxRecDepth 20000 in
theorem w_X6_isUnder {d : Nat} {a1 a2 : Int} {σ : hh_S} {Q : Int → hh_S → Prop} (h : P_X6_isUnder d a1 a2 σ Q) : hh_J (d + 1) hm_X6_isUnder 0 [some (hh_R 2), some (hh_I a1), some (hh_I a2), none] [] σ Q := by
  unfold P_X6_isUnder at h
  obtain ⟨q1, h⟩ := h
  refine hh_aload_n dX6_isUnder_0 rfl ?_
  refine hh_getR dX6_isUnder_1 kf_X6_9 rf_2_1 ?_
  refine hh_iload_n dX6_isUnder_4 rfl ?_
  refine hh_iald dX6_isUnder_5 ra_3 q1 rfl ?_
  refine hh_istore_n dX6_isUnder_6 (by decide) rfl ?_
  refine hh_iload_n dX6_isUnder_7 rfl ?_
  refine hh_if_eq (tgt := 26) dX6_isUnder_8 (by decide) (fun c => ?_) (fun c => ?_)
  · replace h := h.1 c
    exact hh_forget [false, false, false, false] (w_X6_isUnder_26 _ h)
  · replace h := h.2 c
    refine hh_iload_n dX6_isUnder_11 rfl ?_
    refine hh_iload_n dX6_isUnder_12 rfl ?_
    refine hh_icmp_eq (tgt := 26) dX6_isUnder_13 (by decide) (fun c => ?_) (fun c => ?_)
    · replace h := h.1 c
      exact hh_forget [false, false, false, false] (w_X6_isUnder_26 _ h)
    · replace h := h.2 c
      refine hh_iload_n dX6_isUnder_16 rfl ?_
      refine hh_iconst dX6_isUnder_17 (by decide) ?_
      refine hh_icmp_ne (tgt := 30) dX6_isUnder_18 (by decide) (fun c => ?_) (fun c => ?_)
      · replace h := h.1 c
        refine hh_iconst dX6_isUnder_30 (by decide) ?_
        exact hh_zreturn dX6_isUnder_31 rfl (by decide) h
      · replace h := h.2 c
        refine hh_iload_n dX6_isUnder_21 rfl ?_
        refine hh_iconst dX6_isUnder_22 (by decide) ?_
        refine hh_icmp_ne (tgt := 30) dX6_isUnder_23 (by decide) (fun c => ?_) (fun c => ?_)
        · replace h := h.1 c
          refine hh_iconst dX6_isUnder_30 (by decide) ?_
          exact hh_zreturn dX6_isUnder_31 rfl (by decide) h
        · replace h := h.2 c
          exact hh_forget [false, false, false, false] (w_X6_isUnder_26 _ h)
theorem wp_X6_isUnder {d : Nat} (a1 a2 : Int) {σ : hh_S} {Q : Int → hh_S → Prop} (h : hh_cs σ → hh_can a1 → hh_can a2 → P_X6_isUnder d a1 a2 σ Q) : hh_Sp (d + 1) hm_X6_isUnder [hh_R 2, hh_I a1, hh_I a2] σ Q :=
  hh_entry rfl (Nat.le_of_ble_eq_true rfl) rfl (fun hs hc => w_X6_isUnder (h hs (hc _ (List.mem_of_getElem? (i := 1) rfl)) (hc _ (List.mem_of_getElem? (i := 2) rfl))))
def P_X1_has (d : Nat) (a1 : Int) (σ : hh_S) (Q : Int → hh_S → Prop) : Prop :=
  ((-2147483648 ≤ σ 6 0 - 1 ∧ σ 6 0 - 1 ≤ 2147483647)) ∧ (hh_Sp d hm_X11_within [hh_I a1, hh_I 0, hh_I (σ 6 0 - 1)] σ (fun r8 σ8 => ((r8 = 0 ∨ r8 = 1)) ∧ (Q r8 σ8)))
set_option maxRecDepth 20000 in
theorem w_X1_has {d : Nat} {a1 : Int} {σ : hh_S} {Q : Int → hh_S → Prop} (h : P_X1_has d a1 σ Q) : hh_J (d + 1) hm_X1_has 0 [some (hh_R 6), some (hh_I a1)] [] σ Q := by
  unfold P_X1_has at h
  obtain ⟨q1, h⟩ := h
  refine hh_iload_n dX1_has_0 rfl ?_
  refine hh_iconst dX1_has_1 (by decide) ?_
  refine hh_aload_n dX1_has_2 rfl ?_
  refine hh_getI dX1_has_3 kf_X1_30 rf_6_0 rfl ?_
  refine hh_iconst dX1_has_6 (by decide) ?_
  refine hh_isub dX1_has_7 q1 ?_
  refine hh_cN3 dX1_has_8 lk_X1_34 mo_X11_within (Nat.le_of_ble_eq_true rfl) h (fun r8 σ8 h => ?_)
  obtain ⟨q1, h⟩ := h
  exact hh_zreturn dX1_has_11 rfl q1 h
theorem wp_X1_has {d : Nat} (a1 : Int) {σ : hh_S} {Q : Int → hh_S → Prop} (h : hh_cs σ → hh_can a1 → P_X1_has d a1 σ Q) : hh_Sp (d + 1) hm_X1_has [hh_R 6, hh_I a1] σ Q :=
  hh_entry rfl (Nat.le_of_ble_eq_true rfl) rfl (fun hs hc => w_X1_has (h hs (hc _ (List.mem_of_getElem? (i := 1) rfl))))
def P_X5_putPayer (d : Nat) (a1 a2 a3 : Int) (σ : hh_S) (Q : Int → hh_S → Prop) : Prop :=
  ((-2147483648 ≤ a1 * 3 ∧ a1 * 3 ≤ 2147483647) ∧ (-2147483648 ≤ a1 * 3 + a2 ∧ a1 * 3 + a2 ≤ 2147483647) ∧ 0 ≤ a3 ∧ (0 ≤ a1 * 3 + a2 ∧ a1 * 3 + a2 < 30)) ∧ (Q 0 (hh_up (hh_up σ 18 (a1 * 3 + a2) (a3 / 100)) 19 (a1 * 3 + a2) (a3 % 100)))
set_option maxRecDepth 20000 in
theorem w_X5_putPayer {d : Nat} {a1 a2 a3 : Int} {σ : hh_S} {Q : Int → hh_S → Prop} (h : P_X5_putPayer d a1 a2 a3 σ Q) : hh_J (d + 1) hm_X5_putPayer 0 [some (hh_R 13), some (hh_I a1), some (hh_I a2), some (hh_I a3)] [] σ Q := by
  unfold P_X5_putPayer at h
  obtain ⟨⟨q1, q2, q3, q4⟩, h⟩ := h
  refine hh_aload_n dX5_putPayer_0 rfl ?_
  refine hh_getR dX5_putPayer_1 kf_X5_24 rf_13_5 ?_
  refine hh_iload_n dX5_putPayer_4 rfl ?_
  refine hh_iconst dX5_putPayer_5 (by decide) ?_
  refine hh_imul dX5_putPayer_6 q1 ?_
  refine hh_iload_n dX5_putPayer_7 rfl ?_
  refine hh_iadd dX5_putPayer_8 q2 ?_
  refine hh_iload_n dX5_putPayer_9 rfl ?_
  refine hh_bipush dX5_putPayer_10 (by decide) ?_
  refine hh_idiv dX5_putPayer_12 q3 (by decide) ?_
  refine hh_iast dX5_putPayer_13 ra_18 q4 ?_
  refine hh_aload_n dX5_putPayer_14 rfl ?_
  refine hh_getR dX5_putPayer_15 kf_X5_27 rf_13_6 ?_
  refine hh_iload_n dX5_putPayer_18 rfl ?_
  refine hh_iconst dX5_putPayer_19 (by decide) ?_
  refine hh_imul dX5_putPayer_20 q1 ?_
  refine hh_iload_n dX5_putPayer_21 rfl ?_
  refine hh_iadd dX5_putPayer_22 q2 ?_
  refine hh_iload_n dX5_putPayer_23 rfl ?_
  refine hh_bipush dX5_putPayer_24 (by decide) ?_
  refine hh_irem dX5_putPayer_26 q3 (by decide) ?_
  refine hh_iast dX5_putPayer_27 ra_19 q4 ?_
  exact hh_vreturn dX5_putPayer_28 rfl h
theorem wp_X5_putPayer {d : Nat} (a1 a2 a3 : Int) {σ : hh_S} {Q : Int → hh_S → Prop} (h : hh_cs σ → hh_can a1 → hh_can a2 → hh_can a3 → P_X5_putPayer d a1 a2 a3 σ Q) : hh_Sp (d + 1) hm_X5_putPayer [hh_R 13, hh_I a1, hh_I a2, hh_I a3] σ Q :=
  hh_entry rfl (Nat.le_of_ble_eq_true rfl) rfl (fun hs hc => w_X5_putPayer (h hs (hc _ (List.mem_of_getElem? (i := 1) rfl)) (hc _ (List.mem_of_getElem? (i := 2) rfl)) (hc _ (List.mem_of_getElem? (i := 3) rfl))))
def B_X5_begin_127 (d : Nat) (Q : Int → hh_S → Prop) (x4 : Int) (σ : hh_S) : Prop :=
  ((-2147483648 ≤ x4 + 1 ∧ x4 + 1 ≤ 2147483647)) ∧ (Q x4 (hh_up σ 13 0 (x4 + 1)))
def B_X5_begin_100 (d : Nat) (Q : Int → hh_S → Prop) (k100 : Int → Int → hh_S → Prop) (x4 x5 : Int) (σ : hh_S) : Prop :=
  (6 ≤ x5 → B_X5_begin_127 d Q x4 σ) ∧ (¬ 6 ≤ x5 → ((-2147483648 ≤ x4 * 6 ∧ x4 * 6 ≤ 2147483647) ∧ (-2147483648 ≤ x4 * 6 + x5 ∧ x4 * 6 + x5 ≤ 2147483647) ∧ (0 ≤ x4 * 6 + x5 ∧ x4 * 6 + x5 < 60) ∧ (-2147483648 ≤ x5 + 1 ∧ x5 + 1 ≤ 2147483647)) ∧ (k100 x4 (x5 + 1) (hh_up σ 23 (x4 * 6 + x5) 0)))
def B_X5_begin_97 (d : Nat) (Q : Int → hh_S → Prop) (x4 : Int) (σ : hh_S) : Prop :=
  ∃ n, hh_lp2 (B_X5_begin_100 d Q) n x4 0 σ
def B_X5_begin_70 (d : Nat) (Q : Int → hh_S → Prop) (k70 : Int → Int → hh_S → Prop) (x4 x5 : Int) (σ : hh_S) : Prop :=
  (8 ≤ x5 → B_X5_begin_97 d Q x4 σ) ∧ (¬ 8 ≤ x5 → ((-2147483648 ≤ x4 * 8 ∧ x4 * 8 ≤ 2147483647) ∧ (-2147483648 ≤ x4 * 8 + x5 ∧ x4 * 8 + x5 ≤ 2147483647) ∧ (0 ≤ x4 * 8 + x5 ∧ x4 * 8 + x5 < 80) ∧ (-2147483648 ≤ x5 + 1 ∧ x5 + 1 ≤ 2147483647)) ∧ (k70 x4 (x5 + 1) (hh_up σ 20 (x4 * 8 + x5) 0)))
def P_X5_begin (d : Nat) (a1 a2 a3 : Int) (σ : hh_S) (Q : Int → hh_S → Prop) : Prop :=
  ((0 ≤ σ 13 0 ∧ σ 13 0 < 10) ∧ (-2147483648 ≤ 100 * a2 ∧ 100 * a2 ≤ 2147483647) ∧ (-2147483648 ≤ 100 * a2 + 1 ∧ 100 * a2 + 1 ≤ 2147483647)) ∧ (hh_Sp d hm_X5_putPayer [hh_R 13, hh_I (σ 13 0), hh_I 0, hh_I (100 * a2 + 1)] (hh_up (hh_up (hh_up σ 14 (σ 13 0) a1) 15 (σ 13 0) a2) 16 (σ 13 0) a3) (fun _ σ40 => ((0 ≤ σ 13 0 ∧ σ 13 0 < 10)) ∧ (∃ n, hh_lp2 (B_X5_begin_70 d Q) n (σ 13 0) 0 (hh_up (hh_up (hh_up σ40 17 (σ 13 0) 1) 21 (σ 13 0) 0) 22 (σ 13 0) 0))))
set_option maxRecDepth 20000 in
theorem w_X5_begin_127 {d : Nat} {Q : Int → hh_S → Prop} (x4 : Int) (σ : hh_S) (h : B_X5_begin_127 d Q x4 σ) : hh_J (d + 1) hm_X5_begin 127 [some (hh_R 13), none, none, none, some (hh_I x4), none] [] σ Q := by
  unfold B_X5_begin_127 at h
  obtain ⟨q1, h⟩ := h
  refine hh_aload_n dX5_begin_127 rfl ?_
  refine hh_iload dX5_begin_128 rfl ?_
  refine hh_iconst dX5_begin_130 (by decide) ?_
  refine hh_iadd dX5_begin_131 q1 ?_
  refine hh_putI dX5_begin_132 kp_X5_42 rf_13_0 ?_
  refine hh_iload dX5_begin_135 rfl ?_
  exact hh_ireturn dX5_begin_137 rfl h
set_option maxRecDepth 20000 in
theorem w_X5_begin_100 {d : Nat} {Q : Int → hh_S → Prop} {k100 : Int → Int → hh_S → Prop} (hk100 : ∀ (x4 x5 : Int) (σ : hh_S), k100 x4 x5 σ → hh_J (d + 1) hm_X5_begin 100 [some (hh_R 13), none, none, none, some (hh_I x4), some (hh_I x5)] [] σ Q) (x4 x5 : Int) (σ : hh_S) (h : B_X5_begin_100 d Q k100 x4 x5 σ) : hh_J (d + 1) hm_X5_begin 100 [some (hh_R 13), none, none, none, some (hh_I x4), some (hh_I x5)] [] σ Q := by
  unfold B_X5_begin_100 at h
  refine hh_iload dX5_begin_100 rfl ?_
  refine hh_bipush dX5_begin_102 (by decide) ?_
  refine hh_icmp_ge (tgt := 127) dX5_begin_104 (by decide) (fun c => ?_) (fun c => ?_)
  · replace h := h.1 c
    exact hh_forget [true, false, false, false, true, false] (w_X5_begin_127 _ _ h)
  · replace h := h.2 c
    obtain ⟨⟨q1, q2, q3, q4⟩, h⟩ := h
    refine hh_aload_n dX5_begin_107 rfl ?_
    refine hh_getR dX5_begin_108 kf_X5_39 rf_13_10 ?_
    refine hh_iload dX5_begin_111 rfl ?_
    refine hh_bipush dX5_begin_113 (by decide) ?_
    refine hh_imul dX5_begin_115 q1 ?_
    refine hh_iload dX5_begin_116 rfl ?_
    refine hh_iadd dX5_begin_118 q2 ?_
    refine hh_iconst dX5_begin_119 (by decide) ?_
    refine hh_iast dX5_begin_120 ra_23 q3 ?_
    refine hh_iinc dX5_begin_121 (by decide) rfl rfl q4 ?_
    refine hh_goto (tgt := 100) dX5_begin_124 (by decide) ?_
    exact hh_forget [true, false, false, false, true, true] (hk100 _ _ _ h)
theorem l_X5_begin_100 {d : Nat} {Q : Int → hh_S → Prop} : ∀ (n : Nat) (x4 x5 : Int) (σ : hh_S), hh_lp2 (B_X5_begin_100 d Q) n x4 x5 σ → hh_J (d + 1) hm_X5_begin 100 [some (hh_R 13), none, none, none, some (hh_I x4), some (hh_I x5)] [] σ Q := by
  intro n
  induction n with
  | zero => intro _ _ _ h; exact h.elim
  | succ n ih => intro x4 x5 σ h; exact w_X5_begin_100 ih x4 x5 σ h
set_option maxRecDepth 20000 in
theorem w_X5_begin_97 {d : Nat} {Q : Int → hh_S → Prop} (x4 : Int) (σ : hh_S) (h : B_X5_begin_97 d Q x4 σ) : hh_J (d + 1) hm_X5_begin 97 [some (hh_R 13), none, none, none, some (hh_I x4), none] [] σ Q := by
  unfold B_X5_begin_97 at h
  refine hh_iconst dX5_begin_97 (by decide) ?_
  refine hh_istore dX5_begin_98 (by decide) rfl ?_
  obtain ⟨n, h⟩ := h
  exact hh_forget [true, false, false, false, true, true] (l_X5_begin_100 n _ _ _ h)
set_option maxRecDepth 20000 in
theorem w_X5_begin_70 {d : Nat} {Q : Int → hh_S → Prop} {k70 : Int → Int → hh_S → Prop} (hk70 : ∀ (x4 x5 : Int) (σ : hh_S), k70 x4 x5 σ → hh_J (d + 1) hm_X5_begin 70 [some (hh_R 13), none, none, none, some (hh_I x4), some (hh_I x5)] [] σ Q) (x4 x5 : Int) (σ : hh_S) (h : B_X5_begin_70 d Q k70 x4 x5 σ) : hh_J (d + 1) hm_X5_begin 70 [some (hh_R 13), none, none, none, some (hh_I x4), some (hh_I x5)] [] σ Q := by
  unfold B_X5_begin_70 at h
  refine hh_iload dX5_begin_70 rfl ?_
  refine hh_bipush dX5_begin_72 (by decide) ?_
  refine hh_icmp_ge (tgt := 97) dX5_begin_74 (by decide) (fun c => ?_) (fun c => ?_)
  · replace h := h.1 c
    exact hh_forget [true, false, false, false, true, false] (w_X5_begin_97 _ _ h)
  · replace h := h.2 c
    obtain ⟨⟨q1, q2, q3, q4⟩, h⟩ := h
    refine hh_aload_n dX5_begin_77 rfl ?_
    refine hh_getR dX5_begin_78 kf_X5_30 rf_13_7 ?_
    refine hh_iload dX5_begin_81 rfl ?_
    refine hh_bipush dX5_begin_83 (by decide) ?_
    refine hh_imul dX5_begin_85 q1 ?_
    refine hh_iload dX5_begin_86 rfl ?_
    refine hh_iadd dX5_begin_88 q2 ?_
    refine hh_iconst dX5_begin_89 (by decide) ?_
    refine hh_iast dX5_begin_90 ra_20 q3 ?_
    refine hh_iinc dX5_begin_91 (by decide) rfl rfl q4 ?_
    refine hh_goto (tgt := 70) dX5_begin_94 (by decide) ?_
    exact hh_forget [true, false, false, false, true, true] (hk70 _ _ _ h)
theorem l_X5_begin_70 {d : Nat} {Q : Int → hh_S → Prop} : ∀ (n : Nat) (x4 x5 : Int) (σ : hh_S), hh_lp2 (B_X5_begin_70 d Q) n x4 x5 σ → hh_J (d + 1) hm_X5_begin 70 [some (hh_R 13), none, none, none, some (hh_I x4), some (hh_I x5)] [] σ Q := by
  intro n
  induction n with
  | zero => intro _ _ _ h; exact h.elim
  | succ n ih => intro x4 x5 σ h; exact w_X5_begin_70 ih x4 x5 σ h
set_option maxRecDepth 20000 in
theorem w_X5_begin {d : Nat} {a1 a2 a3 : Int} {σ : hh_S} {Q : Int → hh_S → Prop} (h : P_X5_begin d a1 a2 a3 σ Q) : hh_J (d + 1) hm_X5_begin 0 [some (hh_R 13), some (hh_I a1), some (hh_I a2), some (hh_I a3), none, none] [] σ Q := by
  unfold P_X5_begin at h
  obtain ⟨⟨q1, q2, q3⟩, h⟩ := h
  refine hh_aload_n dX5_begin_0 rfl ?_
  refine hh_getI dX5_begin_1 kf_X5_42 rf_13_0 rfl ?_
  refine hh_istore dX5_begin_4 (by decide) rfl ?_
  refine hh_aload_n dX5_begin_6 rfl ?_
  refine hh_getR dX5_begin_7 kf_X5_9 rf_13_1 ?_
  refine hh_iload dX5_begin_10 rfl ?_
  refine hh_iload_n dX5_begin_12 rfl ?_
  refine hh_iast dX5_begin_13 ra_14 q1 ?_
  refine hh_aload_n dX5_begin_14 rfl ?_
  refine hh_getR dX5_begin_15 kf_X5_15 rf_13_2 ?_
  refine hh_iload dX5_begin_18 rfl ?_
  refine hh_iload_n dX5_begin_20 rfl ?_
  refine hh_iast dX5_begin_21 ra_15 q1 ?_
  refine hh_aload_n dX5_begin_22 rfl ?_
  refine hh_getR dX5_begin_23 kf_X5_18 rf_13_3 ?_
  refine hh_iload dX5_begin_26 rfl ?_
  refine hh_iload_n dX5_begin_28 rfl ?_
  refine hh_iast dX5_begin_29 ra_16 q1 ?_
  refine hh_aload_n dX5_begin_30 rfl ?_
  refine hh_iload dX5_begin_31 rfl ?_
  refine hh_iconst dX5_begin_33 (by decide) ?_
  refine hh_bipush dX5_begin_34 (by decide) ?_
  refine hh_iload_n dX5_begin_36 rfl ?_
  refine hh_imul dX5_begin_37 q2 ?_
  refine hh_iconst dX5_begin_38 (by decide) ?_
  refine hh_iadd dX5_begin_39 q3 ?_
  refine hh_cV3 dX5_begin_40 lk_X5_50 mo_X5_putPayer rc_13 (Nat.le_of_ble_eq_true rfl) h (fun _ σ40 h => ?_)
  obtain ⟨q1, h⟩ := h
  refine hh_aload_n dX5_begin_43 rfl ?_
  refine hh_getR dX5_begin_44 kf_X5_21 rf_13_4 ?_
  refine hh_iload dX5_begin_47 rfl ?_
  refine hh_iconst dX5_begin_49 (by decide) ?_
  refine hh_iast dX5_begin_50 ra_17 q1 ?_
  refine hh_aload_n dX5_begin_51 rfl ?_
  refine hh_getR dX5_begin_52 kf_X5_33 rf_13_8 ?_
  refine hh_iload dX5_begin_55 rfl ?_
  refine hh_iconst dX5_begin_57 (by decide) ?_
  refine hh_iast dX5_begin_58 ra_21 q1 ?_
  refine hh_aload_n dX5_begin_59 rfl ?_
  refine hh_getR dX5_begin_60 kf_X5_36 rf_13_9 ?_
  refine hh_iload dX5_begin_63 rfl ?_
  refine hh_iconst dX5_begin_65 (by decide) ?_
  refine hh_iast dX5_begin_66 ra_22 q1 ?_
  refine hh_iconst dX5_begin_67 (by decide) ?_
  refine hh_istore dX5_begin_68 (by decide) rfl ?_
  obtain ⟨n, h⟩ := h
  exact hh_forget [true, false, false, false, true, true] (l_X5_begin_70 n _ _ _ h)
theorem wp_X5_begin {d : Nat} (a1 a2 a3 : Int) {σ : hh_S} {Q : Int → hh_S → Prop} (h : hh_cs σ → hh_can a1 → hh_can a2 → hh_can a3 → P_X5_begin d a1 a2 a3 σ Q) : hh_Sp (d + 1) hm_X5_begin [hh_R 13, hh_I a1, hh_I a2, hh_I a3] σ Q :=
  hh_entry rfl (Nat.le_of_ble_eq_true rfl) rfl (fun hs hc => w_X5_begin (h hs (hc _ (List.mem_of_getElem? (i := 1) rfl)) (hc _ (List.mem_of_getElem? (i := 2) rfl)) (hc _ (List.mem_of_getElem? (i := 3) rfl))))
def P_X5_has (d : Nat) (a1 : Int) (σ : hh_S) (Q : Int → hh_S → Prop) : Prop :=
  ((-2147483648 ≤ σ 13 0 - 1 ∧ σ 13 0 - 1 ≤ 2147483647)) ∧ (hh_Sp d hm_X11_within [hh_I a1, hh_I 0, hh_I (σ 13 0 - 1)] σ (fun r8 σ8 => ((r8 = 0 ∨ r8 = 1)) ∧ (Q r8 σ8)))
set_option maxRecDepth 20000 in
theorem w_X5_has {d : Nat} {a1 : Int} {σ : hh_S} {Q : Int → hh_S → Prop} (h : P_X5_has d a1 σ Q) : hh_J (d + 1) hm_X5_has 0 [some (hh_R 13), some (hh_I a1)] [] σ Q := by
  unfold P_X5_has at h
  obtain ⟨q1, h⟩ := h
  refine hh_iload_n dX5_has_0 rfl ?_
  refine hh_iconst dX5_has_1 (by decide) ?_
  refine hh_aload_n dX5_has_2 rfl ?_
  refine hh_getI dX5_has_3 kf_X5_42 rf_13_0 rfl ?_
  refine hh_iconst dX5_has_6 (by decide) ?_
  refine hh_isub dX5_has_7 q1 ?_
  refine hh_cN3 dX5_has_8 lk_X5_46 mo_X11_within (Nat.le_of_ble_eq_true rfl) h (fun r8 σ8 h => ?_)
  obtain ⟨q1, h⟩ := h
  exact hh_zreturn dX5_has_11 rfl q1 h
theorem wp_X5_has {d : Nat} (a1 : Int) {σ : hh_S} {Q : Int → hh_S → Prop} (h : hh_cs σ → hh_can a1 → P_X5_has d a1 σ Q) : hh_Sp (d + 1) hm_X5_has [hh_R 13, hh_I a1] σ Q :=
  hh_entry rfl (Nat.le_of_ble_eq_true rfl) rfl (fun hs hc => w_X5_has (h hs (hc _ (List.mem_of_getElem? (i := 1) rfl))))
def B_X5_isUnder_26 (d : Nat) (Q : Int → hh_S → Prop) (σ : hh_S) : Prop :=
  Q 1 σ
def P_X5_isUnder (d : Nat) (a1 a2 : Int) (σ : hh_S) (Q : Int → hh_S → Prop) : Prop :=
  ((0 ≤ a1 ∧ a1 < 10)) ∧ ((a2 = 0 → B_X5_isUnder_26 d Q σ) ∧ (¬ a2 = 0 → (σ 14 a1 = a2 → B_X5_isUnder_26 d Q σ) ∧ (¬ σ 14 a1 = a2 → (¬ a2 = 2 → Q 0 σ) ∧ (a2 = 2 → (¬ σ 14 a1 = 3 → Q 0 σ) ∧ (σ 14 a1 = 3 → B_X5_isUnder_26 d Q σ)))))
set_option maxRecDepth 20000 in
theorem w_X5_isUnder_26 {d : Nat} {Q : Int → hh_S → Prop} (σ : hh_S) (h : B_X5_isUnder_26 d Q σ) : hh_J (d + 1) hm_X5_isUnder 26 [none, none, none, none] [] σ Q := by
  unfold B_X5_isUnder_26 at h
  refine hh_iconst dX5_isUnder_26 (by decide) ?_
  refine hh_goto (tgt := 31) dX5_isUnder_27 (by decide) ?_
  exact hh_zreturn dX5_isUnder_31 rfl (by decide) h
set_option maxRecDepth 20000 in
theorem w_X5_isUnder {d : Nat} {a1 a2 : Int} {σ : hh_S} {Q : Int → hh_S → Prop} (h : P_X5_isUnder d a1 a2 σ Q) : hh_J (d + 1) hm_X5_isUnder 0 [some (hh_R 13), some (hh_I a1), some (hh_I a2), none] [] σ Q := by
  unfold P_X5_isUnder at h
  obtain ⟨q1, h⟩ := h
  refine hh_aload_n dX5_isUnder_0 rfl ?_
  refine hh_getR dX5_isUnder_1 kf_X5_9 rf_13_1 ?_
  refine hh_iload_n dX5_isUnder_4 rfl ?_
  refine hh_iald dX5_isUnder_5 ra_14 q1 rfl ?_
  refine hh_istore_n dX5_isUnder_6 (by decide) rfl ?_
  refine hh_iload_n dX5_isUnder_7 rfl ?_
  refine hh_if_eq (tgt := 26) dX5_isUnder_8 (by decide) (fun c => ?_) (fun c => ?_)
  · replace h := h.1 c
    exact hh_forget [false, false, false, false] (w_X5_isUnder_26 _ h)
  · replace h := h.2 c
    refine hh_iload_n dX5_isUnder_11 rfl ?_
    refine hh_iload_n dX5_isUnder_12 rfl ?_
    refine hh_icmp_eq (tgt := 26) dX5_isUnder_13 (by decide) (fun c => ?_) (fun c => ?_)
    · replace h := h.1 c
      exact hh_forget [false, false, false, false] (w_X5_isUnder_26 _ h)
    · replace h := h.2 c
      refine hh_iload_n dX5_isUnder_16 rfl ?_
      refine hh_iconst dX5_isUnder_17 (by decide) ?_
      refine hh_icmp_ne (tgt := 30) dX5_isUnder_18 (by decide) (fun c => ?_) (fun c => ?_)
      · replace h := h.1 c
        refine hh_iconst dX5_isUnder_30 (by decide) ?_
        exact hh_zreturn dX5_isUnder_31 rfl (by decide) h
      · replace h := h.2 c
        refine hh_iload_n dX5_isUnder_21 rfl ?_
        refine hh_iconst dX5_isUnder_22 (by decide) ?_
        refine hh_icmp_ne (tgt := 30) dX5_isUnder_23 (by decide) (fun c => ?_) (fun c => ?_)
        · replace h := h.1 c
          refine hh_iconst dX5_isUnder_30 (by decide) ?_
          exact hh_zreturn dX5_isUnder_31 rfl (by decide) h
        · replace h := h.2 c
          exact hh_forget [false, false, false, false] (w_X5_isUnder_26 _ h)
theorem wp_X5_isUnder {d : Nat} (a1 a2 : Int) {σ : hh_S} {Q : Int → hh_S → Prop} (h : hh_cs σ → hh_can a1 → hh_can a2 → P_X5_isUnder d a1 a2 σ Q) : hh_Sp (d + 1) hm_X5_isUnder [hh_R 13, hh_I a1, hh_I a2] σ Q :=
  hh_entry rfl (Nat.le_of_ble_eq_true rfl) rfl (fun hs hc => w_X5_isUnder (h hs (hc _ (List.mem_of_getElem? (i := 1) rfl)) (hc _ (List.mem_of_getElem? (i := 2) rfl))))
def B_X0_isAnyOf_2 (d : Nat) (Q : Int → hh_S → Prop) (k2 : Int → Int → hh_S → Prop) (x1 x2 : Int) (σ : hh_S) : Prop :=
  (σ 42 0 ≤ x2 → Q 0 σ) ∧ (¬ σ 42 0 ≤ x2 → ((0 ≤ x2 ∧ x2 < 16)) ∧ ((¬ σ 43 x2 = x1 → ((-2147483648 ≤ x2 + 1 ∧ x2 + 1 ≤ 2147483647)) ∧ (k2 x1 (x2 + 1) σ)) ∧ (σ 43 x2 = x1 → Q 1 σ)))
def P_X0_isAnyOf (d : Nat) (a1 : Int) (σ : hh_S) (Q : Int → hh_S → Prop) : Prop :=
  ∃ n, hh_lp2 (B_X0_isAnyOf_2 d Q) n a1 0 σ
set_option maxRecDepth 20000 in
theorem w_X0_isAnyOf_2 {d : Nat} {Q : Int → hh_S → Prop} {k2 : Int → Int → hh_S → Prop} (hk2 : ∀ (x1 x2 : Int) (σ : hh_S), k2 x1 x2 σ → hh_J (d + 1) hm_X0_isAnyOf 2 [some (hh_R 42), some (hh_I x1), some (hh_I x2)] [] σ Q) (x1 x2 : Int) (σ : hh_S) (h : B_X0_isAnyOf_2 d Q k2 x1 x2 σ) : hh_J (d + 1) hm_X0_isAnyOf 2 [some (hh_R 42), some (hh_I x1), some (hh_I x2)] [] σ Q := by
  unfold B_X0_isAnyOf_2 at h
  refine hh_iload_n dX0_isAnyOf_2 rfl ?_
  refine hh_aload_n dX0_isAnyOf_3 rfl ?_
  refine hh_getI dX0_isAnyOf_4 kf_X0_33 rf_42_0 rfl ?_
  refine hh_icmp_ge (tgt := 28) dX0_isAnyOf_7 (by decide) (fun c => ?_) (fun c => ?_)
  · replace h := h.1 c
    refine hh_iconst dX0_isAnyOf_28 (by decide) ?_
    exact hh_zreturn dX0_isAnyOf_29 rfl (by decide) h
  · replace h := h.2 c
    obtain ⟨q1, h⟩ := h
    refine hh_aload_n dX0_isAnyOf_10 rfl ?_
    refine hh_getR dX0_isAnyOf_11 kf_X0_9 rf_42_1 ?_
    refine hh_iload_n dX0_isAnyOf_14 rfl ?_
    refine hh_iald dX0_isAnyOf_15 ra_43 q1 rfl ?_
    refine hh_iload_n dX0_isAnyOf_16 rfl ?_
    refine hh_icmp_ne (tgt := 22) dX0_isAnyOf_17 (by decide) (fun c => ?_) (fun c => ?_)
    · replace h := h.1 c
      obtain ⟨q1, h⟩ := h
      refine hh_iinc dX0_isAnyOf_22 (by decide) rfl rfl q1 ?_
      refine hh_goto (tgt := 2) dX0_isAnyOf_25 (by decide) ?_
      exact hh_forget [true, true, true] (hk2 _ _ _ h)
    · replace h := h.2 c
      refine hh_iconst dX0_isAnyOf_20 (by decide) ?_
      exact hh_zreturn dX0_isAnyOf_21 rfl (by decide) h
theorem l_X0_isAnyOf_2 {d : Nat} {Q : Int → hh_S → Prop} : ∀ (n : Nat) (x1 x2 : Int) (σ : hh_S), hh_lp2 (B_X0_isAnyOf_2 d Q) n x1 x2 σ → hh_J (d + 1) hm_X0_isAnyOf 2 [some (hh_R 42), some (hh_I x1), some (hh_I x2)] [] σ Q := by
  intro n
  induction n with
  | zero => intro _ _ _ h; exact h.elim
  | succ n ih => intro x1 x2 σ h; exact w_X0_isAnyOf_2 ih x1 x2 σ h
set_option maxRecDepth 20000 in
theorem w_X0_isAnyOf {d : Nat} {a1 : Int} {σ : hh_S} {Q : Int → hh_S → Prop} (h : P_X0_isAnyOf d a1 σ Q) : hh_J (d + 1) hm_X0_isAnyOf 0 [some (hh_R 42), some (hh_I a1), none] [] σ Q := by
  unfold P_X0_isAnyOf at h
  refine hh_iconst dX0_isAnyOf_0 (by decide) ?_
  refine hh_istore_n dX0_isAnyOf_1 (by decide) rfl ?_
  obtain ⟨n, h⟩ := h
  exact hh_forget [true, true, true] (l_X0_isAnyOf_2 n _ _ _ h)
theorem wp_X0_isAnyOf {d : Nat} (a1 : Int) {σ : hh_S} {Q : Int → hh_S → Prop} (h : hh_cs σ → hh_can a1 → P_X0_isAnyOf d a1 σ Q) : hh_Sp (d + 1) hm_X0_isAnyOf [hh_R 42, hh_I a1] σ Q :=
  hh_entry rfl (Nat.le_of_ble_eq_true rfl) rfl (fun hs hc => w_X0_isAnyOf (h hs (hc _ (List.mem_of_getElem? (i := 1) rfl))))
def P_X5_hasWall (d : Nat) (a1 a2 : Int) (σ : hh_S) (Q : Int → hh_S → Prop) : Prop :=
  ((-2147483648 ≤ a2 * 8 ∧ a2 * 8 ≤ 2147483647) ∧ (-2147483648 ≤ a2 * 8 + a1 ∧ a2 * 8 + a1 ≤ 2147483647) ∧ (0 ≤ a2 * 8 + a1 ∧ a2 * 8 + a1 < 80)) ∧ ((¬ σ 20 (a2 * 8 + a1) = 1 → Q 0 σ) ∧ (σ 20 (a2 * 8 + a1) = 1 → Q 1 σ))
set_option maxRecDepth 20000 in
theorem w_X5_hasWall {d : Nat} {a1 a2 : Int} {σ : hh_S} {Q : Int → hh_S → Prop} (h : P_X5_hasWall d a1 a2 σ Q) : hh_J (d + 1) hm_X5_hasWall 0 [some (hh_R 13), some (hh_I a1), some (hh_I a2)] [] σ Q := by
  unfold P_X5_hasWall at h
  obtain ⟨⟨q1, q2, q3⟩, h⟩ := h
  refine hh_aload_n dX5_hasWall_0 rfl ?_
  refine hh_getR dX5_hasWall_1 kf_X5_30 rf_13_7 ?_
  refine hh_iload_n dX5_hasWall_4 rfl ?_
  refine hh_bipush dX5_hasWall_5 (by decide) ?_
  refine hh_imul dX5_hasWall_7 q1 ?_
  refine hh_iload_n dX5_hasWall_8 rfl ?_
  refine hh_iadd dX5_hasWall_9 q2 ?_
  refine hh_iald dX5_hasWall_10 ra_20 q3 rfl ?_
  refine hh_iconst dX5_hasWall_11 (by decide) ?_
  refine hh_icmp_ne (tgt := 19) dX5_hasWall_12 (by decide) (fun c => ?_) (fun c => ?_)
  · replace h := h.1 c
    refine hh_iconst dX5_hasWall_19 (by decide) ?_
    exact hh_zreturn dX5_hasWall_20 rfl (by decide) h
  · replace h := h.2 c
    refine hh_iconst dX5_hasWall_15 (by decide) ?_
    refine hh_goto (tgt := 20) dX5_hasWall_16 (by decide) ?_
    exact hh_zreturn dX5_hasWall_20 rfl (by decide) h
theorem wp_X5_hasWall {d : Nat} (a1 a2 : Int) {σ : hh_S} {Q : Int → hh_S → Prop} (h : hh_cs σ → hh_can a1 → hh_can a2 → P_X5_hasWall d a1 a2 σ Q) : hh_Sp (d + 1) hm_X5_hasWall [hh_R 13, hh_I a1, hh_I a2] σ Q :=
  hh_entry rfl (Nat.le_of_ble_eq_true rfl) rfl (fun hs hc => w_X5_hasWall (h hs (hc _ (List.mem_of_getElem? (i := 1) rfl)) (hc _ (List.mem_of_getElem? (i := 2) rfl))))
def P_X3_has (d : Nat) (a1 : Int) (σ : hh_S) (Q : Int → hh_S → Prop) : Prop :=
  ((-2147483648 ≤ σ 24 0 - 1 ∧ σ 24 0 - 1 ≤ 2147483647)) ∧ (hh_Sp d hm_X11_within [hh_I a1, hh_I 0, hh_I (σ 24 0 - 1)] σ (fun r8 σ8 => ((r8 = 0 ∨ r8 = 1)) ∧ (Q r8 σ8)))
set_option maxRecDepth 20000 in
theorem w_X3_has {d : Nat} {a1 : Int} {σ : hh_S} {Q : Int → hh_S → Prop} (h : P_X3_has d a1 σ Q) : hh_J (d + 1) hm_X3_has 0 [some (hh_R 24), some (hh_I a1)] [] σ Q := by
  unfold P_X3_has at h
  obtain ⟨q1, h⟩ := h
  refine hh_iload_n dX3_has_0 rfl ?_
  refine hh_iconst dX3_has_1 (by decide) ?_
  refine hh_aload_n dX3_has_2 rfl ?_
  refine hh_getI dX3_has_3 kf_X3_45 rf_24_0 rfl ?_
  refine hh_iconst dX3_has_6 (by decide) ?_
  refine hh_isub dX3_has_7 q1 ?_
  refine hh_cN3 dX3_has_8 lk_X3_49 mo_X11_within (Nat.le_of_ble_eq_true rfl) h (fun r8 σ8 h => ?_)
  obtain ⟨q1, h⟩ := h
  exact hh_zreturn dX3_has_11 rfl q1 h
theorem wp_X3_has {d : Nat} (a1 : Int) {σ : hh_S} {Q : Int → hh_S → Prop} (h : hh_cs σ → hh_can a1 → P_X3_has d a1 σ Q) : hh_Sp (d + 1) hm_X3_has [hh_R 24, hh_I a1] σ Q :=
  hh_entry rfl (Nat.le_of_ble_eq_true rfl) rfl (fun hs hc => w_X3_has (h hs (hc _ (List.mem_of_getElem? (i := 1) rfl))))
def B_X2_layOut_107 (d : Nat) (Q : Int → hh_S → Prop) (k6 : Int → Int → Int → Int → Int → hh_S → Prop) (x1 x2 x3 x5 x6 : Int) (σ : hh_S) : Prop :=
  ((-2147483648 ≤ x6 + 1 ∧ x6 + 1 ≤ 2147483647)) ∧ (k6 x1 x2 x3 x5 (x6 + 1) σ)
def B_X2_layOut_104 (d : Nat) (Q : Int → hh_S → Prop) (k6 : Int → Int → Int → Int → Int → hh_S → Prop) (x1 x2 x3 x5 x6 : Int) (σ : hh_S) : Prop :=
  ((-2147483648 ≤ x5 + 1 ∧ x5 + 1 ≤ 2147483647)) ∧ (B_X2_layOut_107 d Q k6 x1 x2 x3 (x5 + 1) x6 σ)
def B_X2_layOut_74 (d : Nat) (Q : Int → hh_S → Prop) (k6 : Int → Int → Int → Int → Int → hh_S → Prop) (k74 : Int → Int → Int → Int → Int → Int → Int → hh_S → Prop) (x1 x2 x3 x5 x6 x7 x8 : Int) (σ : hh_S) : Prop :=
  (x7 ≤ x8 → B_X2_layOut_104 d Q k6 x1 x2 x3 x5 x6 σ) ∧ (¬ x7 ≤ x8 → (240 ≤ x8 → B_X2_layOut_104 d Q k6 x1 x2 x3 x5 x6 σ) ∧ (¬ 240 ≤ x8 → ((0 ≤ x8 ∧ x8 < 240) ∧ (-2147483648 ≤ σ 126 x8 + 1 ∧ σ 126 x8 + 1 ≤ 2147483647) ∧ (-2147483648 ≤ x8 + 1 ∧ x8 + 1 ≤ 2147483647)) ∧ (k74 x1 x2 x3 x5 x6 x7 (x8 + 1) (hh_up σ 126 x8 (σ 126 x8 + 1)))))
def B_X2_layOut_6 (d : Nat) (Q : Int → hh_S → Prop) (k6 : Int → Int → Int → Int → Int → hh_S → Prop) (x1 x2 x3 x5 x6 : Int) (σ : hh_S) : Prop :=
  (σ 36 0 ≤ x6 → Q x5 σ) ∧ (¬ σ 36 0 ≤ x6 → ((0 ≤ x6 ∧ x6 < 60)) ∧ ((¬ σ 37 x6 = x1 → B_X2_layOut_107 d Q k6 x1 x2 x3 x5 x6 σ) ∧ (σ 37 x6 = x1 → ((0 ≤ x6 ∧ x6 < 60)) ∧ ((¬ σ 38 x6 = x2 → B_X2_layOut_107 d Q k6 x1 x2 x3 x5 x6 σ) ∧ (σ 38 x6 = x2 → ((0 ≤ x6 ∧ x6 < 60)) ∧ ((x3 < σ 41 x6 → B_X2_layOut_107 d Q k6 x1 x2 x3 x5 x6 σ) ∧ (¬ x3 < σ 41 x6 → ((0 ≤ x6 ∧ x6 < 60) ∧ (-2147483648 ≤ σ 39 x6 + (σ 40 x6) ∧ σ 39 x6 + (σ 40 x6) ≤ 2147483647)) ∧ (∃ n, hh_lp7 (B_X2_layOut_74 d Q k6) n x1 x2 x3 x5 x6 (σ 39 x6 + (σ 40 x6)) (σ 39 x6) σ))))))))
def P_X2_layOut (d : Nat) (a1 a2 a3 : Int) (σ : hh_S) (Q : Int → hh_S → Prop) : Prop :=
  ∃ n, hh_lp5 (B_X2_layOut_6 d Q) n a1 a2 a3 0 0 σ
set_option maxRecDepth 20000 in
theorem w_X2_layOut_107 {d : Nat} {Q : Int → hh_S → Prop} {k6 : Int → Int → Int → Int → Int → hh_S → Prop} (hk6 : ∀ (x1 x2 x3 x5 x6 : Int) (σ : hh_S), k6 x1 x2 x3 x5 x6 σ → hh_J (d + 1) hm_X2_layOut 6 [some (hh_R 36), some (hh_I x1), some (hh_I x2), some (hh_I x3), some (hh_R 126), some (hh_I x5), some (hh_I x6), none, none] [] σ Q) (x1 x2 x3 x5 x6 : Int) (σ : hh_S) (h : B_X2_layOut_107 d Q k6 x1 x2 x3 x5 x6 σ) : hh_J (d + 1) hm_X2_layOut 107 [some (hh_R 36), some (hh_I x1), some (hh_I x2), some (hh_I x3), some (hh_R 126), some (hh_I x5), some (hh_I x6), none, none] [] σ Q := by
  unfold B_X2_layOut_107 at h
  obtain ⟨q1, h⟩ := h
  refine hh_iinc dX2_layOut_107 (by decide) rfl rfl q1 ?_
  refine hh_goto (tgt := 6) dX2_layOut_110 (by decide) ?_
  exact hh_forget [true, true, true, true, true, true, true, false, false] (hk6 _ _ _ _ _ _ h)
set_option maxRecDepth 20000 in
theorem w_X2_layOut_104 {d : Nat} {Q : Int → hh_S → Prop} {k6 : Int → Int → Int → Int → Int → hh_S → Prop} (hk6 : ∀ (x1 x2 x3 x5 x6 : Int) (σ : hh_S), k6 x1 x2 x3 x5 x6 σ → hh_J (d + 1) hm_X2_layOut 6 [some (hh_R 36), some (hh_I x1), some (hh_I x2), some (hh_I x3), some (hh_R 126), some (hh_I x5), some (hh_I x6), none, none] [] σ Q) (x1 x2 x3 x5 x6 : Int) (σ : hh_S) (h : B_X2_layOut_104 d Q k6 x1 x2 x3 x5 x6 σ) : hh_J (d + 1) hm_X2_layOut 104 [some (hh_R 36), some (hh_I x1), some (hh_I x2), some (hh_I x3), some (hh_R 126), some (hh_I x5), some (hh_I x6), none, none] [] σ Q := by
  unfold B_X2_layOut_104 at h
  obtain ⟨q1, h⟩ := h
  refine hh_iinc dX2_layOut_104 (by decide) rfl rfl q1 ?_
  exact hh_forget [true, true, true, true, true, true, true, false, false] (w_X2_layOut_107 hk6 _ _ _ _ _ _ h)
set_option maxRecDepth 20000 in
theorem w_X2_layOut_74 {d : Nat} {Q : Int → hh_S → Prop} {k6 : Int → Int → Int → Int → Int → hh_S → Prop} {k74 : Int → Int → Int → Int → Int → Int → Int → hh_S → Prop} (hk6 : ∀ (x1 x2 x3 x5 x6 : Int) (σ : hh_S), k6 x1 x2 x3 x5 x6 σ → hh_J (d + 1) hm_X2_layOut 6 [some (hh_R 36), some (hh_I x1), some (hh_I x2), some (hh_I x3), some (hh_R 126), some (hh_I x5), some (hh_I x6), none, none] [] σ Q) (hk74 : ∀ (x1 x2 x3 x5 x6 x7 x8 : Int) (σ : hh_S), k74 x1 x2 x3 x5 x6 x7 x8 σ → hh_J (d + 1) hm_X2_layOut 74 [some (hh_R 36), some (hh_I x1), some (hh_I x2), some (hh_I x3), some (hh_R 126), some (hh_I x5), some (hh_I x6), some (hh_I x7), some (hh_I x8)] [] σ Q) (x1 x2 x3 x5 x6 x7 x8 : Int) (σ : hh_S) (h : B_X2_layOut_74 d Q k6 k74 x1 x2 x3 x5 x6 x7 x8 σ) : hh_J (d + 1) hm_X2_layOut 74 [some (hh_R 36), some (hh_I x1), some (hh_I x2), some (hh_I x3), some (hh_R 126), some (hh_I x5), some (hh_I x6), some (hh_I x7), some (hh_I x8)] [] σ Q := by
  unfold B_X2_layOut_74 at h
  refine hh_iload dX2_layOut_74 rfl ?_
  refine hh_iload dX2_layOut_76 rfl ?_
  refine hh_icmp_ge (tgt := 104) dX2_layOut_78 (by decide) (fun c => ?_) (fun c => ?_)
  · replace h := h.1 c
    exact hh_forget [true, true, true, true, true, true, true, false, false] (w_X2_layOut_104 hk6 _ _ _ _ _ _ h)
  · replace h := h.2 c
    refine hh_iload dX2_layOut_81 rfl ?_
    refine hh_aload dX2_layOut_83 rfl ?_
    refine hh_alen dX2_layOut_85 ra_126 (by decide) ?_
    refine hh_icmp_ge (tgt := 104) dX2_layOut_86 (by decide) (fun c => ?_) (fun c => ?_)
    · replace h := h.1 c
      exact hh_forget [true, true, true, true, true, true, true, false, false] (w_X2_layOut_104 hk6 _ _ _ _ _ _ h)
    · replace h := h.2 c
      obtain ⟨⟨q1, q2, q3⟩, h⟩ := h
      refine hh_aload dX2_layOut_89 rfl ?_
      refine hh_iload dX2_layOut_91 rfl ?_
      refine hh_dup2 dX2_layOut_93 (fun _ => rfl) (fun _ => rfl) ?_
      refine hh_iald dX2_layOut_94 ra_126 q1 rfl ?_
      refine hh_iconst dX2_layOut_95 (by decide) ?_
      refine hh_iadd dX2_layOut_96 q2 ?_
      refine hh_iast dX2_layOut_97 ra_126 q1 ?_
      refine hh_iinc dX2_layOut_98 (by decide) rfl rfl q3 ?_
      refine hh_goto (tgt := 74) dX2_layOut_101 (by decide) ?_
      exact hh_forget [true, true, true, true, true, true, true, true, true] (hk74 _ _ _ _ _ _ _ _ h)
theorem l_X2_layOut_74 {d : Nat} {Q : Int → hh_S → Prop} {k6 : Int → Int → Int → Int → Int → hh_S → Prop} (hk6 : ∀ (x1 x2 x3 x5 x6 : Int) (σ : hh_S), k6 x1 x2 x3 x5 x6 σ → hh_J (d + 1) hm_X2_layOut 6 [some (hh_R 36), some (hh_I x1), some (hh_I x2), some (hh_I x3), some (hh_R 126), some (hh_I x5), some (hh_I x6), none, none] [] σ Q) : ∀ (n : Nat) (x1 x2 x3 x5 x6 x7 x8 : Int) (σ : hh_S), hh_lp7 (B_X2_layOut_74 d Q k6) n x1 x2 x3 x5 x6 x7 x8 σ → hh_J (d + 1) hm_X2_layOut 74 [some (hh_R 36), some (hh_I x1), some (hh_I x2), some (hh_I x3), some (hh_R 126), some (hh_I x5), some (hh_I x6), some (hh_I x7), some (hh_I x8)] [] σ Q := by
  intro n
  induction n with
  | zero => intro _ _ _ _ _ _ _ _ h; exact h.elim
  | succ n ih => intro x1 x2 x3 x5 x6 x7 x8 σ h; exact w_X2_layOut_74 hk6 ih x1 x2 x3 x5 x6 x7 x8 σ h
set_option maxRecDepth 20000 in
theorem w_X2_layOut_6 {d : Nat} {Q : Int → hh_S → Prop} {k6 : Int → Int → Int → Int → Int → hh_S → Prop} (hk6 : ∀ (x1 x2 x3 x5 x6 : Int) (σ : hh_S), k6 x1 x2 x3 x5 x6 σ → hh_J (d + 1) hm_X2_layOut 6 [some (hh_R 36), some (hh_I x1), some (hh_I x2), some (hh_I x3), some (hh_R 126), some (hh_I x5), some (hh_I x6), none, none] [] σ Q) (x1 x2 x3 x5 x6 : Int) (σ : hh_S) (h : B_X2_layOut_6 d Q k6 x1 x2 x3 x5 x6 σ) : hh_J (d + 1) hm_X2_layOut 6 [some (hh_R 36), some (hh_I x1), some (hh_I x2), some (hh_I x3), some (hh_R 126), some (hh_I x5), some (hh_I x6), none, none] [] σ Q := by
  unfold B_X2_layOut_6 at h
  refine hh_iload dX2_layOut_6 rfl ?_
  refine hh_aload_n dX2_layOut_8 rfl ?_
  refine hh_getI dX2_layOut_9 kf_X2_27 rf_36_0 rfl ?_
  refine hh_icmp_ge (tgt := 113) dX2_layOut_12 (by decide) (fun c => ?_) (fun c => ?_)
  · replace h := h.1 c
    refine hh_iload dX2_layOut_113 rfl ?_
    exact hh_ireturn dX2_layOut_115 rfl h
  · replace h := h.2 c
    obtain ⟨q1, h⟩ := h
    refine hh_aload_n dX2_layOut_15 rfl ?_
    refine hh_getR dX2_layOut_16 kf_X2_9 rf_36_1 ?_
    refine hh_iload dX2_layOut_19 rfl ?_
    refine hh_iald dX2_layOut_21 ra_37 q1 rfl ?_
    refine hh_iload_n dX2_layOut_22 rfl ?_
    refine hh_icmp_ne (tgt := 107) dX2_layOut_23 (by decide) (fun c => ?_) (fun c => ?_)
    · replace h := h.1 c
      exact hh_forget [true, true, true, true, true, true, true, false, false] (w_X2_layOut_107 hk6 _ _ _ _ _ _ h)
    · replace h := h.2 c
      obtain ⟨q1, h⟩ := h
      refine hh_aload_n dX2_layOut_26 rfl ?_
      refine hh_getR dX2_layOut_27 kf_X2_15 rf_36_2 ?_
      refine hh_iload dX2_layOut_30 rfl ?_
      refine hh_iald dX2_layOut_32 ra_38 q1 rfl ?_
      refine hh_iload_n dX2_layOut_33 rfl ?_
      refine hh_icmp_ne (tgt := 107) dX2_layOut_34 (by decide) (fun c => ?_) (fun c => ?_)
      · replace h := h.1 c
        exact hh_forget [true, true, true, true, true, true, true, false, false] (w_X2_layOut_107 hk6 _ _ _ _ _ _ h)
      · replace h := h.2 c
        obtain ⟨q1, h⟩ := h
        refine hh_aload_n dX2_layOut_37 rfl ?_
        refine hh_getR dX2_layOut_38 kf_X2_24 rf_36_5 ?_
        refine hh_iload dX2_layOut_41 rfl ?_
        refine hh_iald dX2_layOut_43 ra_41 q1 rfl ?_
        refine hh_iload_n dX2_layOut_44 rfl ?_
        refine hh_icmp_gt (tgt := 107) dX2_layOut_45 (by decide) (fun c => ?_) (fun c => ?_)
        · replace h := h.1 c
          exact hh_forget [true, true, true, true, true, true, true, false, false] (w_X2_layOut_107 hk6 _ _ _ _ _ _ h)
        · replace h := h.2 c
          obtain ⟨⟨q1, q2⟩, h⟩ := h
          refine hh_aload_n dX2_layOut_48 rfl ?_
          refine hh_getR dX2_layOut_49 kf_X2_18 rf_36_3 ?_
          refine hh_iload dX2_layOut_52 rfl ?_
          refine hh_iald dX2_layOut_54 ra_39 q1 rfl ?_
          refine hh_aload_n dX2_layOut_55 rfl ?_
          refine hh_getR dX2_layOut_56 kf_X2_21 rf_36_4 ?_
          refine hh_iload dX2_layOut_59 rfl ?_
          refine hh_iald dX2_layOut_61 ra_40 q1 rfl ?_
          refine hh_iadd dX2_layOut_62 q2 ?_
          refine hh_istore dX2_layOut_63 (by decide) rfl ?_
          refine hh_aload_n dX2_layOut_65 rfl ?_
          refine hh_getR dX2_layOut_66 kf_X2_18 rf_36_3 ?_
          refine hh_iload dX2_layOut_69 rfl ?_
          refine hh_iald dX2_layOut_71 ra_39 q1 rfl ?_
          refine hh_istore dX2_layOut_72 (by decide) rfl ?_
          obtain ⟨n, h⟩ := h
          exact hh_forget [true, true, true, true, true, true, true, true, true] (l_X2_layOut_74 hk6 n _ _ _ _ _ _ _ _ h)
theorem l_X2_layOut_6 {d : Nat} {Q : Int → hh_S → Prop} : ∀ (n : Nat) (x1 x2 x3 x5 x6 : Int) (σ : hh_S), hh_lp5 (B_X2_layOut_6 d Q) n x1 x2 x3 x5 x6 σ → hh_J (d + 1) hm_X2_layOut 6 [some (hh_R 36), some (hh_I x1), some (hh_I x2), some (hh_I x3), some (hh_R 126), some (hh_I x5), some (hh_I x6), none, none] [] σ Q := by
  intro n
  induction n with
  | zero => intro _ _ _ _ _ _ h; exact h.elim
  | succ n ih => intro x1 x2 x3 x5 x6 σ h; exact w_X2_layOut_6 ih x1 x2 x3 x5 x6 σ h
set_option maxRecDepth 20000 in
theorem w_X2_layOut {d : Nat} {a1 a2 a3 : Int} {σ : hh_S} {Q : Int → hh_S → Prop} (h : P_X2_layOut d a1 a2 a3 σ Q) : hh_J (d + 1) hm_X2_layOut 0 [some (hh_R 36), some (hh_I a1), some (hh_I a2), some (hh_I a3), some (hh_R 126), none, none, none, none] [] σ Q := by
  unfold P_X2_layOut at h
  refine hh_iconst dX2_layOut_0 (by decide) ?_
  refine hh_istore dX2_layOut_1 (by decide) rfl ?_
  refine hh_iconst dX2_layOut_3 (by decide) ?_
  refine hh_istore dX2_layOut_4 (by decide) rfl ?_
  obtain ⟨n, h⟩ := h
  exact hh_forget [true, true, true, true, true, true, true, false, false] (l_X2_layOut_6 n _ _ _ _ _ _ h)
theorem wp_X2_layOut {d : Nat} (a1 a2 a3 : Int) {σ : hh_S} {Q : Int → hh_S → Prop} (h : hh_cs σ → hh_can a1 → hh_can a2 → hh_can a3 → P_X2_layOut d a1 a2 a3 σ Q) : hh_Sp (d + 1) hm_X2_layOut [hh_R 36, hh_I a1, hh_I a2, hh_I a3, hh_R 126] σ Q :=
  hh_entry rfl (Nat.le_of_ble_eq_true rfl) rfl (fun hs hc => w_X2_layOut (h hs (hc _ (List.mem_of_getElem? (i := 1) rfl)) (hc _ (List.mem_of_getElem? (i := 2) rfl)) (hc _ (List.mem_of_getElem? (i := 3) rfl))))
def B_X3_isKnown_31 (d : Nat) (Q : Int → hh_S → Prop) (σ : hh_S) : Prop :=
  Q 1 σ
def P_X3_isKnown (d : Nat) (a1 a2 : Int) (σ : hh_S) (Q : Int → hh_S → Prop) : Prop :=
  ((0 ≤ a1 ∧ a1 < 90)) ∧ ((a2 < σ 31 a1 → Q 0 σ) ∧ (¬ a2 < σ 31 a1 → ((0 ≤ a1 ∧ a1 < 90)) ∧ ((σ 32 a1 = (-1000000005) → B_X3_isKnown_31 d Q σ) ∧ (¬ σ 32 a1 = (-1000000005) → ((0 ≤ a1 ∧ a1 < 90)) ∧ ((σ 32 a1 ≤ a2 → Q 0 σ) ∧ (¬ σ 32 a1 ≤ a2 → B_X3_isKnown_31 d Q σ))))))
set_option maxRecDepth 20000 in
theorem w_X3_isKnown_31 {d : Nat} {Q : Int → hh_S → Prop} (σ : hh_S) (h : B_X3_isKnown_31 d Q σ) : hh_J (d + 1) hm_X3_isKnown 31 [none, none, none] [] σ Q := by
  unfold B_X3_isKnown_31 at h
  refine hh_iconst dX3_isKnown_31 (by decide) ?_
  refine hh_goto (tgt := 36) dX3_isKnown_32 (by decide) ?_
  exact hh_zreturn dX3_isKnown_36 rfl (by decide) h
set_option maxRecDepth 20000 in
theorem w_X3_isKnown {d : Nat} {a1 a2 : Int} {σ : hh_S} {Q : Int → hh_S → Prop} (h : P_X3_isKnown d a1 a2 σ Q) : hh_J (d + 1) hm_X3_isKnown 0 [some (hh_R 24), some (hh_I a1), some (hh_I a2)] [] σ Q := by
  unfold P_X3_isKnown at h
  obtain ⟨q1, h⟩ := h
  refine hh_aload_n dX3_isKnown_0 rfl ?_
  refine hh_getR dX3_isKnown_1 kf_X3_30 rf_24_7 ?_
  refine hh_iload_n dX3_isKnown_4 rfl ?_
  refine hh_iald dX3_isKnown_5 ra_31 q1 rfl ?_
  refine hh_iload_n dX3_isKnown_6 rfl ?_
  refine hh_icmp_gt (tgt := 35) dX3_isKnown_7 (by decide) (fun c => ?_) (fun c => ?_)
  · replace h := h.1 c
    refine hh_iconst dX3_isKnown_35 (by decide) ?_
    exact hh_zreturn dX3_isKnown_36 rfl (by decide) h
  · replace h := h.2 c
    obtain ⟨q1, h⟩ := h
    refine hh_aload_n dX3_isKnown_10 rfl ?_
    refine hh_getR dX3_isKnown_11 kf_X3_33 rf_24_8 ?_
    refine hh_iload_n dX3_isKnown_14 rfl ?_
    refine hh_iald dX3_isKnown_15 ra_32 q1 rfl ?_
    refine hh_ldc (n := -1000000005) dX3_isKnown_16 kc_X3_53 (by decide) ?_
    refine hh_icmp_eq (tgt := 31) dX3_isKnown_18 (by decide) (fun c => ?_) (fun c => ?_)
    · replace h := h.1 c
      exact hh_forget [false, false, false] (w_X3_isKnown_31 _ h)
    · replace h := h.2 c
      obtain ⟨q1, h⟩ := h
      refine hh_aload_n dX3_isKnown_21 rfl ?_
      refine hh_getR dX3_isKnown_22 kf_X3_33 rf_24_8 ?_
      refine hh_iload_n dX3_isKnown_25 rfl ?_
      refine hh_iald dX3_isKnown_26 ra_32 q1 rfl ?_
      refine hh_iload_n dX3_isKnown_27 rfl ?_
      refine hh_icmp_le (tgt := 35) dX3_isKnown_28 (by decide) (fun c => ?_) (fun c => ?_)
      · replace h := h.1 c
        refine hh_iconst dX3_isKnown_35 (by decide) ?_
        exact hh_zreturn dX3_isKnown_36 rfl (by decide) h
      · replace h := h.2 c
        exact hh_forget [false, false, false] (w_X3_isKnown_31 _ h)
theorem wp_X3_isKnown {d : Nat} (a1 a2 : Int) {σ : hh_S} {Q : Int → hh_S → Prop} (h : hh_cs σ → hh_can a1 → hh_can a2 → P_X3_isKnown d a1 a2 σ Q) : hh_Sp (d + 1) hm_X3_isKnown [hh_R 24, hh_I a1, hh_I a2] σ Q :=
  hh_entry rfl (Nat.le_of_ble_eq_true rfl) rfl (fun hs hc => w_X3_isKnown (h hs (hc _ (List.mem_of_getElem? (i := 1) rfl)) (hc _ (List.mem_of_getElem? (i := 2) rfl))))
def B_X3_layOut_115 (d : Nat) (Q : Int → hh_S → Prop) (k6 : Int → Int → Int → Int → Int → hh_S → Prop) (x1 x2 x3 x5 x6 : Int) (σ : hh_S) : Prop :=
  ((-2147483648 ≤ x6 + 1 ∧ x6 + 1 ≤ 2147483647)) ∧ (k6 x1 x2 x3 x5 (x6 + 1) σ)
def B_X3_layOut_103 (d : Nat) (Q : Int → hh_S → Prop) (k6 : Int → Int → Int → Int → Int → hh_S → Prop) (x1 x2 x3 x5 x6 : Int) (σ : hh_S) : Prop :=
  ((0 ≤ x6 ∧ x6 < 90) ∧ (-2147483648 ≤ x5 + (σ 29 x6) ∧ x5 + (σ 29 x6) ≤ 2147483647)) ∧ (B_X3_layOut_115 d Q k6 x1 x2 x3 (x5 + (σ 29 x6)) x6 σ)
def B_X3_layOut_73 (d : Nat) (Q : Int → hh_S → Prop) (k6 : Int → Int → Int → Int → Int → hh_S → Prop) (k73 : Int → Int → Int → Int → Int → Int → Int → hh_S → Prop) (x1 x2 x3 x5 x6 x7 x8 : Int) (σ : hh_S) : Prop :=
  (x7 ≤ x8 → B_X3_layOut_103 d Q k6 x1 x2 x3 x5 x6 σ) ∧ (¬ x7 ≤ x8 → (240 ≤ x8 → B_X3_layOut_103 d Q k6 x1 x2 x3 x5 x6 σ) ∧ (¬ 240 ≤ x8 → ((0 ≤ x8 ∧ x8 < 240) ∧ (-2147483648 ≤ σ 125 x8 + 1 ∧ σ 125 x8 + 1 ≤ 2147483647) ∧ (-2147483648 ≤ x8 + 1 ∧ x8 + 1 ≤ 2147483647)) ∧ (k73 x1 x2 x3 x5 x6 x7 (x8 + 1) (hh_up σ 125 x8 (σ 125 x8 + 1)))))
def B_X3_layOut_6 (d : Nat) (Q : Int → hh_S → Prop) (k6 : Int → Int → Int → Int → Int → hh_S → Prop) (x1 x2 x3 x5 x6 : Int) (σ : hh_S) : Prop :=
  (σ 24 0 ≤ x6 → Q x5 σ) ∧ (¬ σ 24 0 ≤ x6 → ((0 ≤ x6 ∧ x6 < 90)) ∧ ((¬ σ 25 x6 = x1 → B_X3_layOut_115 d Q k6 x1 x2 x3 x5 x6 σ) ∧ (σ 25 x6 = x1 → ((0 ≤ x6 ∧ x6 < 90)) ∧ ((¬ σ 27 x6 = x2 → B_X3_layOut_115 d Q k6 x1 x2 x3 x5 x6 σ) ∧ (σ 27 x6 = x2 → hh_Sp d hm_X3_isKnown [hh_R 24, hh_I x6, hh_I x3] σ (fun r41 σ41 => (r41 = 0 → B_X3_layOut_115 d Q k6 x1 x2 x3 x5 x6 σ41) ∧ (¬ r41 = 0 → ((0 ≤ x6 ∧ x6 < 90) ∧ (-2147483648 ≤ σ41 28 x6 + (σ41 29 x6) ∧ σ41 28 x6 + (σ41 29 x6) ≤ 2147483647)) ∧ (∃ n, hh_lp7 (B_X3_layOut_73 d Q k6) n x1 x2 x3 x5 x6 (σ41 28 x6 + (σ41 29 x6)) (σ41 28 x6) σ41))))))))
def P_X3_layOut (d : Nat) (a1 a2 a3 : Int) (σ : hh_S) (Q : Int → hh_S → Prop) : Prop :=
  ∃ n, hh_lp5 (B_X3_layOut_6 d Q) n a1 a2 a3 0 0 σ
set_option maxRecDepth 20000 in
theorem w_X3_layOut_115 {d : Nat} {Q : Int → hh_S → Prop} {k6 : Int → Int → Int → Int → Int → hh_S → Prop} (hk6 : ∀ (x1 x2 x3 x5 x6 : Int) (σ : hh_S), k6 x1 x2 x3 x5 x6 σ → hh_J (d + 1) hm_X3_layOut 6 [some (hh_R 24), some (hh_I x1), some (hh_I x2), some (hh_I x3), some (hh_R 125), some (hh_I x5), some (hh_I x6), none, none] [] σ Q) (x1 x2 x3 x5 x6 : Int) (σ : hh_S) (h : B_X3_layOut_115 d Q k6 x1 x2 x3 x5 x6 σ) : hh_J (d + 1) hm_X3_layOut 115 [some (hh_R 24), some (hh_I x1), some (hh_I x2), some (hh_I x3), some (hh_R 125), some (hh_I x5), some (hh_I x6), none, none] [] σ Q := by
  unfold B_X3_layOut_115 at h
  obtain ⟨q1, h⟩ := h
  refine hh_iinc dX3_layOut_115 (by decide) rfl rfl q1 ?_
  refine hh_goto (tgt := 6) dX3_layOut_118 (by decide) ?_
  exact hh_forget [true, true, true, true, true, true, true, false, false] (hk6 _ _ _ _ _ _ h)
set_option maxRecDepth 20000 in
theorem w_X3_layOut_103 {d : Nat} {Q : Int → hh_S → Prop} {k6 : Int → Int → Int → Int → Int → hh_S → Prop} (hk6 : ∀ (x1 x2 x3 x5 x6 : Int) (σ : hh_S), k6 x1 x2 x3 x5 x6 σ → hh_J (d + 1) hm_X3_layOut 6 [some (hh_R 24), some (hh_I x1), some (hh_I x2), some (hh_I x3), some (hh_R 125), some (hh_I x5), some (hh_I x6), none, none] [] σ Q) (x1 x2 x3 x5 x6 : Int) (σ : hh_S) (h : B_X3_layOut_103 d Q k6 x1 x2 x3 x5 x6 σ) : hh_J (d + 1) hm_X3_layOut 103 [some (hh_R 24), some (hh_I x1), some (hh_I x2), some (hh_I x3), some (hh_R 125), some (hh_I x5), some (hh_I x6), none, none] [] σ Q := by
  unfold B_X3_layOut_103 at h
  obtain ⟨⟨q1, q2⟩, h⟩ := h
  refine hh_iload dX3_layOut_103 rfl ?_
  refine hh_aload_n dX3_layOut_105 rfl ?_
  refine hh_getR dX3_layOut_106 kf_X3_24 rf_24_5 ?_
  refine hh_iload dX3_layOut_109 rfl ?_
  refine hh_iald dX3_layOut_111 ra_29 q1 rfl ?_
  refine hh_iadd dX3_layOut_112 q2 ?_
  refine hh_istore dX3_layOut_113 (by decide) rfl ?_
  exact hh_forget [true, true, true, true, true, true, true, false, false] (w_X3_layOut_115 hk6 _ _ _ _ _ _ h)
set_option maxRecDepth 20000 in
theorem w_X3_layOut_73 {d : Nat} {Q : Int → hh_S → Prop} {k6 : Int → Int → Int → Int → Int → hh_S → Prop} {k73 : Int → Int → Int → Int → Int → Int → Int → hh_S → Prop} (hk6 : ∀ (x1 x2 x3 x5 x6 : Int) (σ : hh_S), k6 x1 x2 x3 x5 x6 σ → hh_J (d + 1) hm_X3_layOut 6 [some (hh_R 24), some (hh_I x1), some (hh_I x2), some (hh_I x3), some (hh_R 125), some (hh_I x5), some (hh_I x6), none, none] [] σ Q) (hk73 : ∀ (x1 x2 x3 x5 x6 x7 x8 : Int) (σ : hh_S), k73 x1 x2 x3 x5 x6 x7 x8 σ → hh_J (d + 1) hm_X3_layOut 73 [some (hh_R 24), some (hh_I x1), some (hh_I x2), some (hh_I x3), some (hh_R 125), some (hh_I x5), some (hh_I x6), some (hh_I x7), some (hh_I x8)] [] σ Q) (x1 x2 x3 x5 x6 x7 x8 : Int) (σ : hh_S) (h : B_X3_layOut_73 d Q k6 k73 x1 x2 x3 x5 x6 x7 x8 σ) : hh_J (d + 1) hm_X3_layOut 73 [some (hh_R 24), some (hh_I x1), some (hh_I x2), some (hh_I x3), some (hh_R 125), some (hh_I x5), some (hh_I x6), some (hh_I x7), some (hh_I x8)] [] σ Q := by
  unfold B_X3_layOut_73 at h
  refine hh_iload dX3_layOut_73 rfl ?_
  refine hh_iload dX3_layOut_75 rfl ?_
  refine hh_icmp_ge (tgt := 103) dX3_layOut_77 (by decide) (fun c => ?_) (fun c => ?_)
  · replace h := h.1 c
    exact hh_forget [true, true, true, true, true, true, true, false, false] (w_X3_layOut_103 hk6 _ _ _ _ _ _ h)
  · replace h := h.2 c
    refine hh_iload dX3_layOut_80 rfl ?_
    refine hh_aload dX3_layOut_82 rfl ?_
    refine hh_alen dX3_layOut_84 ra_125 (by decide) ?_
    refine hh_icmp_ge (tgt := 103) dX3_layOut_85 (by decide) (fun c => ?_) (fun c => ?_)
    · replace h := h.1 c
      exact hh_forget [true, true, true, true, true, true, true, false, false] (w_X3_layOut_103 hk6 _ _ _ _ _ _ h)
    · replace h := h.2 c
      obtain ⟨⟨q1, q2, q3⟩, h⟩ := h
      refine hh_aload dX3_layOut_88 rfl ?_
      refine hh_iload dX3_layOut_90 rfl ?_
      refine hh_dup2 dX3_layOut_92 (fun _ => rfl) (fun _ => rfl) ?_
      refine hh_iald dX3_layOut_93 ra_125 q1 rfl ?_
      refine hh_iconst dX3_layOut_94 (by decide) ?_
      refine hh_iadd dX3_layOut_95 q2 ?_
      refine hh_iast dX3_layOut_96 ra_125 q1 ?_
      refine hh_iinc dX3_layOut_97 (by decide) rfl rfl q3 ?_
      refine hh_goto (tgt := 73) dX3_layOut_100 (by decide) ?_
      exact hh_forget [true, true, true, true, true, true, true, true, true] (hk73 _ _ _ _ _ _ _ _ h)
theorem l_X3_layOut_73 {d : Nat} {Q : Int → hh_S → Prop} {k6 : Int → Int → Int → Int → Int → hh_S → Prop} (hk6 : ∀ (x1 x2 x3 x5 x6 : Int) (σ : hh_S), k6 x1 x2 x3 x5 x6 σ → hh_J (d + 1) hm_X3_layOut 6 [some (hh_R 24), some (hh_I x1), some (hh_I x2), some (hh_I x3), some (hh_R 125), some (hh_I x5), some (hh_I x6), none, none] [] σ Q) : ∀ (n : Nat) (x1 x2 x3 x5 x6 x7 x8 : Int) (σ : hh_S), hh_lp7 (B_X3_layOut_73 d Q k6) n x1 x2 x3 x5 x6 x7 x8 σ → hh_J (d + 1) hm_X3_layOut 73 [some (hh_R 24), some (hh_I x1), some (hh_I x2), some (hh_I x3), some (hh_R 125), some (hh_I x5), some (hh_I x6), some (hh_I x7), some (hh_I x8)] [] σ Q := by
  intro n
  induction n with
  | zero => intro _ _ _ _ _ _ _ _ h; exact h.elim
  | succ n ih => intro x1 x2 x3 x5 x6 x7 x8 σ h; exact w_X3_layOut_73 hk6 ih x1 x2 x3 x5 x6 x7 x8 σ h
set_option maxRecDepth 20000 in
theorem w_X3_layOut_6 {d : Nat} {Q : Int → hh_S → Prop} {k6 : Int → Int → Int → Int → Int → hh_S → Prop} (hk6 : ∀ (x1 x2 x3 x5 x6 : Int) (σ : hh_S), k6 x1 x2 x3 x5 x6 σ → hh_J (d + 1) hm_X3_layOut 6 [some (hh_R 24), some (hh_I x1), some (hh_I x2), some (hh_I x3), some (hh_R 125), some (hh_I x5), some (hh_I x6), none, none] [] σ Q) (x1 x2 x3 x5 x6 : Int) (σ : hh_S) (h : B_X3_layOut_6 d Q k6 x1 x2 x3 x5 x6 σ) : hh_J (d + 1) hm_X3_layOut 6 [some (hh_R 24), some (hh_I x1), some (hh_I x2), some (hh_I x3), some (hh_R 125), some (hh_I x5), some (hh_I x6), none, none] [] σ Q := by
  unfold B_X3_layOut_6 at h
  refine hh_iload dX3_layOut_6 rfl ?_
  refine hh_aload_n dX3_layOut_8 rfl ?_
  refine hh_getI dX3_layOut_9 kf_X3_45 rf_24_0 rfl ?_
  refine hh_icmp_ge (tgt := 121) dX3_layOut_12 (by decide) (fun c => ?_) (fun c => ?_)
  · replace h := h.1 c
    refine hh_iload dX3_layOut_121 rfl ?_
    exact hh_ireturn dX3_layOut_123 rfl h
  · replace h := h.2 c
    obtain ⟨q1, h⟩ := h
    refine hh_aload_n dX3_layOut_15 rfl ?_
    refine hh_getR dX3_layOut_16 kf_X3_9 rf_24_1 ?_
    refine hh_iload dX3_layOut_19 rfl ?_
    refine hh_iald dX3_layOut_21 ra_25 q1 rfl ?_
    refine hh_iload_n dX3_layOut_22 rfl ?_
    refine hh_icmp_ne (tgt := 115) dX3_layOut_23 (by decide) (fun c => ?_) (fun c => ?_)
    · replace h := h.1 c
      exact hh_forget [true, true, true, true, true, true, true, false, false] (w_X3_layOut_115 hk6 _ _ _ _ _ _ h)
    · replace h := h.2 c
      obtain ⟨q1, h⟩ := h
      refine hh_aload_n dX3_layOut_26 rfl ?_
      refine hh_getR dX3_layOut_27 kf_X3_18 rf_24_3 ?_
      refine hh_iload dX3_layOut_30 rfl ?_
      refine hh_iald dX3_layOut_32 ra_27 q1 rfl ?_
      refine hh_iload_n dX3_layOut_33 rfl ?_
      refine hh_icmp_ne (tgt := 115) dX3_layOut_34 (by decide) (fun c => ?_) (fun c => ?_)
      · replace h := h.1 c
        exact hh_forget [true, true, true, true, true, true, true, false, false] (w_X3_layOut_115 hk6 _ _ _ _ _ _ h)
      · replace h := h.2 c
        refine hh_aload_n dX3_layOut_37 rfl ?_
        refine hh_iload dX3_layOut_38 rfl ?_
        refine hh_iload_n dX3_layOut_40 rfl ?_
        refine hh_cV2 dX3_layOut_41 lk_X3_54 mo_X3_isKnown rc_24 (Nat.le_of_ble_eq_true rfl) h (fun r41 σ41 h => ?_)
        refine hh_if_eq (tgt := 115) dX3_layOut_44 (by decide) (fun c => ?_) (fun c => ?_)
        · replace h := h.1 c
          exact hh_forget [true, true, true, true, true, true, true, false, false] (w_X3_layOut_115 hk6 _ _ _ _ _ _ h)
        · replace h := h.2 c
          obtain ⟨⟨q1, q2⟩, h⟩ := h
          refine hh_aload_n dX3_layOut_47 rfl ?_
          refine hh_getR dX3_layOut_48 kf_X3_21 rf_24_4 ?_
          refine hh_iload dX3_layOut_51 rfl ?_
          refine hh_iald dX3_layOut_53 ra_28 q1 rfl ?_
          refine hh_aload_n dX3_layOut_54 rfl ?_
          refine hh_getR dX3_layOut_55 kf_X3_24 rf_24_5 ?_
          refine hh_iload dX3_layOut_58 rfl ?_
          refine hh_iald dX3_layOut_60 ra_29 q1 rfl ?_
          refine hh_iadd dX3_layOut_61 q2 ?_
          refine hh_istore dX3_layOut_62 (by decide) rfl ?_
          refine hh_aload_n dX3_layOut_64 rfl ?_
          refine hh_getR dX3_layOut_65 kf_X3_21 rf_24_4 ?_
          refine hh_iload dX3_layOut_68 rfl ?_
          refine hh_iald dX3_layOut_70 ra_28 q1 rfl ?_
          refine hh_istore dX3_layOut_71 (by decide) rfl ?_
          obtain ⟨n, h⟩ := h
          exact hh_forget [true, true, true, true, true, true, true, true, true] (l_X3_layOut_73 hk6 n _ _ _ _ _ _ _ _ h)
theorem l_X3_layOut_6 {d : Nat} {Q : Int → hh_S → Prop} : ∀ (n : Nat) (x1 x2 x3 x5 x6 : Int) (σ : hh_S), hh_lp5 (B_X3_layOut_6 d Q) n x1 x2 x3 x5 x6 σ → hh_J (d + 1) hm_X3_layOut 6 [some (hh_R 24), some (hh_I x1), some (hh_I x2), some (hh_I x3), some (hh_R 125), some (hh_I x5), some (hh_I x6), none, none] [] σ Q := by
  intro n
  induction n with
  | zero => intro _ _ _ _ _ _ h; exact h.elim
  | succ n ih => intro x1 x2 x3 x5 x6 σ h; exact w_X3_layOut_6 ih x1 x2 x3 x5 x6 σ h
set_option maxRecDepth 20000 in
theorem w_X3_layOut {d : Nat} {a1 a2 a3 : Int} {σ : hh_S} {Q : Int → hh_S → Prop} (h : P_X3_layOut d a1 a2 a3 σ Q) : hh_J (d + 1) hm_X3_layOut 0 [some (hh_R 24), some (hh_I a1), some (hh_I a2), some (hh_I a3), some (hh_R 125), none, none, none, none] [] σ Q := by
  unfold P_X3_layOut at h
  refine hh_iconst dX3_layOut_0 (by decide) ?_
  refine hh_istore dX3_layOut_1 (by decide) rfl ?_
  refine hh_iconst dX3_layOut_3 (by decide) ?_
  refine hh_istore dX3_layOut_4 (by decide) rfl ?_
  obtain ⟨n, h⟩ := h
  exact hh_forget [true, true, true, true, true, true, true, false, false] (l_X3_layOut_6 n _ _ _ _ _ _ h)
theorem wp_X3_layOut {d : Nat} (a1 a2 a3 : Int) {σ : hh_S} {Q : Int → hh_S → Prop} (h : hh_cs σ → hh_can a1 → hh_can a2 → hh_can a3 → P_X3_layOut d a1 a2 a3 σ Q) : hh_Sp (d + 1) hm_X3_layOut [hh_R 24, hh_I a1, hh_I a2, hh_I a3, hh_R 125] σ Q :=
  hh_entry rfl (Nat.le_of_ble_eq_true rfl) rfl (fun hs hc => w_X3_layOut (h hs (hc _ (List.mem_of_getElem? (i := 1) rfl)) (hc _ (List.mem_of_getElem? (i := 2) rfl)) (hc _ (List.mem_of_getElem? (i := 3) rfl))))
def B_X1_slotOn_62 (d : Nat) (Q : Int → hh_S → Prop) (k10 : Int → Int → Int → Int → Int → hh_S → Prop) (x1 x2 x3 x4 x5 : Int) (σ : hh_S) : Prop :=
  ((-2147483648 ≤ x5 + 1 ∧ x5 + 1 ≤ 2147483647)) ∧ (k10 x1 x2 x3 x4 (x5 + 1) σ)
def B_X1_slotOn_59 (d : Nat) (Q : Int → hh_S → Prop) (k10 : Int → Int → Int → Int → Int → hh_S → Prop) (x1 x2 x4 x5 x6 : Int) (σ : hh_S) : Prop :=
  B_X1_slotOn_62 d Q k10 x1 x2 x6 x4 x5 σ
def B_X1_slotOn_10 (d : Nat) (Q : Int → hh_S → Prop) (k10 : Int → Int → Int → Int → Int → hh_S → Prop) (x1 x2 x3 x4 x5 : Int) (σ : hh_S) : Prop :=
  ((0 ≤ x1 ∧ x1 < 5)) ∧ ((σ 8 x1 ≤ x5 → Q x3 σ) ∧ (¬ σ 8 x1 ≤ x5 → ((-2147483648 ≤ x4 + x5 ∧ x4 + x5 ≤ 2147483647) ∧ (0 ≤ x4 + x5 ∧ x4 + x5 < 15)) ∧ ((x2 < σ 9 (x4 + x5) → B_X1_slotOn_62 d Q k10 x1 x2 x3 x4 x5 σ) ∧ (¬ x2 < σ 9 (x4 + x5) → (x3 < 0 → B_X1_slotOn_59 d Q k10 x1 x2 x4 x5 (x4 + x5) σ) ∧ (¬ x3 < 0 → ((0 ≤ x4 + x5 ∧ x4 + x5 < 15) ∧ (0 ≤ x3 ∧ x3 < 15)) ∧ ((σ 9 (x4 + x5) < σ 9 x3 → B_X1_slotOn_62 d Q k10 x1 x2 x3 x4 x5 σ) ∧ (¬ σ 9 (x4 + x5) < σ 9 x3 → B_X1_slotOn_59 d Q k10 x1 x2 x4 x5 (x4 + x5) σ)))))))
def P_X1_slotOn (d : Nat) (a1 a2 : Int) (σ : hh_S) (Q : Int → hh_S → Prop) : Prop :=
  ((-2147483648 ≤ a1 * 3 ∧ a1 * 3 ≤ 2147483647)) ∧ (∃ n, hh_lp5 (B_X1_slotOn_10 d Q) n a1 a2 (-1) (a1 * 3) 0 σ)
set_option maxRecDepth 20000 in
theorem w_X1_slotOn_62 {d : Nat} {Q : Int → hh_S → Prop} {k10 : Int → Int → Int → Int → Int → hh_S → Prop} (hk10 : ∀ (x1 x2 x3 x4 x5 : Int) (σ : hh_S), k10 x1 x2 x3 x4 x5 σ → hh_J (d + 1) hm_X1_slotOn 10 [some (hh_R 6), some (hh_I x1), some (hh_I x2), some (hh_I x3), some (hh_I x4), some (hh_I x5), none] [] σ Q) (x1 x2 x3 x4 x5 : Int) (σ : hh_S) (h : B_X1_slotOn_62 d Q k10 x1 x2 x3 x4 x5 σ) : hh_J (d + 1) hm_X1_slotOn 62 [some (hh_R 6), some (hh_I x1), some (hh_I x2), some (hh_I x3), some (hh_I x4), some (hh_I x5), none] [] σ Q := by
  unfold B_X1_slotOn_62 at h
  obtain ⟨q1, h⟩ := h
  refine hh_iinc dX1_slotOn_62 (by decide) rfl rfl q1 ?_
  refine hh_goto (tgt := 10) dX1_slotOn_65 (by decide) ?_
  exact hh_forget [true, true, true, true, true, true, false] (hk10 _ _ _ _ _ _ h)
set_option maxRecDepth 20000 in
theorem w_X1_slotOn_59 {d : Nat} {Q : Int → hh_S → Prop} {k10 : Int → Int → Int → Int → Int → hh_S → Prop} (hk10 : ∀ (x1 x2 x3 x4 x5 : Int) (σ : hh_S), k10 x1 x2 x3 x4 x5 σ → hh_J (d + 1) hm_X1_slotOn 10 [some (hh_R 6), some (hh_I x1), some (hh_I x2), some (hh_I x3), some (hh_I x4), some (hh_I x5), none] [] σ Q) (x1 x2 x4 x5 x6 : Int) (σ : hh_S) (h : B_X1_slotOn_59 d Q k10 x1 x2 x4 x5 x6 σ) : hh_J (d + 1) hm_X1_slotOn 59 [some (hh_R 6), some (hh_I x1), some (hh_I x2), none, some (hh_I x4), some (hh_I x5), some (hh_I x6)] [] σ Q := by
  unfold B_X1_slotOn_59 at h
  refine hh_iload dX1_slotOn_59 rfl ?_
  refine hh_istore_n dX1_slotOn_61 (by decide) rfl ?_
  exact hh_forget [true, true, true, true, true, true, false] (w_X1_slotOn_62 hk10 _ _ _ _ _ _ h)
set_option maxRecDepth 20000 in
theorem w_X1_slotOn_10 {d : Nat} {Q : Int → hh_S → Prop} {k10 : Int → Int → Int → Int → Int → hh_S → Prop} (hk10 : ∀ (x1 x2 x3 x4 x5 : Int) (σ : hh_S), k10 x1 x2 x3 x4 x5 σ → hh_J (d + 1) hm_X1_slotOn 10 [some (hh_R 6), some (hh_I x1), some (hh_I x2), some (hh_I x3), some (hh_I x4), some (hh_I x5), none] [] σ Q) (x1 x2 x3 x4 x5 : Int) (σ : hh_S) (h : B_X1_slotOn_10 d Q k10 x1 x2 x3 x4 x5 σ) : hh_J (d + 1) hm_X1_slotOn 10 [some (hh_R 6), some (hh_I x1), some (hh_I x2), some (hh_I x3), some (hh_I x4), some (hh_I x5), none] [] σ Q := by
  unfold B_X1_slotOn_10 at h
  obtain ⟨q1, h⟩ := h
  refine hh_iload dX1_slotOn_10 rfl ?_
  refine hh_aload_n dX1_slotOn_12 rfl ?_
  refine hh_getR dX1_slotOn_13 kf_X1_15 rf_6_2 ?_
  refine hh_iload_n dX1_slotOn_16 rfl ?_
  refine hh_iald dX1_slotOn_17 ra_8 q1 rfl ?_
  refine hh_icmp_ge (tgt := 68) dX1_slotOn_18 (by decide) (fun c => ?_) (fun c => ?_)
  · replace h := h.1 c
    refine hh_iload_n dX1_slotOn_68 rfl ?_
    exact hh_ireturn dX1_slotOn_69 rfl h
  · replace h := h.2 c
    obtain ⟨⟨q1, q2⟩, h⟩ := h
    refine hh_iload dX1_slotOn_21 rfl ?_
    refine hh_iload dX1_slotOn_23 rfl ?_
    refine hh_iadd dX1_slotOn_25 q1 ?_
    refine hh_istore dX1_slotOn_26 (by decide) rfl ?_
    refine hh_aload_n dX1_slotOn_28 rfl ?_
    refine hh_getR dX1_slotOn_29 kf_X1_18 rf_6_3 ?_
    refine hh_iload dX1_slotOn_32 rfl ?_
    refine hh_iald dX1_slotOn_34 ra_9 q2 rfl ?_
    refine hh_iload_n dX1_slotOn_35 rfl ?_
    refine hh_icmp_gt (tgt := 62) dX1_slotOn_36 (by decide) (fun c => ?_) (fun c => ?_)
    · replace h := h.1 c
      exact hh_forget [true, true, true, true, true, true, false] (w_X1_slotOn_62 hk10 _ _ _ _ _ _ h)
    · replace h := h.2 c
      refine hh_iload_n dX1_slotOn_39 rfl ?_
      refine hh_if_lt (tgt := 59) dX1_slotOn_40 (by decide) (fun c => ?_) (fun c => ?_)
      · replace h := h.1 c
        exact hh_forget [true, true, true, false, true, true, true] (w_X1_slotOn_59 hk10 _ _ _ _ _ _ h)
      · replace h := h.2 c
        obtain ⟨⟨q1, q2⟩, h⟩ := h
        refine hh_aload_n dX1_slotOn_43 rfl ?_
        refine hh_getR dX1_slotOn_44 kf_X1_18 rf_6_3 ?_
        refine hh_iload dX1_slotOn_47 rfl ?_
        refine hh_iald dX1_slotOn_49 ra_9 q1 rfl ?_
        refine hh_aload_n dX1_slotOn_50 rfl ?_
        refine hh_getR dX1_slotOn_51 kf_X1_18 rf_6_3 ?_
        refine hh_iload_n dX1_slotOn_54 rfl ?_
        refine hh_iald dX1_slotOn_55 ra_9 q2 rfl ?_
        refine hh_icmp_lt (tgt := 62) dX1_slotOn_56 (by decide) (fun c => ?_) (fun c => ?_)
        · replace h := h.1 c
          exact hh_forget [true, true, true, true, true, true, false] (w_X1_slotOn_62 hk10 _ _ _ _ _ _ h)
        · replace h := h.2 c
          exact hh_forget [true, true, true, false, true, true, true] (w_X1_slotOn_59 hk10 _ _ _ _ _ _ h)
theorem l_X1_slotOn_10 {d : Nat} {Q : Int → hh_S → Prop} : ∀ (n : Nat) (x1 x2 x3 x4 x5 : Int) (σ : hh_S), hh_lp5 (B_X1_slotOn_10 d Q) n x1 x2 x3 x4 x5 σ → hh_J (d + 1) hm_X1_slotOn 10 [some (hh_R 6), some (hh_I x1), some (hh_I x2), some (hh_I x3), some (hh_I x4), some (hh_I x5), none] [] σ Q := by
  intro n
  induction n with
  | zero => intro _ _ _ _ _ _ h; exact h.elim
  | succ n ih => intro x1 x2 x3 x4 x5 σ h; exact w_X1_slotOn_10 ih x1 x2 x3 x4 x5 σ h
set_option maxRecDepth 20000 in
theorem w_X1_slotOn {d : Nat} {a1 a2 : Int} {σ : hh_S} {Q : Int → hh_S → Prop} (h : P_X1_slotOn d a1 a2 σ Q) : hh_J (d + 1) hm_X1_slotOn 0 [some (hh_R 6), some (hh_I a1), some (hh_I a2), none, none, none, none] [] σ Q := by
  unfold P_X1_slotOn at h
  obtain ⟨q1, h⟩ := h
  refine hh_iconst dX1_slotOn_0 (by decide) ?_
  refine hh_istore_n dX1_slotOn_1 (by decide) rfl ?_
  refine hh_iload_n dX1_slotOn_2 rfl ?_
  refine hh_iconst dX1_slotOn_3 (by decide) ?_
  refine hh_imul dX1_slotOn_4 q1 ?_
  refine hh_istore dX1_slotOn_5 (by decide) rfl ?_
  refine hh_iconst dX1_slotOn_7 (by decide) ?_
  refine hh_istore dX1_slotOn_8 (by decide) rfl ?_
  obtain ⟨n, h⟩ := h
  exact hh_forget [true, true, true, true, true, true, false] (l_X1_slotOn_10 n _ _ _ _ _ _ h)
theorem wp_X1_slotOn {d : Nat} (a1 a2 : Int) {σ : hh_S} {Q : Int → hh_S → Prop} (h : hh_cs σ → hh_can a1 → hh_can a2 → P_X1_slotOn d a1 a2 σ Q) : hh_Sp (d + 1) hm_X1_slotOn [hh_R 6, hh_I a1, hh_I a2] σ Q :=
  hh_entry rfl (Nat.le_of_ble_eq_true rfl) rfl (fun hs hc => w_X1_slotOn (h hs (hc _ (List.mem_of_getElem? (i := 1) rfl)) (hc _ (List.mem_of_getElem? (i := 2) rfl))))
def P_X10_slotOf (d : Nat) (a1 : Int) (σ : hh_S) (Q : Int → hh_S → Prop) : Prop :=
  ((0 ≤ a1 ∧ a1 < 90) ∧ (0 ≤ σ 26 a1 ∧ σ 26 a1 < 10)) ∧ (hh_Sp d hm_X1_slotOn [hh_R 6, hh_I (σ 15 (σ 26 a1)), hh_I (σ 27 a1)] σ (fun r44 σ44 => Q r44 σ44))
set_option maxRecDepth 20000 in
theorem w_X10_slotOf {d : Nat} {a1 : Int} {σ : hh_S} {Q : Int → hh_S → Prop} (h : P_X10_slotOf d a1 σ Q) : hh_J (d + 1) hm_X10_slotOf 0 [some (hh_R 112), some (hh_I a1), none] [] σ Q := by
  unfold P_X10_slotOf at h
  obtain ⟨⟨q1, q2⟩, h⟩ := h
  refine hh_aload_n dX10_slotOf_0 rfl ?_
  refine hh_getR dX10_slotOf_1 kf_X10_24 rf_112_0 ?_
  refine hh_getR dX10_slotOf_4 kf_X10_86 rf_1_2 ?_
  refine hh_getR dX10_slotOf_7 kf_X10_90 rf_13_2 ?_
  refine hh_aload_n dX10_slotOf_10 rfl ?_
  refine hh_getR dX10_slotOf_11 kf_X10_24 rf_112_0 ?_
  refine hh_getR dX10_slotOf_14 kf_X10_32 rf_1_3 ?_
  refine hh_getR dX10_slotOf_17 kf_X10_94 rf_24_2 ?_
  refine hh_iload_n dX10_slotOf_20 rfl ?_
  refine hh_iald dX10_slotOf_21 ra_26 q1 rfl ?_
  refine hh_iald dX10_slotOf_22 ra_15 q2 rfl ?_
  refine hh_istore_n dX10_slotOf_23 (by decide) rfl ?_
  refine hh_aload_n dX10_slotOf_24 rfl ?_
  refine hh_getR dX10_slotOf_25 kf_X10_24 rf_112_0 ?_
  refine hh_getR dX10_slotOf_28 kf_X10_43 rf_1_1 ?_
  refine hh_iload_n dX10_slotOf_31 rfl ?_
  refine hh_aload_n dX10_slotOf_32 rfl ?_
  refine hh_getR dX10_slotOf_33 kf_X10_24 rf_112_0 ?_
  refine hh_getR dX10_slotOf_36 kf_X10_32 rf_1_3 ?_
  refine hh_getR dX10_slotOf_39 kf_X10_96 rf_24_3 ?_
  refine hh_iload_n dX10_slotOf_42 rfl ?_
  refine hh_iald dX10_slotOf_43 ra_27 q1 rfl ?_
  refine hh_cV2 dX10_slotOf_44 lk_X10_99 mo_X1_slotOn rc_6 (Nat.le_of_ble_eq_true rfl) h (fun r44 σ44 h => ?_)
  exact hh_ireturn dX10_slotOf_47 rfl h
theorem wp_X10_slotOf {d : Nat} (a1 : Int) {σ : hh_S} {Q : Int → hh_S → Prop} (h : hh_cs σ → hh_can a1 → P_X10_slotOf d a1 σ Q) : hh_Sp (d + 1) hm_X10_slotOf [hh_R 112, hh_I a1] σ Q :=
  hh_entry rfl (Nat.le_of_ble_eq_true rfl) rfl (fun hs hc => w_X10_slotOf (h hs (hc _ (List.mem_of_getElem? (i := 1) rfl))))
def B_X10_combine_84 (d : Nat) (Q : Int → hh_S → Prop) (σ : hh_S) : Prop :=
  Q 1 σ
def P_X10_combine (d : Nat) (a0 a1 a2 : Int) (σ : hh_S) (Q : Int → hh_S → Prop) : Prop :=
  (a0 = 38 → (a1 = 0 → Q 0 σ) ∧ (¬ a1 = 0 → (a2 = 0 → Q 0 σ) ∧ (¬ a2 = 0 → Q 1 σ))) ∧ (a0 = 42 → Q (hh_wr (a1 * a2)) σ) ∧ (a0 = 43 → Q (hh_wr (a1 + a2)) σ) ∧ (a0 = 45 → Q (hh_wr (a1 - a2)) σ) ∧ (a0 = 60 → (a2 ≤ a1 → Q 0 σ) ∧ (¬ a2 ≤ a1 → Q 1 σ)) ∧ (a0 = 61 → (¬ a1 = a2 → Q 0 σ) ∧ (a1 = a2 → Q 1 σ)) ∧ (a0 = 62 → (a1 ≤ a2 → Q 0 σ) ∧ (¬ a1 ≤ a2 → Q 1 σ)) ∧ (a0 = 124 → (¬ a1 = 0 → B_X10_combine_84 d Q σ) ∧ (a1 = 0 → (a2 = 0 → Q 0 σ) ∧ (¬ a2 = 0 → B_X10_combine_84 d Q σ))) ∧ (a0 ≠ 38 ∧ a0 ≠ 42 ∧ a0 ≠ 43 ∧ a0 ≠ 45 ∧ a0 ≠ 60 ∧ a0 ≠ 61 ∧ a0 ≠ 62 ∧ a0 ≠ 124 → (¬ a2 = 0 → (a2 ≠ 0) ∧ (Q (hh_wr (a1.tdiv a2)) σ)) ∧ (a2 = 0 → Q 0 σ))
set_option maxRecDepth 20000 in
theorem w_X10_combine_84 {d : Nat} {Q : Int → hh_S → Prop} (σ : hh_S) (h : B_X10_combine_84 d Q σ) : hh_J (d + 1) hm_X10_combine 84 [none, none, none] [] σ Q := by
  unfold B_X10_combine_84 at h
  refine hh_iconst dX10_combine_84 (by decide) ?_
  refine hh_goto (tgt := 89) dX10_combine_85 (by decide) ?_
  exact hh_ireturn dX10_combine_89 rfl h
set_option maxRecDepth 20000 in
theorem w_X10_combine {d : Nat} {a0 a1 a2 : Int} {σ : hh_S} {Q : Int → hh_S → Prop} (h : P_X10_combine d a0 a1 a2 σ Q) : hh_J (d + 1) hm_X10_combine 0 [some (hh_I a0), some (hh_I a1), some (hh_I a2)] [] σ Q := by
  unfold P_X10_combine at h
  refine hh_iload_n dX10_combine_0 rfl ?_
  refine hh_lookup dX10_combine_1 (by decide) ?_
  by_cases c0 : a0 = 38
  · refine ⟨89, 90, by rw [c0]; rfl, by decide, ?_⟩
    replace h := h.1 c0
    refine hh_iload_n dX10_combine_90 rfl ?_
    refine hh_if_eq (tgt := 102) dX10_combine_91 (by decide) (fun c => ?_) (fun c => ?_)
    · replace h := h.1 c
      refine hh_iconst dX10_combine_102 (by decide) ?_
      exact hh_ireturn dX10_combine_103 rfl h
    · replace h := h.2 c
      refine hh_iload_n dX10_combine_94 rfl ?_
      refine hh_if_eq (tgt := 102) dX10_combine_95 (by decide) (fun c => ?_) (fun c => ?_)
      · replace h := h.1 c
        refine hh_iconst dX10_combine_102 (by decide) ?_
        exact hh_ireturn dX10_combine_103 rfl h
      · replace h := h.2 c
        refine hh_iconst dX10_combine_98 (by decide) ?_
        refine hh_goto (tgt := 103) dX10_combine_99 (by decide) ?_
        exact hh_ireturn dX10_combine_103 rfl h
  by_cases c1 : a0 = 42
  · refine ⟨144, 145, by rw [c1]; rfl, by decide, ?_⟩
    replace h := h.2.1 c1
    refine hh_iload_n dX10_combine_145 rfl ?_
    refine hh_iload_n dX10_combine_146 rfl ?_
    refine hh_imul_w dX10_combine_147 ?_
    exact hh_ireturn dX10_combine_148 rfl h
  by_cases c2 : a0 = 43
  · refine ⟨136, 137, by rw [c2]; rfl, by decide, ?_⟩
    replace h := h.2.2.1 c2
    refine hh_iload_n dX10_combine_137 rfl ?_
    refine hh_iload_n dX10_combine_138 rfl ?_
    refine hh_iadd_w dX10_combine_139 ?_
    exact hh_ireturn dX10_combine_140 rfl h
  by_cases c3 : a0 = 45
  · refine ⟨140, 141, by rw [c3]; rfl, by decide, ?_⟩
    replace h := h.2.2.2.1 c3
    refine hh_iload_n dX10_combine_141 rfl ?_
    refine hh_iload_n dX10_combine_142 rfl ?_
    refine hh_isub_w dX10_combine_143 ?_
    exact hh_ireturn dX10_combine_144 rfl h
  by_cases c4 : a0 = 60
  · refine ⟨103, 104, by rw [c4]; rfl, by decide, ?_⟩
    replace h := h.2.2.2.2.1 c4
    refine hh_iload_n dX10_combine_104 rfl ?_
    refine hh_iload_n dX10_combine_105 rfl ?_
    refine hh_icmp_ge (tgt := 113) dX10_combine_106 (by decide) (fun c => ?_) (fun c => ?_)
    · replace h := h.1 c
      refine hh_iconst dX10_combine_113 (by decide) ?_
      exact hh_ireturn dX10_combine_114 rfl h
    · replace h := h.2 c
      refine hh_iconst dX10_combine_109 (by decide) ?_
      refine hh_goto (tgt := 114) dX10_combine_110 (by decide) ?_
      exact hh_ireturn dX10_combine_114 rfl h
  by_cases c5 : a0 = 61
  · refine ⟨114, 115, by rw [c5]; rfl, by decide, ?_⟩
    replace h := h.2.2.2.2.2.1 c5
    refine hh_iload_n dX10_combine_115 rfl ?_
    refine hh_iload_n dX10_combine_116 rfl ?_
    refine hh_icmp_ne (tgt := 124) dX10_combine_117 (by decide) (fun c => ?_) (fun c => ?_)
    · replace h := h.1 c
      refine hh_iconst dX10_combine_124 (by decide) ?_
      exact hh_ireturn dX10_combine_125 rfl h
    · replace h := h.2 c
      refine hh_iconst dX10_combine_120 (by decide) ?_
      refine hh_goto (tgt := 125) dX10_combine_121 (by decide) ?_
      exact hh_ireturn dX10_combine_125 rfl h
  by_cases c6 : a0 = 62
  · refine ⟨125, 126, by rw [c6]; rfl, by decide, ?_⟩
    replace h := h.2.2.2.2.2.2.1 c6
    refine hh_iload_n dX10_combine_126 rfl ?_
    refine hh_iload_n dX10_combine_127 rfl ?_
    refine hh_icmp_le (tgt := 135) dX10_combine_128 (by decide) (fun c => ?_) (fun c => ?_)
    · replace h := h.1 c
      refine hh_iconst dX10_combine_135 (by decide) ?_
      exact hh_ireturn dX10_combine_136 rfl h
    · replace h := h.2 c
      refine hh_iconst dX10_combine_131 (by decide) ?_
      refine hh_goto (tgt := 136) dX10_combine_132 (by decide) ?_
      exact hh_ireturn dX10_combine_136 rfl h
  by_cases c7 : a0 = 124
  · refine ⟨75, 76, by rw [c7]; rfl, by decide, ?_⟩
    replace h := h.2.2.2.2.2.2.2.1 c7
    refine hh_iload_n dX10_combine_76 rfl ?_
    refine hh_if_ne (tgt := 84) dX10_combine_77 (by decide) (fun c => ?_) (fun c => ?_)
    · replace h := h.1 c
      exact hh_forget [false, false, false] (w_X10_combine_84 _ h)
    · replace h := h.2 c
      refine hh_iload_n dX10_combine_80 rfl ?_
      refine hh_if_eq (tgt := 88) dX10_combine_81 (by decide) (fun c => ?_) (fun c => ?_)
      · replace h := h.1 c
        refine hh_iconst dX10_combine_88 (by decide) ?_
        exact hh_ireturn dX10_combine_89 rfl h
      · replace h := h.2 c
        exact hh_forget [false, false, false] (w_X10_combine_84 _ h)
  refine ⟨148, 149, by simp [Op.lookupswitch.offset, Ne.symm c0, Ne.symm c1, Ne.symm c2, Ne.symm c3, Ne.symm c4, Ne.symm c5, Ne.symm c6, Ne.symm c7], by decide, ?_⟩
  replace h := h.2.2.2.2.2.2.2.2 ⟨c0, c1, c2, c3, c4, c5, c6, c7⟩
  refine hh_iload_n dX10_combine_149 rfl ?_
  refine hh_if_ne (tgt := 157) dX10_combine_150 (by decide) (fun c => ?_) (fun c => ?_)
  · replace h := h.1 c
    obtain ⟨q1, h⟩ := h
    refine hh_iload_n dX10_combine_157 rfl ?_
    refine hh_iload_n dX10_combine_158 rfl ?_
    refine hh_idiv_w dX10_combine_159 q1 ?_
    exact hh_ireturn dX10_combine_160 rfl h
  · replace h := h.2 c
    refine hh_iconst dX10_combine_153 (by decide) ?_
    refine hh_goto (tgt := 160) dX10_combine_154 (by decide) ?_
    exact hh_ireturn dX10_combine_160 rfl h
theorem wp_X10_combine {d : Nat} (a0 a1 a2 : Int) {σ : hh_S} {Q : Int → hh_S → Prop} (h : hh_cs σ → hh_can a0 → hh_can a1 → hh_can a2 → P_X10_combine d a0 a1 a2 σ Q) : hh_Sp (d + 1) hm_X10_combine [hh_I a0, hh_I a1, hh_I a2] σ Q :=
  hh_entry rfl (Nat.le_of_ble_eq_true rfl) rfl (fun hs hc => w_X10_combine (h hs (hc _ (List.mem_of_getElem? (i := 0) rfl)) (hc _ (List.mem_of_getElem? (i := 1) rfl)) (hc _ (List.mem_of_getElem? (i := 2) rfl))))
def P_X3_meet (d : Nat) (a1 a2 : Int) (σ : hh_S) (Q : Int → hh_S → Prop) : Prop :=
  ((0 ≤ a1 ∧ a1 < 90) ∧ (0 ≤ a2 ∧ a2 < 90)) ∧ ((¬ σ 27 a1 = σ 27 a2 → Q 0 σ) ∧ (σ 27 a1 = σ 27 a2 → ((0 ≤ a1 ∧ a1 < 90) ∧ (0 ≤ a2 ∧ a2 < 90) ∧ (-2147483648 ≤ σ 28 a2 + (σ 29 a2) ∧ σ 28 a2 + (σ 29 a2) ≤ 2147483647)) ∧ ((σ 28 a2 + (σ 29 a2) ≤ σ 28 a1 → Q 0 σ) ∧ (¬ σ 28 a2 + (σ 29 a2) ≤ σ 28 a1 → ((0 ≤ a2 ∧ a2 < 90) ∧ (0 ≤ a1 ∧ a1 < 90) ∧ (-2147483648 ≤ σ 28 a1 + (σ 29 a1) ∧ σ 28 a1 + (σ 29 a1) ≤ 2147483647)) ∧ ((σ 28 a1 + (σ 29 a1) ≤ σ 28 a2 → Q 0 σ) ∧ (¬ σ 28 a1 + (σ 29 a1) ≤ σ 28 a2 → Q 1 σ))))))
set_option maxRecDepth 20000 in
theorem w_X3_meet {d : Nat} {a1 a2 : Int} {σ : hh_S} {Q : Int → hh_S → Prop} (h : P_X3_meet d a1 a2 σ Q) : hh_J (d + 1) hm_X3_meet 0 [some (hh_R 24), some (hh_I a1), some (hh_I a2)] [] σ Q := by
  unfold P_X3_meet at h
  obtain ⟨⟨q1, q2⟩, h⟩ := h
  refine hh_aload_n dX3_meet_0 rfl ?_
  refine hh_getR dX3_meet_1 kf_X3_18 rf_24_3 ?_
  refine hh_iload_n dX3_meet_4 rfl ?_
  refine hh_iald dX3_meet_5 ra_27 q1 rfl ?_
  refine hh_aload_n dX3_meet_6 rfl ?_
  refine hh_getR dX3_meet_7 kf_X3_18 rf_24_3 ?_
  refine hh_iload_n dX3_meet_10 rfl ?_
  refine hh_iald dX3_meet_11 ra_27 q2 rfl ?_
  refine hh_icmp_ne (tgt := 63) dX3_meet_12 (by decide) (fun c => ?_) (fun c => ?_)
  · replace h := h.1 c
    refine hh_iconst dX3_meet_63 (by decide) ?_
    exact hh_zreturn dX3_meet_64 rfl (by decide) h
  · replace h := h.2 c
    obtain ⟨⟨q1, q2, q3⟩, h⟩ := h
    refine hh_aload_n dX3_meet_15 rfl ?_
    refine hh_getR dX3_meet_16 kf_X3_21 rf_24_4 ?_
    refine hh_iload_n dX3_meet_19 rfl ?_
    refine hh_iald dX3_meet_20 ra_28 q1 rfl ?_
    refine hh_aload_n dX3_meet_21 rfl ?_
    refine hh_getR dX3_meet_22 kf_X3_21 rf_24_4 ?_
    refine hh_iload_n dX3_meet_25 rfl ?_
    refine hh_iald dX3_meet_26 ra_28 q2 rfl ?_
    refine hh_aload_n dX3_meet_27 rfl ?_
    refine hh_getR dX3_meet_28 kf_X3_24 rf_24_5 ?_
    refine hh_iload_n dX3_meet_31 rfl ?_
    refine hh_iald dX3_meet_32 ra_29 q2 rfl ?_
    refine hh_iadd dX3_meet_33 q3 ?_
    refine hh_icmp_ge (tgt := 63) dX3_meet_34 (by decide) (fun c => ?_) (fun c => ?_)
    · replace h := h.1 c
      refine hh_iconst dX3_meet_63 (by decide) ?_
      exact hh_zreturn dX3_meet_64 rfl (by decide) h
    · replace h := h.2 c
      obtain ⟨⟨q1, q2, q3⟩, h⟩ := h
      refine hh_aload_n dX3_meet_37 rfl ?_
      refine hh_getR dX3_meet_38 kf_X3_21 rf_24_4 ?_
      refine hh_iload_n dX3_meet_41 rfl ?_
      refine hh_iald dX3_meet_42 ra_28 q1 rfl ?_
      refine hh_aload_n dX3_meet_43 rfl ?_
      refine hh_getR dX3_meet_44 kf_X3_21 rf_24_4 ?_
      refine hh_iload_n dX3_meet_47 rfl ?_
      refine hh_iald dX3_meet_48 ra_28 q2 rfl ?_
      refine hh_aload_n dX3_meet_49 rfl ?_
      refine hh_getR dX3_meet_50 kf_X3_24 rf_24_5 ?_
      refine hh_iload_n dX3_meet_53 rfl ?_
      refine hh_iald dX3_meet_54 ra_29 q2 rfl ?_
      refine hh_iadd dX3_meet_55 q3 ?_
      refine hh_icmp_ge (tgt := 63) dX3_meet_56 (by decide) (fun c => ?_) (fun c => ?_)
      · replace h := h.1 c
        refine hh_iconst dX3_meet_63 (by decide) ?_
        exact hh_zreturn dX3_meet_64 rfl (by decide) h
      · replace h := h.2 c
        refine hh_iconst dX3_meet_59 (by decide) ?_
        refine hh_goto (tgt := 64) dX3_meet_60 (by decide) ?_
        exact hh_zreturn dX3_meet_64 rfl (by decide) h
theorem wp_X3_meet {d : Nat} (a1 a2 : Int) {σ : hh_S} {Q : Int → hh_S → Prop} (h : hh_cs σ → hh_can a1 → hh_can a2 → P_X3_meet d a1 a2 σ Q) : hh_Sp (d + 1) hm_X3_meet [hh_R 24, hh_I a1, hh_I a2] σ Q :=
  hh_entry rfl (Nat.le_of_ble_eq_true rfl) rfl (fun hs hc => w_X3_meet (h hs (hc _ (List.mem_of_getElem? (i := 1) rfl)) (hc _ (List.mem_of_getElem? (i := 2) rfl))))
def B_X10_othersMet_107 (d : Nat) (Q : Int → hh_S → Prop) (x4 : Int) (σ : hh_S) : Prop :=
  hh_Sp d hm_J6_bitCount_0f7a4 [hh_I x4] σ (fun r109 σ109 => Q r109 σ109)
def B_X10_othersMet_101 (d : Nat) (Q : Int → hh_S → Prop) (k14 : Int → Int → Int → Int → hh_S → Prop) (x1 x2 x4 x5 : Int) (σ : hh_S) : Prop :=
  ((-2147483648 ≤ x5 + 1 ∧ x5 + 1 ≤ 2147483647)) ∧ (k14 x1 x2 x4 (x5 + 1) σ)
def B_X10_othersMet_60 (d : Nat) (Q : Int → hh_S → Prop) (k14 : Int → Int → Int → Int → hh_S → Prop) (x1 x2 x4 x5 s0 : Int) (σ : hh_S) : Prop :=
  (s0 = 0 → B_X10_othersMet_101 d Q k14 x1 x2 x4 x5 σ) ∧ (¬ s0 = 0 → hh_Sp d hm_X3_meet [hh_R 24, hh_I x5, hh_I x1] σ (fun r71 σ71 => (r71 = 0 → B_X10_othersMet_101 d Q k14 x1 x2 x4 x5 σ71) ∧ (¬ r71 = 0 → hh_Sp d hm_X3_isKnown [hh_R 24, hh_I x5, hh_I x2] σ71 (fun r81 σ81 => (r81 = 0 → B_X10_othersMet_101 d Q k14 x1 x2 x4 x5 σ81) ∧ (¬ r81 = 0 → ((0 ≤ x5 ∧ x5 < 90)) ∧ (B_X10_othersMet_101 d Q k14 x1 x2 (hh_or x4 (hh_shl 1 (σ81 25 x5))) x5 σ81))))))
def B_X10_othersMet_59 (d : Nat) (Q : Int → hh_S → Prop) (k14 : Int → Int → Int → Int → hh_S → Prop) (x1 x2 x4 x5 : Int) (σ : hh_S) : Prop :=
  B_X10_othersMet_60 d Q k14 x1 x2 x4 x5 0 σ
def B_X10_othersMet_14 (d : Nat) (Q : Int → hh_S → Prop) (k14 : Int → Int → Int → Int → hh_S → Prop) (x1 x2 x4 x5 : Int) (σ : hh_S) : Prop :=
  (σ 24 0 ≤ x5 → B_X10_othersMet_107 d Q x4 σ) ∧ (¬ σ 24 0 ≤ x5 → ((0 ≤ x5 ∧ x5 < 90) ∧ (0 ≤ x1 ∧ x1 < 90)) ∧ ((σ 25 x5 = σ 25 x1 → B_X10_othersMet_59 d Q k14 x1 x2 x4 x5 σ) ∧ (¬ σ 25 x5 = σ 25 x1 → ((0 ≤ x5 ∧ x5 < 90) ∧ (0 ≤ x1 ∧ x1 < 90)) ∧ ((¬ σ 26 x5 = σ 26 x1 → B_X10_othersMet_59 d Q k14 x1 x2 x4 x5 σ) ∧ (σ 26 x5 = σ 26 x1 → B_X10_othersMet_60 d Q k14 x1 x2 x4 x5 1 σ)))))
def P_X10_othersMet (d : Nat) (a1 a2 : Int) (σ : hh_S) (Q : Int → hh_S → Prop) : Prop :=
  ∃ n, hh_lp4 (B_X10_othersMet_14 d Q) n a1 a2 0 0 σ
set_option maxRecDepth 20000 in
theorem w_X10_othersMet_107 {d : Nat} {Q : Int → hh_S → Prop} (x4 : Int) (σ : hh_S) (h : B_X10_othersMet_107 d Q x4 σ) : hh_J (d + 1) hm_X10_othersMet 107 [none, none, none, none, some (hh_I x4), none, none] [] σ Q := by
  unfold B_X10_othersMet_107 at h
  refine hh_iload dX10_othersMet_107 rfl ?_
  refine hh_cS1 dX10_othersMet_109 lk_X10_134 mo_J6_bitCount_0f7a4 (Nat.le_of_ble_eq_true rfl) h (fun r109 σ109 h => ?_)
  exact hh_ireturn dX10_othersMet_112 rfl h
set_option maxRecDepth 20000 in
theorem w_X10_othersMet_101 {d : Nat} {Q : Int → hh_S → Prop} {k14 : Int → Int → Int → Int → hh_S → Prop} (hk14 : ∀ (x1 x2 x4 x5 : Int) (σ : hh_S), k14 x1 x2 x4 x5 σ → hh_J (d + 1) hm_X10_othersMet 14 [none, some (hh_I x1), some (hh_I x2), some (hh_R 24), some (hh_I x4), some (hh_I x5), none] [] σ Q) (x1 x2 x4 x5 : Int) (σ : hh_S) (h : B_X10_othersMet_101 d Q k14 x1 x2 x4 x5 σ) : hh_J (d + 1) hm_X10_othersMet 101 [none, some (hh_I x1), some (hh_I x2), some (hh_R 24), some (hh_I x4), some (hh_I x5), none] [] σ Q := by
  unfold B_X10_othersMet_101 at h
  obtain ⟨q1, h⟩ := h
  refine hh_iinc dX10_othersMet_101 (by decide) rfl rfl q1 ?_
  refine hh_goto (tgt := 14) dX10_othersMet_104 (by decide) ?_
  exact hh_forget [false, true, true, true, true, true, false] (hk14 _ _ _ _ _ h)
set_option maxRecDepth 20000 in
theorem w_X10_othersMet_60 {d : Nat} {Q : Int → hh_S → Prop} {k14 : Int → Int → Int → Int → hh_S → Prop} (hk14 : ∀ (x1 x2 x4 x5 : Int) (σ : hh_S), k14 x1 x2 x4 x5 σ → hh_J (d + 1) hm_X10_othersMet 14 [none, some (hh_I x1), some (hh_I x2), some (hh_R 24), some (hh_I x4), some (hh_I x5), none] [] σ Q) (x1 x2 x4 x5 s0 : Int) (σ : hh_S) (h : B_X10_othersMet_60 d Q k14 x1 x2 x4 x5 s0 σ) : hh_J (d + 1) hm_X10_othersMet 60 [none, some (hh_I x1), some (hh_I x2), some (hh_R 24), some (hh_I x4), some (hh_I x5), none] [hh_I s0] σ Q := by
  unfold B_X10_othersMet_60 at h
  refine hh_istore dX10_othersMet_60 (by decide) rfl ?_
  refine hh_iload dX10_othersMet_62 rfl ?_
  refine hh_if_eq (tgt := 101) dX10_othersMet_64 (by decide) (fun c => ?_) (fun c => ?_)
  · replace h := h.1 c
    exact hh_forget [false, true, true, true, true, true, false] (w_X10_othersMet_101 hk14 _ _ _ _ _ h)
  · replace h := h.2 c
    refine hh_aload_n dX10_othersMet_67 rfl ?_
    refine hh_iload dX10_othersMet_68 rfl ?_
    refine hh_iload_n dX10_othersMet_70 rfl ?_
    refine hh_cV2 dX10_othersMet_71 lk_X10_127 mo_X3_meet rc_24 (Nat.le_of_ble_eq_true rfl) h (fun r71 σ71 h => ?_)
    refine hh_if_eq (tgt := 101) dX10_othersMet_74 (by decide) (fun c => ?_) (fun c => ?_)
    · replace h := h.1 c
      exact hh_forget [false, true, true, true, true, true, false] (w_X10_othersMet_101 hk14 _ _ _ _ _ h)
    · replace h := h.2 c
      refine hh_aload_n dX10_othersMet_77 rfl ?_
      refine hh_iload dX10_othersMet_78 rfl ?_
      refine hh_iload_n dX10_othersMet_80 rfl ?_
      refine hh_cV2 dX10_othersMet_81 lk_X10_131 mo_X3_isKnown rc_24 (Nat.le_of_ble_eq_true rfl) h (fun r81 σ81 h => ?_)
      refine hh_if_eq (tgt := 101) dX10_othersMet_84 (by decide) (fun c => ?_) (fun c => ?_)
      · replace h := h.1 c
        exact hh_forget [false, true, true, true, true, true, false] (w_X10_othersMet_101 hk14 _ _ _ _ _ h)
      · replace h := h.2 c
        obtain ⟨q1, h⟩ := h
        refine hh_iload dX10_othersMet_87 rfl ?_
        refine hh_iconst dX10_othersMet_89 (by decide) ?_
        refine hh_aload_n dX10_othersMet_90 rfl ?_
        refine hh_getR dX10_othersMet_91 kf_X10_74 rf_24_1 ?_
        refine hh_iload dX10_othersMet_94 rfl ?_
        refine hh_iald dX10_othersMet_96 ra_25 q1 rfl ?_
        refine hh_ishl dX10_othersMet_97 ?_
        refine hh_ior dX10_othersMet_98 ?_
        refine hh_istore dX10_othersMet_99 (by decide) rfl ?_
        exact hh_forget [false, true, true, true, true, true, false] (w_X10_othersMet_101 hk14 _ _ _ _ _ h)
set_option maxRecDepth 20000 in
theorem w_X10_othersMet_59 {d : Nat} {Q : Int → hh_S → Prop} {k14 : Int → Int → Int → Int → hh_S → Prop} (hk14 : ∀ (x1 x2 x4 x5 : Int) (σ : hh_S), k14 x1 x2 x4 x5 σ → hh_J (d + 1) hm_X10_othersMet 14 [none, some (hh_I x1), some (hh_I x2), some (hh_R 24), some (hh_I x4), some (hh_I x5), none] [] σ Q) (x1 x2 x4 x5 : Int) (σ : hh_S) (h : B_X10_othersMet_59 d Q k14 x1 x2 x4 x5 σ) : hh_J (d + 1) hm_X10_othersMet 59 [none, some (hh_I x1), some (hh_I x2), some (hh_R 24), some (hh_I x4), some (hh_I x5), none] [] σ Q := by
  unfold B_X10_othersMet_59 at h
  refine hh_iconst dX10_othersMet_59 (by decide) ?_
  exact hh_forget [false, true, true, true, true, true, false] (w_X10_othersMet_60 hk14 _ _ _ _ _ _ h)
set_option maxRecDepth 20000 in
theorem w_X10_othersMet_14 {d : Nat} {Q : Int → hh_S → Prop} {k14 : Int → Int → Int → Int → hh_S → Prop} (hk14 : ∀ (x1 x2 x4 x5 : Int) (σ : hh_S), k14 x1 x2 x4 x5 σ → hh_J (d + 1) hm_X10_othersMet 14 [none, some (hh_I x1), some (hh_I x2), some (hh_R 24), some (hh_I x4), some (hh_I x5), none] [] σ Q) (x1 x2 x4 x5 : Int) (σ : hh_S) (h : B_X10_othersMet_14 d Q k14 x1 x2 x4 x5 σ) : hh_J (d + 1) hm_X10_othersMet 14 [none, some (hh_I x1), some (hh_I x2), some (hh_R 24), some (hh_I x4), some (hh_I x5), none] [] σ Q := by
  unfold B_X10_othersMet_14 at h
  refine hh_iload dX10_othersMet_14 rfl ?_
  refine hh_aload_n dX10_othersMet_16 rfl ?_
  refine hh_getI dX10_othersMet_17 kf_X10_123 rf_24_0 rfl ?_
  refine hh_icmp_ge (tgt := 107) dX10_othersMet_20 (by decide) (fun c => ?_) (fun c => ?_)
  · replace h := h.1 c
    exact hh_forget [false, false, false, false, true, false, false] (w_X10_othersMet_107 _ _ h)
  · replace h := h.2 c
    obtain ⟨⟨q1, q2⟩, h⟩ := h
    refine hh_aload_n dX10_othersMet_23 rfl ?_
    refine hh_getR dX10_othersMet_24 kf_X10_74 rf_24_1 ?_
    refine hh_iload dX10_othersMet_27 rfl ?_
    refine hh_iald dX10_othersMet_29 ra_25 q1 rfl ?_
    refine hh_aload_n dX10_othersMet_30 rfl ?_
    refine hh_getR dX10_othersMet_31 kf_X10_74 rf_24_1 ?_
    refine hh_iload_n dX10_othersMet_34 rfl ?_
    refine hh_iald dX10_othersMet_35 ra_25 q2 rfl ?_
    refine hh_icmp_eq (tgt := 59) dX10_othersMet_36 (by decide) (fun c => ?_) (fun c => ?_)
    · replace h := h.1 c
      exact hh_forget [false, true, true, true, true, true, false] (w_X10_othersMet_59 hk14 _ _ _ _ _ h)
    · replace h := h.2 c
      obtain ⟨⟨q1, q2⟩, h⟩ := h
      refine hh_aload_n dX10_othersMet_39 rfl ?_
      refine hh_getR dX10_othersMet_40 kf_X10_94 rf_24_2 ?_
      refine hh_iload dX10_othersMet_43 rfl ?_
      refine hh_iald dX10_othersMet_45 ra_26 q1 rfl ?_
      refine hh_aload_n dX10_othersMet_46 rfl ?_
      refine hh_getR dX10_othersMet_47 kf_X10_94 rf_24_2 ?_
      refine hh_iload_n dX10_othersMet_50 rfl ?_
      refine hh_iald dX10_othersMet_51 ra_26 q2 rfl ?_
      refine hh_icmp_ne (tgt := 59) dX10_othersMet_52 (by decide) (fun c => ?_) (fun c => ?_)
      · replace h := h.1 c
        exact hh_forget [false, true, true, true, true, true, false] (w_X10_othersMet_59 hk14 _ _ _ _ _ h)
      · replace h := h.2 c
        refine hh_iconst dX10_othersMet_55 (by decide) ?_
        refine hh_goto (tgt := 60) dX10_othersMet_56 (by decide) ?_
        exact hh_forget [false, true, true, true, true, true, false] (w_X10_othersMet_60 hk14 _ _ _ _ _ _ h)
theorem l_X10_othersMet_14 {d : Nat} {Q : Int → hh_S → Prop} : ∀ (n : Nat) (x1 x2 x4 x5 : Int) (σ : hh_S), hh_lp4 (B_X10_othersMet_14 d Q) n x1 x2 x4 x5 σ → hh_J (d + 1) hm_X10_othersMet 14 [none, some (hh_I x1), some (hh_I x2), some (hh_R 24), some (hh_I x4), some (hh_I x5), none] [] σ Q := by
  intro n
  induction n with
  | zero => intro _ _ _ _ _ h; exact h.elim
  | succ n ih => intro x1 x2 x4 x5 σ h; exact w_X10_othersMet_14 ih x1 x2 x4 x5 σ h
set_option maxRecDepth 20000 in
theorem w_X10_othersMet {d : Nat} {a1 a2 : Int} {σ : hh_S} {Q : Int → hh_S → Prop} (h : P_X10_othersMet d a1 a2 σ Q) : hh_J (d + 1) hm_X10_othersMet 0 [some (hh_R 112), some (hh_I a1), some (hh_I a2), none, none, none, none] [] σ Q := by
  unfold P_X10_othersMet at h
  refine hh_aload_n dX10_othersMet_0 rfl ?_
  refine hh_getR dX10_othersMet_1 kf_X10_24 rf_112_0 ?_
  refine hh_getR dX10_othersMet_4 kf_X10_32 rf_1_3 ?_
  refine hh_astore_n dX10_othersMet_7 (by decide) rfl ?_
  refine hh_iconst dX10_othersMet_8 (by decide) ?_
  refine hh_istore dX10_othersMet_9 (by decide) rfl ?_
  refine hh_iconst dX10_othersMet_11 (by decide) ?_
  refine hh_istore dX10_othersMet_12 (by decide) rfl ?_
  obtain ⟨n, h⟩ := h
  exact hh_forget [false, true, true, true, true, true, false] (l_X10_othersMet_14 n _ _ _ _ _ h)
theorem wp_X10_othersMet {d : Nat} (a1 a2 : Int) {σ : hh_S} {Q : Int → hh_S → Prop} (h : hh_cs σ → hh_can a1 → hh_can a2 → P_X10_othersMet d a1 a2 σ Q) : hh_Sp (d + 1) hm_X10_othersMet [hh_R 112, hh_I a1, hh_I a2] σ Q :=
  hh_entry rfl (Nat.le_of_ble_eq_true rfl) rfl (fun hs hc => w_X10_othersMet (h hs (hc _ (List.mem_of_getElem? (i := 1) rfl)) (hc _ (List.mem_of_getElem? (i := 2) rfl))))
def P_X10_nameOf (d : Nat) (a1 a2 a3 : Int) (σ : hh_S) (Q : Int → hh_S → Prop) : Prop :=
  (a1 = 99 → ((0 ≤ a2 ∧ a2 < 90)) ∧ (Q (σ 30 a2) σ)) ∧ (a1 = 103 → ((0 ≤ a2 ∧ a2 < 90) ∧ (0 ≤ σ 26 a2 ∧ σ 26 a2 < 10)) ∧ (Q (σ 14 (σ 26 a2)) σ)) ∧ (a1 = 107 → ((0 ≤ a2 ∧ a2 < 90) ∧ (0 ≤ σ 25 a2 ∧ σ 25 a2 < 8)) ∧ (Q (σ 3 (σ 25 a2)) σ)) ∧ (a1 = 110 → ((0 ≤ a2 ∧ a2 < 90)) ∧ (Q (σ 29 a2) σ)) ∧ (a1 = 114 → ((0 ≤ a2 ∧ a2 < 90) ∧ (0 ≤ σ 25 a2 ∧ σ 25 a2 < 8)) ∧ (Q (σ 4 (σ 25 a2)) σ)) ∧ (a1 = 119 → ((0 ≤ a2 ∧ a2 < 90) ∧ 0 ≤ σ 27 a2) ∧ (Q ((σ 27 a2) % 7) σ)) ∧ (a1 ≠ 99 ∧ a1 ≠ 103 ∧ a1 ≠ 107 ∧ a1 ≠ 110 ∧ a1 ≠ 114 ∧ a1 ≠ 119 → hh_Sp d hm_X10_othersMet [hh_R 112, hh_I a2, hh_I a3] σ (fun r155 σ155 => Q r155 σ155))
set_option maxRecDepth 20000 in
theorem w_X10_nameOf {d : Nat} {a1 a2 a3 : Int} {σ : hh_S} {Q : Int → hh_S → Prop} (h : P_X10_nameOf d a1 a2 a3 σ Q) : hh_J (d + 1) hm_X10_nameOf 0 [some (hh_R 112), some (hh_I a1), some (hh_I a2), some (hh_I a3), none] [] σ Q := by
  unfold P_X10_nameOf at h
  refine hh_aload_n dX10_nameOf_0 rfl ?_
  refine hh_getR dX10_nameOf_1 kf_X10_24 rf_112_0 ?_
  refine hh_getR dX10_nameOf_4 kf_X10_32 rf_1_3 ?_
  refine hh_astore dX10_nameOf_7 (by decide) rfl ?_
  refine hh_iload_n dX10_nameOf_9 rfl ?_
  refine hh_lookup dX10_nameOf_10 (by decide) ?_
  by_cases c0 : a1 = 99
  · refine ⟨104, 114, by rw [c0]; rfl, by decide, ?_⟩
    replace h := h.1 c0
    obtain ⟨q1, h⟩ := h
    refine hh_aload dX10_nameOf_114 rfl ?_
    refine hh_getR dX10_nameOf_116 kf_X10_118 rf_24_6 ?_
    refine hh_iload_n dX10_nameOf_119 rfl ?_
    refine hh_iald dX10_nameOf_120 ra_30 q1 rfl ?_
    exact hh_ireturn dX10_nameOf_121 rfl h
  by_cases c1 : a1 = 103
  · refine ⟨112, 122, by rw [c1]; rfl, by decide, ?_⟩
    replace h := h.2.1 c1
    obtain ⟨⟨q1, q2⟩, h⟩ := h
    refine hh_aload_n dX10_nameOf_122 rfl ?_
    refine hh_getR dX10_nameOf_123 kf_X10_24 rf_112_0 ?_
    refine hh_getR dX10_nameOf_126 kf_X10_86 rf_1_2 ?_
    refine hh_getR dX10_nameOf_129 kf_X10_119 rf_13_1 ?_
    refine hh_aload dX10_nameOf_132 rfl ?_
    refine hh_getR dX10_nameOf_134 kf_X10_94 rf_24_2 ?_
    refine hh_iload_n dX10_nameOf_137 rfl ?_
    refine hh_iald dX10_nameOf_138 ra_26 q1 rfl ?_
    refine hh_iald dX10_nameOf_139 ra_14 q2 rfl ?_
    exact hh_ireturn dX10_nameOf_140 rfl h
  by_cases c2 : a1 = 107
  · refine ⟨85, 95, by rw [c2]; rfl, by decide, ?_⟩
    replace h := h.2.2.1 c2
    obtain ⟨⟨q1, q2⟩, h⟩ := h
    refine hh_aload_n dX10_nameOf_95 rfl ?_
    refine hh_getR dX10_nameOf_96 kf_X10_24 rf_112_0 ?_
    refine hh_getR dX10_nameOf_99 kf_X10_65 rf_1_0 ?_
    refine hh_getR dX10_nameOf_102 kf_X10_115 rf_2_1 ?_
    refine hh_aload dX10_nameOf_105 rfl ?_
    refine hh_getR dX10_nameOf_107 kf_X10_74 rf_24_1 ?_
    refine hh_iload_n dX10_nameOf_110 rfl ?_
    refine hh_iald dX10_nameOf_111 ra_25 q1 rfl ?_
    refine hh_iald dX10_nameOf_112 ra_3 q2 rfl ?_
    exact hh_ireturn dX10_nameOf_113 rfl h
  by_cases c3 : a1 = 110
  · refine ⟨58, 68, by rw [c3]; rfl, by decide, ?_⟩
    replace h := h.2.2.2.1 c3
    obtain ⟨q1, h⟩ := h
    refine hh_aload dX10_nameOf_68 rfl ?_
    refine hh_getR dX10_nameOf_70 kf_X10_38 rf_24_5 ?_
    refine hh_iload_n dX10_nameOf_73 rfl ?_
    refine hh_iald dX10_nameOf_74 ra_29 q1 rfl ?_
    exact hh_ireturn dX10_nameOf_75 rfl h
  by_cases c4 : a1 = 114
  · refine ⟨66, 76, by rw [c4]; rfl, by decide, ?_⟩
    replace h := h.2.2.2.2.1 c4
    obtain ⟨⟨q1, q2⟩, h⟩ := h
    refine hh_aload_n dX10_nameOf_76 rfl ?_
    refine hh_getR dX10_nameOf_77 kf_X10_24 rf_112_0 ?_
    refine hh_getR dX10_nameOf_80 kf_X10_65 rf_1_0 ?_
    refine hh_getR dX10_nameOf_83 kf_X10_69 rf_2_2 ?_
    refine hh_aload dX10_nameOf_86 rfl ?_
    refine hh_getR dX10_nameOf_88 kf_X10_74 rf_24_1 ?_
    refine hh_iload_n dX10_nameOf_91 rfl ?_
    refine hh_iald dX10_nameOf_92 ra_25 q1 rfl ?_
    refine hh_iald dX10_nameOf_93 ra_4 q2 rfl ?_
    exact hh_ireturn dX10_nameOf_94 rfl h
  by_cases c5 : a1 = 119
  · refine ⟨131, 141, by rw [c5]; rfl, by decide, ?_⟩
    replace h := h.2.2.2.2.2.1 c5
    obtain ⟨⟨q1, q2⟩, h⟩ := h
    refine hh_aload dX10_nameOf_141 rfl ?_
    refine hh_getR dX10_nameOf_143 kf_X10_96 rf_24_3 ?_
    refine hh_iload_n dX10_nameOf_146 rfl ?_
    refine hh_iald dX10_nameOf_147 ra_27 q1 rfl ?_
    refine hh_bipush dX10_nameOf_148 (by decide) ?_
    refine hh_irem dX10_nameOf_150 q2 (by decide) ?_
    exact hh_ireturn dX10_nameOf_151 rfl h
  refine ⟨142, 152, by simp [Op.lookupswitch.offset, Ne.symm c0, Ne.symm c1, Ne.symm c2, Ne.symm c3, Ne.symm c4, Ne.symm c5], by decide, ?_⟩
  replace h := h.2.2.2.2.2.2 ⟨c0, c1, c2, c3, c4, c5⟩
  refine hh_aload_n dX10_nameOf_152 rfl ?_
  refine hh_iload_n dX10_nameOf_153 rfl ?_
  refine hh_iload_n dX10_nameOf_154 rfl ?_
  refine hh_cV2 dX10_nameOf_155 lk_X10_120 mo_X10_othersMet rc_112 (Nat.le_of_ble_eq_true rfl) h (fun r155 σ155 h => ?_)
  exact hh_ireturn dX10_nameOf_158 rfl h
theorem wp_X10_nameOf {d : Nat} (a1 a2 a3 : Int) {σ : hh_S} {Q : Int → hh_S → Prop} (h : hh_cs σ → hh_can a1 → hh_can a2 → hh_can a3 → P_X10_nameOf d a1 a2 a3 σ Q) : hh_Sp (d + 1) hm_X10_nameOf [hh_R 112, hh_I a1, hh_I a2, hh_I a3] σ Q :=
  hh_entry rfl (Nat.le_of_ble_eq_true rfl) rfl (fun hs hc => w_X10_nameOf (h hs (hc _ (List.mem_of_getElem? (i := 1) rfl)) (hc _ (List.mem_of_getElem? (i := 2) rfl)) (hc _ (List.mem_of_getElem? (i := 3) rfl))))
def B_X10_workOut_178 (d : Nat) (Q : Int → hh_S → Prop) (x6 : Int) (σ : hh_S) : Prop :=
  (x6 ≤ 0 → Q 0 σ) ∧ (¬ x6 ≤ 0 → ((-2147483648 ≤ x6 - 1 ∧ x6 - 1 ≤ 2147483647) ∧ (0 ≤ x6 - 1 ∧ x6 - 1 < 120)) ∧ (Q (σ 113 (x6 - 1)) σ))
def B_X10_workOut_172 (d : Nat) (Q : Int → hh_S → Prop) (k18 : Int → Int → Int → Int → Int → hh_S → Prop) (x2 x3 x4 x6 x7 : Int) (σ : hh_S) : Prop :=
  ((-2147483648 ≤ x7 + 1 ∧ x7 + 1 ≤ 2147483647)) ∧ (k18 x2 x3 x4 x6 (x7 + 1) σ)
def B_X10_workOut_128 (d : Nat) (Q : Int → hh_S → Prop) (k18 : Int → Int → Int → Int → Int → hh_S → Prop) (x2 x3 x4 x6 x7 s1 s2 : Int) (σ : hh_S) : Prop :=
  ((0 ≤ s1 ∧ s1 < 120)) ∧ (B_X10_workOut_172 d Q k18 x2 x3 x4 x6 x7 (hh_up σ 113 s1 s2))
def B_X10_workOut_84 (d : Nat) (Q : Int → hh_S → Prop) (k18 : Int → Int → Int → Int → Int → hh_S → Prop) (x2 x3 x4 x6 x7 s1 s2 : Int) (σ : hh_S) : Prop :=
  ((0 ≤ s1 ∧ s1 < 120) ∧ (-2147483648 ≤ x6 + 1 ∧ x6 + 1 ≤ 2147483647)) ∧ (B_X10_workOut_172 d Q k18 x2 x3 x4 (x6 + 1) x7 (hh_up σ 113 s1 s2))
def B_X10_workOut_18 (d : Nat) (Q : Int → hh_S → Prop) (k18 : Int → Int → Int → Int → Int → hh_S → Prop) (x2 x3 x4 x6 x7 : Int) (σ : hh_S) : Prop :=
  (x2 ≤ x7 → B_X10_workOut_178 d Q x6 σ) ∧ (¬ x2 ≤ x7 → (1800 ≤ x7 → B_X10_workOut_178 d Q x6 σ) ∧ (¬ 1800 ≤ x7 → ((0 ≤ x7 ∧ x7 < 1800)) ∧ ((σ 12 x7 < 0 → (¬ σ 12 x7 = (-33) → (x6 ≤ 1 → B_X10_workOut_172 d Q k18 x2 x3 x4 x6 x7 σ) ∧ (¬ x6 ≤ 1 → ((-2147483648 ≤ x6 + (-1) ∧ x6 + (-1) ≤ 2147483647) ∧ (-2147483648 ≤ x6 + (-1) - 1 ∧ x6 + (-1) - 1 ≤ 2147483647) ∧ (-2147483648 ≤ -(σ 12 x7) ∧ -(σ 12 x7) ≤ 2147483647) ∧ (0 ≤ x6 + (-1) - 1 ∧ x6 + (-1) - 1 < 120) ∧ (0 ≤ x6 + (-1) ∧ x6 + (-1) < 120)) ∧ (hh_Sp d hm_X10_combine [hh_I (-(σ 12 x7)), hh_I (σ 113 (x6 + (-1) - 1)), hh_I (σ 113 (x6 + (-1)))] σ (fun r168 σ168 => ((0 ≤ x6 + (-1) - 1 ∧ x6 + (-1) - 1 < 120)) ∧ (B_X10_workOut_172 d Q k18 x2 x3 x4 (x6 + (-1)) x7 (hh_up σ168 113 (x6 + (-1) - 1) r168)))))) ∧ (σ 12 x7 = (-33) → (x6 ≤ 0 → B_X10_workOut_172 d Q k18 x2 x3 x4 x6 x7 σ) ∧ (¬ x6 ≤ 0 → ((-2147483648 ≤ x6 - 1 ∧ x6 - 1 ≤ 2147483647) ∧ (0 ≤ x6 - 1 ∧ x6 - 1 < 120)) ∧ ((¬ σ 113 (x6 - 1) = 0 → B_X10_workOut_128 d Q k18 x2 x3 x4 x6 x7 (x6 - 1) 0 σ) ∧ (σ 113 (x6 - 1) = 0 → B_X10_workOut_128 d Q k18 x2 x3 x4 x6 x7 (x6 - 1) 1 σ))))) ∧ (¬ σ 12 x7 < 0 → (120 ≤ x6 → B_X10_workOut_172 d Q k18 x2 x3 x4 x6 x7 σ) ∧ (¬ 120 ≤ x6 → (100000 ≤ σ 12 x7 → ((-2147483648 ≤ σ 12 x7 - 100000 ∧ σ 12 x7 - 100000 ≤ 2147483647)) ∧ (hh_Sp d hm_X10_nameOf [hh_R 112, hh_I (σ 12 x7 - 100000), hh_I x3, hh_I x4] σ (fun r81 σ81 => B_X10_workOut_84 d Q k18 x2 x3 x4 x6 x7 x6 r81 σ81))) ∧ (¬ 100000 ≤ σ 12 x7 → B_X10_workOut_84 d Q k18 x2 x3 x4 x6 x7 x6 (σ 12 x7) σ))))))
def P_X10_workOut (d : Nat) (a1 a2 a3 a4 : Int) (σ : hh_S) (Q : Int → hh_S → Prop) : Prop :=
  ∃ n, hh_lp5 (B_X10_workOut_18 d Q) n a2 a3 a4 0 a1 σ
set_option maxRecDepth 20000 in
theorem w_X10_workOut_178 {d : Nat} {Q : Int → hh_S → Prop} (x6 : Int) (σ : hh_S) (h : B_X10_workOut_178 d Q x6 σ) : hh_J (d + 1) hm_X10_workOut 178 [some (hh_R 112), none, none, none, none, none, some (hh_I x6), none, none] [] σ Q := by
  unfold B_X10_workOut_178 at h
  refine hh_iload dX10_workOut_178 rfl ?_
  refine hh_if_le (tgt := 195) dX10_workOut_180 (by decide) (fun c => ?_) (fun c => ?_)
  · replace h := h.1 c
    refine hh_iconst dX10_workOut_195 (by decide) ?_
    exact hh_ireturn dX10_workOut_196 rfl h
  · replace h := h.2 c
    obtain ⟨⟨q1, q2⟩, h⟩ := h
    refine hh_aload_n dX10_workOut_183 rfl ?_
    refine hh_getR dX10_workOut_184 kf_X10_9 rf_112_1 ?_
    refine hh_iload dX10_workOut_187 rfl ?_
    refine hh_iconst dX10_workOut_189 (by decide) ?_
    refine hh_isub dX10_workOut_190 q1 ?_
    refine hh_iald dX10_workOut_191 ra_113 q2 rfl ?_
    refine hh_goto (tgt := 196) dX10_workOut_192 (by decide) ?_
    exact hh_ireturn dX10_workOut_196 rfl h
set_option maxRecDepth 20000 in
theorem w_X10_workOut_172 {d : Nat} {Q : Int → hh_S → Prop} {k18 : Int → Int → Int → Int → Int → hh_S → Prop} (hk18 : ∀ (x2 x3 x4 x6 x7 : Int) (σ : hh_S), k18 x2 x3 x4 x6 x7 σ → hh_J (d + 1) hm_X10_workOut 18 [some (hh_R 112), none, some (hh_I x2), some (hh_I x3), some (hh_I x4), some (hh_R 12), some (hh_I x6), some (hh_I x7), none] [] σ Q) (x2 x3 x4 x6 x7 : Int) (σ : hh_S) (h : B_X10_workOut_172 d Q k18 x2 x3 x4 x6 x7 σ) : hh_J (d + 1) hm_X10_workOut 172 [some (hh_R 112), none, some (hh_I x2), some (hh_I x3), some (hh_I x4), some (hh_R 12), some (hh_I x6), some (hh_I x7), none] [] σ Q := by
  unfold B_X10_workOut_172 at h
  obtain ⟨q1, h⟩ := h
  refine hh_iinc dX10_workOut_172 (by decide) rfl rfl q1 ?_
  refine hh_goto (tgt := 18) dX10_workOut_175 (by decide) ?_
  exact hh_forget [true, false, true, true, true, true, true, true, false] (hk18 _ _ _ _ _ _ h)
set_option maxRecDepth 20000 in
theorem w_X10_workOut_128 {d : Nat} {Q : Int → hh_S → Prop} {k18 : Int → Int → Int → Int → Int → hh_S → Prop} (hk18 : ∀ (x2 x3 x4 x6 x7 : Int) (σ : hh_S), k18 x2 x3 x4 x6 x7 σ → hh_J (d + 1) hm_X10_workOut 18 [some (hh_R 112), none, some (hh_I x2), some (hh_I x3), some (hh_I x4), some (hh_R 12), some (hh_I x6), some (hh_I x7), none] [] σ Q) (x2 x3 x4 x6 x7 s1 s2 : Int) (σ : hh_S) (h : B_X10_workOut_128 d Q k18 x2 x3 x4 x6 x7 s1 s2 σ) : hh_J (d + 1) hm_X10_workOut 128 [some (hh_R 112), none, some (hh_I x2), some (hh_I x3), some (hh_I x4), some (hh_R 12), some (hh_I x6), some (hh_I x7), none] [hh_I s2, hh_I s1, hh_R 113] σ Q := by
  unfold B_X10_workOut_128 at h
  obtain ⟨q1, h⟩ := h
  refine hh_iast dX10_workOut_128 ra_113 q1 ?_
  refine hh_goto (tgt := 172) dX10_workOut_129 (by decide) ?_
  exact hh_forget [true, false, true, true, true, true, true, true, false] (w_X10_workOut_172 hk18 _ _ _ _ _ _ h)
set_option maxRecDepth 20000 in
theorem w_X10_workOut_84 {d : Nat} {Q : Int → hh_S → Prop} {k18 : Int → Int → Int → Int → Int → hh_S → Prop} (hk18 : ∀ (x2 x3 x4 x6 x7 : Int) (σ : hh_S), k18 x2 x3 x4 x6 x7 σ → hh_J (d + 1) hm_X10_workOut 18 [some (hh_R 112), none, some (hh_I x2), some (hh_I x3), some (hh_I x4), some (hh_R 12), some (hh_I x6), some (hh_I x7), none] [] σ Q) (x2 x3 x4 x6 x7 s1 s2 : Int) (σ : hh_S) (h : B_X10_workOut_84 d Q k18 x2 x3 x4 x6 x7 s1 s2 σ) : hh_J (d + 1) hm_X10_workOut 84 [some (hh_R 112), none, some (hh_I x2), some (hh_I x3), some (hh_I x4), some (hh_R 12), some (hh_I x6), some (hh_I x7), none] [hh_I s2, hh_I s1, hh_R 113] σ Q := by
  unfold B_X10_workOut_84 at h
  obtain ⟨⟨q1, q2⟩, h⟩ := h
  refine hh_iast dX10_workOut_84 ra_113 q1 ?_
  refine hh_iinc dX10_workOut_85 (by decide) rfl rfl q2 ?_
  refine hh_goto (tgt := 172) dX10_workOut_88 (by decide) ?_
  exact hh_forget [true, false, true, true, true, true, true, true, false] (w_X10_workOut_172 hk18 _ _ _ _ _ _ h)
set_option maxRecDepth 20000 in
theorem w_X10_workOut_18 {d : Nat} {Q : Int → hh_S → Prop} {k18 : Int → Int → Int → Int → Int → hh_S → Prop} (hk18 : ∀ (x2 x3 x4 x6 x7 : Int) (σ : hh_S), k18 x2 x3 x4 x6 x7 σ → hh_J (d + 1) hm_X10_workOut 18 [some (hh_R 112), none, some (hh_I x2), some (hh_I x3), some (hh_I x4), some (hh_R 12), some (hh_I x6), some (hh_I x7), none] [] σ Q) (x2 x3 x4 x6 x7 : Int) (σ : hh_S) (h : B_X10_workOut_18 d Q k18 x2 x3 x4 x6 x7 σ) : hh_J (d + 1) hm_X10_workOut 18 [some (hh_R 112), none, some (hh_I x2), some (hh_I x3), some (hh_I x4), some (hh_R 12), some (hh_I x6), some (hh_I x7), none] [] σ Q := by
  unfold B_X10_workOut_18 at h
  refine hh_iload dX10_workOut_18 rfl ?_
  refine hh_iload_n dX10_workOut_20 rfl ?_
  refine hh_icmp_ge (tgt := 178) dX10_workOut_21 (by decide) (fun c => ?_) (fun c => ?_)
  · replace h := h.1 c
    exact hh_forget [true, false, false, false, false, false, true, false, false] (w_X10_workOut_178 _ _ h)
  · replace h := h.2 c
    refine hh_iload dX10_workOut_24 rfl ?_
    refine hh_aload dX10_workOut_26 rfl ?_
    refine hh_alen dX10_workOut_28 ra_12 (by decide) ?_
    refine hh_icmp_ge (tgt := 178) dX10_workOut_29 (by decide) (fun c => ?_) (fun c => ?_)
    · replace h := h.1 c
      exact hh_forget [true, false, false, false, false, false, true, false, false] (w_X10_workOut_178 _ _ h)
    · replace h := h.2 c
      obtain ⟨q1, h⟩ := h
      refine hh_aload dX10_workOut_32 rfl ?_
      refine hh_iload dX10_workOut_34 rfl ?_
      refine hh_iald dX10_workOut_36 ra_12 q1 rfl ?_
      refine hh_istore dX10_workOut_37 (by decide) rfl ?_
      refine hh_iload dX10_workOut_39 rfl ?_
      refine hh_if_lt (tgt := 91) dX10_workOut_41 (by decide) (fun c => ?_) (fun c => ?_)
      · replace h := h.1 c
        refine hh_iload dX10_workOut_91 rfl ?_
        refine hh_bipush dX10_workOut_93 (by decide) ?_
        refine hh_icmp_ne (tgt := 132) dX10_workOut_95 (by decide) (fun c => ?_) (fun c => ?_)
        · replace h := h.1 c
          refine hh_iload dX10_workOut_132 rfl ?_
          refine hh_iconst dX10_workOut_134 (by decide) ?_
          refine hh_icmp_le (tgt := 172) dX10_workOut_135 (by decide) (fun c => ?_) (fun c => ?_)
          · replace h := h.1 c
            exact hh_forget [true, false, true, true, true, true, true, true, false] (w_X10_workOut_172 hk18 _ _ _ _ _ _ h)
          · replace h := h.2 c
            obtain ⟨⟨q1, q2, q3, q4, q5⟩, h⟩ := h
            refine hh_iinc dX10_workOut_138 (by decide) rfl rfl q1 ?_
            refine hh_aload_n dX10_workOut_141 rfl ?_
            refine hh_getR dX10_workOut_142 kf_X10_9 rf_112_1 ?_
            refine hh_iload dX10_workOut_145 rfl ?_
            refine hh_iconst dX10_workOut_147 (by decide) ?_
            refine hh_isub dX10_workOut_148 q2 ?_
            refine hh_iload dX10_workOut_149 rfl ?_
            refine hh_ineg dX10_workOut_151 q3 ?_
            refine hh_aload_n dX10_workOut_152 rfl ?_
            refine hh_getR dX10_workOut_153 kf_X10_9 rf_112_1 ?_
            refine hh_iload dX10_workOut_156 rfl ?_
            refine hh_iconst dX10_workOut_158 (by decide) ?_
            refine hh_isub dX10_workOut_159 q2 ?_
            refine hh_iald dX10_workOut_160 ra_113 q4 rfl ?_
            refine hh_aload_n dX10_workOut_161 rfl ?_
            refine hh_getR dX10_workOut_162 kf_X10_9 rf_112_1 ?_
            refine hh_iload dX10_workOut_165 rfl ?_
            refine hh_iald dX10_workOut_167 ra_113 q5 rfl ?_
            refine hh_cS3 dX10_workOut_168 lk_X10_112 mo_X10_combine (Nat.le_of_ble_eq_true rfl) h (fun r168 σ168 h => ?_)
            obtain ⟨q1, h⟩ := h
            refine hh_iast dX10_workOut_171 ra_113 q1 ?_
            exact hh_forget [true, false, true, true, true, true, true, true, false] (w_X10_workOut_172 hk18 _ _ _ _ _ _ h)
        · replace h := h.2 c
          refine hh_iload dX10_workOut_98 rfl ?_
          refine hh_if_le (tgt := 172) dX10_workOut_100 (by decide) (fun c => ?_) (fun c => ?_)
          · replace h := h.1 c
            exact hh_forget [true, false, true, true, true, true, true, true, false] (w_X10_workOut_172 hk18 _ _ _ _ _ _ h)
          · replace h := h.2 c
            obtain ⟨⟨q1, q2⟩, h⟩ := h
            refine hh_aload_n dX10_workOut_103 rfl ?_
            refine hh_getR dX10_workOut_104 kf_X10_9 rf_112_1 ?_
            refine hh_iload dX10_workOut_107 rfl ?_
            refine hh_iconst dX10_workOut_109 (by decide) ?_
            refine hh_isub dX10_workOut_110 q1 ?_
            refine hh_aload_n dX10_workOut_111 rfl ?_
            refine hh_getR dX10_workOut_112 kf_X10_9 rf_112_1 ?_
            refine hh_iload dX10_workOut_115 rfl ?_
            refine hh_iconst dX10_workOut_117 (by decide) ?_
            refine hh_isub dX10_workOut_118 q1 ?_
            refine hh_iald dX10_workOut_119 ra_113 q2 rfl ?_
            refine hh_if_ne (tgt := 127) dX10_workOut_120 (by decide) (fun c => ?_) (fun c => ?_)
            · replace h := h.1 c
              refine hh_iconst dX10_workOut_127 (by decide) ?_
              exact hh_forget [true, false, true, true, true, true, true, true, false] (w_X10_workOut_128 hk18 _ _ _ _ _ _ _ _ h)
            · replace h := h.2 c
              refine hh_iconst dX10_workOut_123 (by decide) ?_
              refine hh_goto (tgt := 128) dX10_workOut_124 (by decide) ?_
              exact hh_forget [true, false, true, true, true, true, true, true, false] (w_X10_workOut_128 hk18 _ _ _ _ _ _ _ _ h)
      · replace h := h.2 c
        refine hh_iload dX10_workOut_44 rfl ?_
        refine hh_aload_n dX10_workOut_46 rfl ?_
        refine hh_getR dX10_workOut_47 kf_X10_9 rf_112_1 ?_
        refine hh_alen dX10_workOut_50 ra_113 (by decide) ?_
        refine hh_icmp_ge (tgt := 172) dX10_workOut_51 (by decide) (fun c => ?_) (fun c => ?_)
        · replace h := h.1 c
          exact hh_forget [true, false, true, true, true, true, true, true, false] (w_X10_workOut_172 hk18 _ _ _ _ _ _ h)
        · replace h := h.2 c
          refine hh_aload_n dX10_workOut_54 rfl ?_
          refine hh_getR dX10_workOut_55 kf_X10_9 rf_112_1 ?_
          refine hh_iload dX10_workOut_58 rfl ?_
          refine hh_iload dX10_workOut_60 rfl ?_
          refine hh_ldc (n := 100000) dX10_workOut_62 kc_X10_107 (by decide) ?_
          refine hh_icmp_ge (tgt := 72) dX10_workOut_64 (by decide) (fun c => ?_) (fun c => ?_)
          · replace h := h.1 c
            obtain ⟨q1, h⟩ := h
            refine hh_aload_n dX10_workOut_72 rfl ?_
            refine hh_iload dX10_workOut_73 rfl ?_
            refine hh_ldc (n := 100000) dX10_workOut_75 kc_X10_107 (by decide) ?_
            refine hh_isub dX10_workOut_77 q1 ?_
            refine hh_iload_n dX10_workOut_78 rfl ?_
            refine hh_iload dX10_workOut_79 rfl ?_
            refine hh_cV3 dX10_workOut_81 lk_X10_108 mo_X10_nameOf rc_112 (Nat.le_of_ble_eq_true rfl) h (fun r81 σ81 h => ?_)
            exact hh_forget [true, false, true, true, true, true, true, true, false] (w_X10_workOut_84 hk18 _ _ _ _ _ _ _ _ h)
          · replace h := h.2 c
            refine hh_iload dX10_workOut_67 rfl ?_
            refine hh_goto (tgt := 84) dX10_workOut_69 (by decide) ?_
            exact hh_forget [true, false, true, true, true, true, true, true, false] (w_X10_workOut_84 hk18 _ _ _ _ _ _ _ _ h)
theorem l_X10_workOut_18 {d : Nat} {Q : Int → hh_S → Prop} : ∀ (n : Nat) (x2 x3 x4 x6 x7 : Int) (σ : hh_S), hh_lp5 (B_X10_workOut_18 d Q) n x2 x3 x4 x6 x7 σ → hh_J (d + 1) hm_X10_workOut 18 [some (hh_R 112), none, some (hh_I x2), some (hh_I x3), some (hh_I x4), some (hh_R 12), some (hh_I x6), some (hh_I x7), none] [] σ Q := by
  intro n
  induction n with
  | zero => intro _ _ _ _ _ _ h; exact h.elim
  | succ n ih => intro x2 x3 x4 x6 x7 σ h; exact w_X10_workOut_18 ih x2 x3 x4 x6 x7 σ h
set_option maxRecDepth 20000 in
theorem w_X10_workOut {d : Nat} {a1 a2 a3 a4 : Int} {σ : hh_S} {Q : Int → hh_S → Prop} (h : P_X10_workOut d a1 a2 a3 a4 σ Q) : hh_J (d + 1) hm_X10_workOut 0 [some (hh_R 112), some (hh_I a1), some (hh_I a2), some (hh_I a3), some (hh_I a4), none, none, none, none] [] σ Q := by
  unfold P_X10_workOut at h
  refine hh_aload_n dX10_workOut_0 rfl ?_
  refine hh_getR dX10_workOut_1 kf_X10_24 rf_112_0 ?_
  refine hh_getR dX10_workOut_4 kf_X10_43 rf_1_1 ?_
  refine hh_getR dX10_workOut_7 kf_X10_102 rf_6_6 ?_
  refine hh_astore dX10_workOut_10 (by decide) rfl ?_
  refine hh_iconst dX10_workOut_12 (by decide) ?_
  refine hh_istore dX10_workOut_13 (by decide) rfl ?_
  refine hh_iload_n dX10_workOut_15 rfl ?_
  refine hh_istore dX10_workOut_16 (by decide) rfl ?_
  obtain ⟨n, h⟩ := h
  exact hh_forget [true, false, true, true, true, true, true, true, false] (l_X10_workOut_18 n _ _ _ _ _ _ h)
theorem wp_X10_workOut {d : Nat} (a1 a2 a3 a4 : Int) {σ : hh_S} {Q : Int → hh_S → Prop} (h : hh_cs σ → hh_can a1 → hh_can a2 → hh_can a3 → hh_can a4 → P_X10_workOut d a1 a2 a3 a4 σ Q) : hh_Sp (d + 1) hm_X10_workOut [hh_R 112, hh_I a1, hh_I a2, hh_I a3, hh_I a4] σ Q :=
  hh_entry rfl (Nat.le_of_ble_eq_true rfl) rfl (fun hs hc => w_X10_workOut (h hs (hc _ (List.mem_of_getElem? (i := 1) rfl)) (hc _ (List.mem_of_getElem? (i := 2) rfl)) (hc _ (List.mem_of_getElem? (i := 3) rfl)) (hc _ (List.mem_of_getElem? (i := 4) rfl))))
def P_X10_atOf (d : Nat) (a1 a2 : Int) (σ : hh_S) (Q : Int → hh_S → Prop) : Prop :=
  hh_Sp d hm_X10_slotOf [hh_R 112, hh_I a1] σ (fun r2 σ2 => (0 ≤ r2 → ((-2147483648 ≤ r2 * 120 ∧ r2 * 120 ≤ 2147483647) ∧ (0 ≤ r2 ∧ r2 < 15) ∧ (-2147483648 ≤ r2 * 120 + (σ2 10 r2) ∧ r2 * 120 + (σ2 10 r2) ≤ 2147483647) ∧ (-2147483648 ≤ r2 * 120 + (σ2 11 r2) ∧ r2 * 120 + (σ2 11 r2) ≤ 2147483647)) ∧ (hh_Sp d hm_X10_workOut [hh_R 112, hh_I (r2 * 120 + (σ2 10 r2)), hh_I (r2 * 120 + (σ2 11 r2)), hh_I a1, hh_I a2] σ2 (fun r73 σ73 => Q (hh_max 0 (hh_min 9999 r73)) σ73))) ∧ (¬ 0 ≤ r2 → ((0 ≤ a1 ∧ a1 < 90) ∧ (0 ≤ σ2 25 a1 ∧ σ2 25 a1 < 8)) ∧ (Q (σ2 4 (σ2 25 a1)) σ2)))
set_option maxRecDepth 20000 in
theorem w_X10_atOf {d : Nat} {a1 a2 : Int} {σ : hh_S} {Q : Int → hh_S → Prop} (h : P_X10_atOf d a1 a2 σ Q) : hh_J (d + 1) hm_X10_atOf 0 [some (hh_R 112), some (hh_I a1), some (hh_I a2), none, none, none] [] σ Q := by
  unfold P_X10_atOf at h
  refine hh_aload_n dX10_atOf_0 rfl ?_
  refine hh_iload_n dX10_atOf_1 rfl ?_
  refine hh_cV1 dX10_atOf_2 lk_X10_28 mo_X10_slotOf rc_112 (Nat.le_of_ble_eq_true rfl) h (fun r2 σ2 h => ?_)
  refine hh_istore_n dX10_atOf_5 (by decide) rfl ?_
  refine hh_iload_n dX10_atOf_6 rfl ?_
  refine hh_if_ge (tgt := 34) dX10_atOf_7 (by decide) (fun c => ?_) (fun c => ?_)
  · replace h := h.1 c
    obtain ⟨⟨q1, q2, q3, q4⟩, h⟩ := h
    refine hh_iload_n dX10_atOf_34 rfl ?_
    refine hh_bipush dX10_atOf_35 (by decide) ?_
    refine hh_imul dX10_atOf_37 q1 ?_
    refine hh_istore dX10_atOf_38 (by decide) rfl ?_
    refine hh_aload_n dX10_atOf_40 rfl ?_
    refine hh_iload dX10_atOf_41 rfl ?_
    refine hh_aload_n dX10_atOf_43 rfl ?_
    refine hh_getR dX10_atOf_44 kf_X10_24 rf_112_0 ?_
    refine hh_getR dX10_atOf_47 kf_X10_43 rf_1_1 ?_
    refine hh_getR dX10_atOf_50 kf_X10_47 rf_6_4 ?_
    refine hh_iload_n dX10_atOf_53 rfl ?_
    refine hh_iald dX10_atOf_54 ra_10 q2 rfl ?_
    refine hh_iadd dX10_atOf_55 q3 ?_
    refine hh_iload dX10_atOf_56 rfl ?_
    refine hh_aload_n dX10_atOf_58 rfl ?_
    refine hh_getR dX10_atOf_59 kf_X10_24 rf_112_0 ?_
    refine hh_getR dX10_atOf_62 kf_X10_43 rf_1_1 ?_
    refine hh_getR dX10_atOf_65 kf_X10_77 rf_6_5 ?_
    refine hh_iload_n dX10_atOf_68 rfl ?_
    refine hh_iald dX10_atOf_69 ra_11 q2 rfl ?_
    refine hh_iadd dX10_atOf_70 q4 ?_
    refine hh_iload_n dX10_atOf_71 rfl ?_
    refine hh_iload_n dX10_atOf_72 rfl ?_
    refine hh_cV4 dX10_atOf_73 lk_X10_52 mo_X10_workOut rc_112 (Nat.le_of_ble_eq_true rfl) h (fun r73 σ73 h => ?_)
    refine hh_istore dX10_atOf_76 (by decide) rfl ?_
    refine hh_iconst dX10_atOf_78 (by decide) ?_
    refine hh_sipush dX10_atOf_79 (by decide) ?_
    refine hh_iload dX10_atOf_82 rfl ?_
    refine hh_mmin dX10_atOf_84 km_X10_56 (Nat.le_of_ble_eq_true rfl) ?_
    refine hh_mmax dX10_atOf_87 km_X10_62 (Nat.le_of_ble_eq_true rfl) ?_
    exact hh_ireturn dX10_atOf_90 rfl h
  · replace h := h.2 c
    obtain ⟨⟨q1, q2⟩, h⟩ := h
    refine hh_aload_n dX10_atOf_10 rfl ?_
    refine hh_getR dX10_atOf_11 kf_X10_24 rf_112_0 ?_
    refine hh_getR dX10_atOf_14 kf_X10_65 rf_1_0 ?_
    refine hh_getR dX10_atOf_17 kf_X10_69 rf_2_2 ?_
    refine hh_aload_n dX10_atOf_20 rfl ?_
    refine hh_getR dX10_atOf_21 kf_X10_24 rf_112_0 ?_
    refine hh_getR dX10_atOf_24 kf_X10_32 rf_1_3 ?_
    refine hh_getR dX10_atOf_27 kf_X10_74 rf_24_1 ?_
    refine hh_iload_n dX10_atOf_30 rfl ?_
    refine hh_iald dX10_atOf_31 ra_25 q1 rfl ?_
    refine hh_iald dX10_atOf_32 ra_4 q2 rfl ?_
    exact hh_ireturn dX10_atOf_33 rfl h
theorem wp_X10_atOf {d : Nat} (a1 a2 : Int) {σ : hh_S} {Q : Int → hh_S → Prop} (h : hh_cs σ → hh_can a1 → hh_can a2 → P_X10_atOf d a1 a2 σ Q) : hh_Sp (d + 1) hm_X10_atOf [hh_R 112, hh_I a1, hh_I a2] σ Q :=
  hh_entry rfl (Nat.le_of_ble_eq_true rfl) rfl (fun hs hc => w_X10_atOf (h hs (hc _ (List.mem_of_getElem? (i := 1) rfl)) (hc _ (List.mem_of_getElem? (i := 2) rfl))))
def B_X10_putInOrder_111 (d : Nat) (Q : Int → hh_S → Prop) (k14 : Int → Int → Int → Int → hh_S → Prop) (x1 x2 x4 x5 : Int) (σ : hh_S) : Prop :=
  ((-2147483648 ≤ x5 + 1 ∧ x5 + 1 ≤ 2147483647)) ∧ (k14 x1 x2 x4 (x5 + 1) σ)
def B_X10_putInOrder_99 (d : Nat) (Q : Int → hh_S → Prop) (k14 : Int → Int → Int → Int → hh_S → Prop) (x1 x2 x4 x5 x6 : Int) (σ : hh_S) : Prop :=
  ((0 ≤ x6 ∧ x6 < 90) ∧ (-2147483648 ≤ x4 + 1 ∧ x4 + 1 ≤ 2147483647)) ∧ (B_X10_putInOrder_111 d Q k14 x1 x2 (x4 + 1) x5 (hh_up σ 114 x6 x5))
def B_X10_putInOrder_48 (d : Nat) (Q : Int → hh_S → Prop) (k14 : Int → Int → Int → Int → hh_S → Prop) (k48 : Int → Int → Int → Int → Int → hh_S → Prop) (x1 x2 x4 x5 x6 : Int) (σ : hh_S) : Prop :=
  (x6 ≤ 0 → B_X10_putInOrder_99 d Q k14 x1 x2 x4 x5 x6 σ) ∧ (¬ x6 ≤ 0 → ((-2147483648 ≤ x6 - 1 ∧ x6 - 1 ≤ 2147483647) ∧ (0 ≤ x6 - 1 ∧ x6 - 1 < 90) ∧ (0 ≤ σ 114 (x6 - 1) ∧ σ 114 (x6 - 1) < 90) ∧ (0 ≤ x5 ∧ x5 < 90)) ∧ ((σ 27 (σ 114 (x6 - 1)) ≤ σ 27 x5 → B_X10_putInOrder_99 d Q k14 x1 x2 x4 x5 x6 σ) ∧ (¬ σ 27 (σ 114 (x6 - 1)) ≤ σ 27 x5 → ((-2147483648 ≤ x6 - 1 ∧ x6 - 1 ≤ 2147483647) ∧ (0 ≤ x6 - 1 ∧ x6 - 1 < 90) ∧ (0 ≤ x6 ∧ x6 < 90) ∧ (-2147483648 ≤ x6 + (-1) ∧ x6 + (-1) ≤ 2147483647)) ∧ (k48 x1 x2 x4 x5 (x6 + (-1)) (hh_up σ 114 x6 (σ 114 (x6 - 1)))))))
def B_X10_putInOrder_14 (d : Nat) (Q : Int → hh_S → Prop) (k14 : Int → Int → Int → Int → hh_S → Prop) (x1 x2 x4 x5 : Int) (σ : hh_S) : Prop :=
  (σ 24 0 ≤ x5 → Q x4 σ) ∧ (¬ σ 24 0 ≤ x5 → ((0 ≤ x5 ∧ x5 < 90)) ∧ ((¬ σ 26 x5 = x1 → B_X10_putInOrder_111 d Q k14 x1 x2 x4 x5 σ) ∧ (σ 26 x5 = x1 → hh_Sp d hm_X3_isKnown [hh_R 24, hh_I x5, hh_I x2] σ (fun r38 σ38 => (r38 = 0 → B_X10_putInOrder_111 d Q k14 x1 x2 x4 x5 σ38) ∧ (¬ r38 = 0 → ∃ n, hh_lp5 (B_X10_putInOrder_48 d Q k14) n x1 x2 x4 x5 x4 σ38)))))
def P_X10_putInOrder (d : Nat) (a1 a2 : Int) (σ : hh_S) (Q : Int → hh_S → Prop) : Prop :=
  ∃ n, hh_lp4 (B_X10_putInOrder_14 d Q) n a1 a2 0 0 σ
set_option maxRecDepth 20000 in
theorem w_X10_putInOrder_111 {d : Nat} {Q : Int → hh_S → Prop} {k14 : Int → Int → Int → Int → hh_S → Prop} (hk14 : ∀ (x1 x2 x4 x5 : Int) (σ : hh_S), k14 x1 x2 x4 x5 σ → hh_J (d + 1) hm_X10_putInOrder 14 [some (hh_R 112), some (hh_I x1), some (hh_I x2), some (hh_R 24), some (hh_I x4), some (hh_I x5), none] [] σ Q) (x1 x2 x4 x5 : Int) (σ : hh_S) (h : B_X10_putInOrder_111 d Q k14 x1 x2 x4 x5 σ) : hh_J (d + 1) hm_X10_putInOrder 111 [some (hh_R 112), some (hh_I x1), some (hh_I x2), some (hh_R 24), some (hh_I x4), some (hh_I x5), none] [] σ Q := by
  unfold B_X10_putInOrder_111 at h
  obtain ⟨q1, h⟩ := h
  refine hh_iinc dX10_putInOrder_111 (by decide) rfl rfl q1 ?_
  refine hh_goto (tgt := 14) dX10_putInOrder_114 (by decide) ?_
  exact hh_forget [true, true, true, true, true, true, false] (hk14 _ _ _ _ _ h)
set_option maxRecDepth 20000 in
theorem w_X10_putInOrder_99 {d : Nat} {Q : Int → hh_S → Prop} {k14 : Int → Int → Int → Int → hh_S → Prop} (hk14 : ∀ (x1 x2 x4 x5 : Int) (σ : hh_S), k14 x1 x2 x4 x5 σ → hh_J (d + 1) hm_X10_putInOrder 14 [some (hh_R 112), some (hh_I x1), some (hh_I x2), some (hh_R 24), some (hh_I x4), some (hh_I x5), none] [] σ Q) (x1 x2 x4 x5 x6 : Int) (σ : hh_S) (h : B_X10_putInOrder_99 d Q k14 x1 x2 x4 x5 x6 σ) : hh_J (d + 1) hm_X10_putInOrder 99 [some (hh_R 112), some (hh_I x1), some (hh_I x2), some (hh_R 24), some (hh_I x4), some (hh_I x5), some (hh_I x6)] [] σ Q := by
  unfold B_X10_putInOrder_99 at h
  obtain ⟨⟨q1, q2⟩, h⟩ := h
  refine hh_aload_n dX10_putInOrder_99 rfl ?_
  refine hh_getR dX10_putInOrder_100 kf_X10_15 rf_112_2 ?_
  refine hh_iload dX10_putInOrder_103 rfl ?_
  refine hh_iload dX10_putInOrder_105 rfl ?_
  refine hh_iast dX10_putInOrder_107 ra_114 q1 ?_
  refine hh_iinc dX10_putInOrder_108 (by decide) rfl rfl q2 ?_
  exact hh_forget [true, true, true, true, true, true, false] (w_X10_putInOrder_111 hk14 _ _ _ _ _ h)
set_option maxRecDepth 20000 in
theorem w_X10_putInOrder_48 {d : Nat} {Q : Int → hh_S → Prop} {k14 : Int → Int → Int → Int → hh_S → Prop} {k48 : Int → Int → Int → Int → Int → hh_S → Prop} (hk14 : ∀ (x1 x2 x4 x5 : Int) (σ : hh_S), k14 x1 x2 x4 x5 σ → hh_J (d + 1) hm_X10_putInOrder 14 [some (hh_R 112), some (hh_I x1), some (hh_I x2), some (hh_R 24), some (hh_I x4), some (hh_I x5), none] [] σ Q) (hk48 : ∀ (x1 x2 x4 x5 x6 : Int) (σ : hh_S), k48 x1 x2 x4 x5 x6 σ → hh_J (d + 1) hm_X10_putInOrder 48 [some (hh_R 112), some (hh_I x1), some (hh_I x2), some (hh_R 24), some (hh_I x4), some (hh_I x5), some (hh_I x6)] [] σ Q) (x1 x2 x4 x5 x6 : Int) (σ : hh_S) (h : B_X10_putInOrder_48 d Q k14 k48 x1 x2 x4 x5 x6 σ) : hh_J (d + 1) hm_X10_putInOrder 48 [some (hh_R 112), some (hh_I x1), some (hh_I x2), some (hh_R 24), some (hh_I x4), some (hh_I x5), some (hh_I x6)] [] σ Q := by
  unfold B_X10_putInOrder_48 at h
  refine hh_iload dX10_putInOrder_48 rfl ?_
  refine hh_if_le (tgt := 99) dX10_putInOrder_50 (by decide) (fun c => ?_) (fun c => ?_)
  · replace h := h.1 c
    exact hh_forget [true, true, true, true, true, true, true] (w_X10_putInOrder_99 hk14 _ _ _ _ _ _ h)
  · replace h := h.2 c
    obtain ⟨⟨q1, q2, q3, q4⟩, h⟩ := h
    refine hh_aload_n dX10_putInOrder_53 rfl ?_
    refine hh_getR dX10_putInOrder_54 kf_X10_96 rf_24_3 ?_
    refine hh_aload_n dX10_putInOrder_57 rfl ?_
    refine hh_getR dX10_putInOrder_58 kf_X10_15 rf_112_2 ?_
    refine hh_iload dX10_putInOrder_61 rfl ?_
    refine hh_iconst dX10_putInOrder_63 (by decide) ?_
    refine hh_isub dX10_putInOrder_64 q1 ?_
    refine hh_iald dX10_putInOrder_65 ra_114 q2 rfl ?_
    refine hh_iald dX10_putInOrder_66 ra_27 q3 rfl ?_
    refine hh_aload_n dX10_putInOrder_67 rfl ?_
    refine hh_getR dX10_putInOrder_68 kf_X10_96 rf_24_3 ?_
    refine hh_iload dX10_putInOrder_71 rfl ?_
    refine hh_iald dX10_putInOrder_73 ra_27 q4 rfl ?_
    refine hh_icmp_le (tgt := 99) dX10_putInOrder_74 (by decide) (fun c => ?_) (fun c => ?_)
    · replace h := h.1 c
      exact hh_forget [true, true, true, true, true, true, true] (w_X10_putInOrder_99 hk14 _ _ _ _ _ _ h)
    · replace h := h.2 c
      obtain ⟨⟨q1, q2, q3, q4⟩, h⟩ := h
      refine hh_aload_n dX10_putInOrder_77 rfl ?_
      refine hh_getR dX10_putInOrder_78 kf_X10_15 rf_112_2 ?_
      refine hh_iload dX10_putInOrder_81 rfl ?_
      refine hh_aload_n dX10_putInOrder_83 rfl ?_
      refine hh_getR dX10_putInOrder_84 kf_X10_15 rf_112_2 ?_
      refine hh_iload dX10_putInOrder_87 rfl ?_
      refine hh_iconst dX10_putInOrder_89 (by decide) ?_
      refine hh_isub dX10_putInOrder_90 q1 ?_
      refine hh_iald dX10_putInOrder_91 ra_114 q2 rfl ?_
      refine hh_iast dX10_putInOrder_92 ra_114 q3 ?_
      refine hh_iinc dX10_putInOrder_93 (by decide) rfl rfl q4 ?_
      refine hh_goto (tgt := 48) dX10_putInOrder_96 (by decide) ?_
      exact hh_forget [true, true, true, true, true, true, true] (hk48 _ _ _ _ _ _ h)
theorem l_X10_putInOrder_48 {d : Nat} {Q : Int → hh_S → Prop} {k14 : Int → Int → Int → Int → hh_S → Prop} (hk14 : ∀ (x1 x2 x4 x5 : Int) (σ : hh_S), k14 x1 x2 x4 x5 σ → hh_J (d + 1) hm_X10_putInOrder 14 [some (hh_R 112), some (hh_I x1), some (hh_I x2), some (hh_R 24), some (hh_I x4), some (hh_I x5), none] [] σ Q) : ∀ (n : Nat) (x1 x2 x4 x5 x6 : Int) (σ : hh_S), hh_lp5 (B_X10_putInOrder_48 d Q k14) n x1 x2 x4 x5 x6 σ → hh_J (d + 1) hm_X10_putInOrder 48 [some (hh_R 112), some (hh_I x1), some (hh_I x2), some (hh_R 24), some (hh_I x4), some (hh_I x5), some (hh_I x6)] [] σ Q := by
  intro n
  induction n with
  | zero => intro _ _ _ _ _ _ h; exact h.elim
  | succ n ih => intro x1 x2 x4 x5 x6 σ h; exact w_X10_putInOrder_48 hk14 ih x1 x2 x4 x5 x6 σ h
set_option maxRecDepth 20000 in
theorem w_X10_putInOrder_14 {d : Nat} {Q : Int → hh_S → Prop} {k14 : Int → Int → Int → Int → hh_S → Prop} (hk14 : ∀ (x1 x2 x4 x5 : Int) (σ : hh_S), k14 x1 x2 x4 x5 σ → hh_J (d + 1) hm_X10_putInOrder 14 [some (hh_R 112), some (hh_I x1), some (hh_I x2), some (hh_R 24), some (hh_I x4), some (hh_I x5), none] [] σ Q) (x1 x2 x4 x5 : Int) (σ : hh_S) (h : B_X10_putInOrder_14 d Q k14 x1 x2 x4 x5 σ) : hh_J (d + 1) hm_X10_putInOrder 14 [some (hh_R 112), some (hh_I x1), some (hh_I x2), some (hh_R 24), some (hh_I x4), some (hh_I x5), none] [] σ Q := by
  unfold B_X10_putInOrder_14 at h
  refine hh_iload dX10_putInOrder_14 rfl ?_
  refine hh_aload_n dX10_putInOrder_16 rfl ?_
  refine hh_getI dX10_putInOrder_17 kf_X10_123 rf_24_0 rfl ?_
  refine hh_icmp_ge (tgt := 117) dX10_putInOrder_20 (by decide) (fun c => ?_) (fun c => ?_)
  · replace h := h.1 c
    refine hh_iload dX10_putInOrder_117 rfl ?_
    exact hh_ireturn dX10_putInOrder_119 rfl h
  · replace h := h.2 c
    obtain ⟨q1, h⟩ := h
    refine hh_aload_n dX10_putInOrder_23 rfl ?_
    refine hh_getR dX10_putInOrder_24 kf_X10_94 rf_24_2 ?_
    refine hh_iload dX10_putInOrder_27 rfl ?_
    refine hh_iald dX10_putInOrder_29 ra_26 q1 rfl ?_
    refine hh_iload_n dX10_putInOrder_30 rfl ?_
    refine hh_icmp_ne (tgt := 111) dX10_putInOrder_31 (by decide) (fun c => ?_) (fun c => ?_)
    · replace h := h.1 c
      exact hh_forget [true, true, true, true, true, true, false] (w_X10_putInOrder_111 hk14 _ _ _ _ _ h)
    · replace h := h.2 c
      refine hh_aload_n dX10_putInOrder_34 rfl ?_
      refine hh_iload dX10_putInOrder_35 rfl ?_
      refine hh_iload_n dX10_putInOrder_37 rfl ?_
      refine hh_cV2 dX10_putInOrder_38 lk_X10_131 mo_X3_isKnown rc_24 (Nat.le_of_ble_eq_true rfl) h (fun r38 σ38 h => ?_)
      refine hh_if_eq (tgt := 111) dX10_putInOrder_41 (by decide) (fun c => ?_) (fun c => ?_)
      · replace h := h.1 c
        exact hh_forget [true, true, true, true, true, true, false] (w_X10_putInOrder_111 hk14 _ _ _ _ _ h)
      · replace h := h.2 c
        refine hh_iload dX10_putInOrder_44 rfl ?_
        refine hh_istore dX10_putInOrder_46 (by decide) rfl ?_
        obtain ⟨n, h⟩ := h
        exact hh_forget [true, true, true, true, true, true, true] (l_X10_putInOrder_48 hk14 n _ _ _ _ _ _ h)
theorem l_X10_putInOrder_14 {d : Nat} {Q : Int → hh_S → Prop} : ∀ (n : Nat) (x1 x2 x4 x5 : Int) (σ : hh_S), hh_lp4 (B_X10_putInOrder_14 d Q) n x1 x2 x4 x5 σ → hh_J (d + 1) hm_X10_putInOrder 14 [some (hh_R 112), some (hh_I x1), some (hh_I x2), some (hh_R 24), some (hh_I x4), some (hh_I x5), none] [] σ Q := by
  intro n
  induction n with
  | zero => intro _ _ _ _ _ h; exact h.elim
  | succ n ih => intro x1 x2 x4 x5 σ h; exact w_X10_putInOrder_14 ih x1 x2 x4 x5 σ h
set_option maxRecDepth 20000 in
theorem w_X10_putInOrder {d : Nat} {a1 a2 : Int} {σ : hh_S} {Q : Int → hh_S → Prop} (h : P_X10_putInOrder d a1 a2 σ Q) : hh_J (d + 1) hm_X10_putInOrder 0 [some (hh_R 112), some (hh_I a1), some (hh_I a2), none, none, none, none] [] σ Q := by
  unfold P_X10_putInOrder at h
  refine hh_aload_n dX10_putInOrder_0 rfl ?_
  refine hh_getR dX10_putInOrder_1 kf_X10_24 rf_112_0 ?_
  refine hh_getR dX10_putInOrder_4 kf_X10_32 rf_1_3 ?_
  refine hh_astore_n dX10_putInOrder_7 (by decide) rfl ?_
  refine hh_iconst dX10_putInOrder_8 (by decide) ?_
  refine hh_istore dX10_putInOrder_9 (by decide) rfl ?_
  refine hh_iconst dX10_putInOrder_11 (by decide) ?_
  refine hh_istore dX10_putInOrder_12 (by decide) rfl ?_
  obtain ⟨n, h⟩ := h
  exact hh_forget [true, true, true, true, true, true, false] (l_X10_putInOrder_14 n _ _ _ _ _ h)
theorem wp_X10_putInOrder {d : Nat} (a1 a2 : Int) {σ : hh_S} {Q : Int → hh_S → Prop} (h : hh_cs σ → hh_can a1 → hh_can a2 → P_X10_putInOrder d a1 a2 σ Q) : hh_Sp (d + 1) hm_X10_putInOrder [hh_R 112, hh_I a1, hh_I a2] σ Q :=
  hh_entry rfl (Nat.le_of_ble_eq_true rfl) rfl (fun hs hc => w_X10_putInOrder (h hs (hc _ (List.mem_of_getElem? (i := 1) rfl)) (hc _ (List.mem_of_getElem? (i := 2) rfl))))
def P_X10_countedOf (d : Nat) (a1 a2 : Int) (σ : hh_S) (Q : Int → hh_S → Prop) : Prop :=
  hh_Sp d hm_X10_slotOf [hh_R 112, hh_I a1] σ (fun r2 σ2 => (0 ≤ r2 → ((-2147483648 ≤ r2 * 120 ∧ r2 * 120 ≤ 2147483647) ∧ (0 ≤ r2 ∧ r2 < 15) ∧ (-2147483648 ≤ r2 * 120 + (σ2 10 r2) ∧ r2 * 120 + (σ2 10 r2) ≤ 2147483647)) ∧ (hh_Sp d hm_X10_workOut [hh_R 112, hh_I (r2 * 120), hh_I (r2 * 120 + (σ2 10 r2)), hh_I a1, hh_I a2] σ2 (fun r49 σ49 => Q (hh_max 0 (hh_min 240 r49)) σ49))) ∧ (¬ 0 ≤ r2 → ((0 ≤ a1 ∧ a1 < 90)) ∧ (Q (σ2 29 a1) σ2)))
set_option maxRecDepth 20000 in
theorem w_X10_countedOf {d : Nat} {a1 a2 : Int} {σ : hh_S} {Q : Int → hh_S → Prop} (h : P_X10_countedOf d a1 a2 σ Q) : hh_J (d + 1) hm_X10_countedOf 0 [some (hh_R 112), some (hh_I a1), some (hh_I a2), none, none, none] [] σ Q := by
  unfold P_X10_countedOf at h
  refine hh_aload_n dX10_countedOf_0 rfl ?_
  refine hh_iload_n dX10_countedOf_1 rfl ?_
  refine hh_cV1 dX10_countedOf_2 lk_X10_28 mo_X10_slotOf rc_112 (Nat.le_of_ble_eq_true rfl) h (fun r2 σ2 h => ?_)
  refine hh_istore_n dX10_countedOf_5 (by decide) rfl ?_
  refine hh_iload_n dX10_countedOf_6 rfl ?_
  refine hh_if_ge (tgt := 23) dX10_countedOf_7 (by decide) (fun c => ?_) (fun c => ?_)
  · replace h := h.1 c
    obtain ⟨⟨q1, q2, q3⟩, h⟩ := h
    refine hh_iload_n dX10_countedOf_23 rfl ?_
    refine hh_bipush dX10_countedOf_24 (by decide) ?_
    refine hh_imul dX10_countedOf_26 q1 ?_
    refine hh_istore dX10_countedOf_27 (by decide) rfl ?_
    refine hh_aload_n dX10_countedOf_29 rfl ?_
    refine hh_iload dX10_countedOf_30 rfl ?_
    refine hh_iload dX10_countedOf_32 rfl ?_
    refine hh_aload_n dX10_countedOf_34 rfl ?_
    refine hh_getR dX10_countedOf_35 kf_X10_24 rf_112_0 ?_
    refine hh_getR dX10_countedOf_38 kf_X10_43 rf_1_1 ?_
    refine hh_getR dX10_countedOf_41 kf_X10_47 rf_6_4 ?_
    refine hh_iload_n dX10_countedOf_44 rfl ?_
    refine hh_iald dX10_countedOf_45 ra_10 q2 rfl ?_
    refine hh_iadd dX10_countedOf_46 q3 ?_
    refine hh_iload_n dX10_countedOf_47 rfl ?_
    refine hh_iload_n dX10_countedOf_48 rfl ?_
    refine hh_cV4 dX10_countedOf_49 lk_X10_52 mo_X10_workOut rc_112 (Nat.le_of_ble_eq_true rfl) h (fun r49 σ49 h => ?_)
    refine hh_istore dX10_countedOf_52 (by decide) rfl ?_
    refine hh_iconst dX10_countedOf_54 (by decide) ?_
    refine hh_sipush dX10_countedOf_55 (by decide) ?_
    refine hh_iload dX10_countedOf_58 rfl ?_
    refine hh_mmin dX10_countedOf_60 km_X10_56 (Nat.le_of_ble_eq_true rfl) ?_
    refine hh_mmax dX10_countedOf_63 km_X10_62 (Nat.le_of_ble_eq_true rfl) ?_
    exact hh_ireturn dX10_countedOf_66 rfl h
  · replace h := h.2 c
    obtain ⟨q1, h⟩ := h
    refine hh_aload_n dX10_countedOf_10 rfl ?_
    refine hh_getR dX10_countedOf_11 kf_X10_24 rf_112_0 ?_
    refine hh_getR dX10_countedOf_14 kf_X10_32 rf_1_3 ?_
    refine hh_getR dX10_countedOf_17 kf_X10_38 rf_24_5 ?_
    refine hh_iload_n dX10_countedOf_20 rfl ?_
    refine hh_iald dX10_countedOf_21 ra_29 q1 rfl ?_
    exact hh_ireturn dX10_countedOf_22 rfl h
theorem wp_X10_countedOf {d : Nat} (a1 a2 : Int) {σ : hh_S} {Q : Int → hh_S → Prop} (h : hh_cs σ → hh_can a1 → hh_can a2 → P_X10_countedOf d a1 a2 σ Q) : hh_Sp (d + 1) hm_X10_countedOf [hh_R 112, hh_I a1, hh_I a2] σ Q :=
  hh_entry rfl (Nat.le_of_ble_eq_true rfl) rfl (fun hs hc => w_X10_countedOf (h hs (hc _ (List.mem_of_getElem? (i := 1) rfl)) (hc _ (List.mem_of_getElem? (i := 2) rfl))))
def P_X10_worthOf (d : Nat) (a1 a2 : Int) (σ : hh_S) (Q : Int → hh_S → Prop) : Prop :=
  hh_Sp d hm_X10_countedOf [hh_R 112, hh_I a1, hh_I a2] σ (fun r3 σ3 => hh_Sp d hm_X10_atOf [hh_R 112, hh_I a1, hh_I a2] σ3 (fun r9 σ9 => ((-2147483648 ≤ r3 * r9 ∧ r3 * r9 ≤ 2147483647) ∧ 0 ≤ r3 * r9) ∧ (Q ((r3 * r9) / 10) σ9)))
set_option maxRecDepth 20000 in
theorem w_X10_worthOf {d : Nat} {a1 a2 : Int} {σ : hh_S} {Q : Int → hh_S → Prop} (h : P_X10_worthOf d a1 a2 σ Q) : hh_J (d + 1) hm_X10_worthOf 0 [some (hh_R 112), some (hh_I a1), some (hh_I a2)] [] σ Q := by
  unfold P_X10_worthOf at h
  refine hh_aload_n dX10_worthOf_0 rfl ?_
  refine hh_iload_n dX10_worthOf_1 rfl ?_
  refine hh_iload_n dX10_worthOf_2 rfl ?_
  refine hh_cV2 dX10_worthOf_3 lk_X10_80 mo_X10_countedOf rc_112 (Nat.le_of_ble_eq_true rfl) h (fun r3 σ3 h => ?_)
  refine hh_aload_n dX10_worthOf_6 rfl ?_
  refine hh_iload_n dX10_worthOf_7 rfl ?_
  refine hh_iload_n dX10_worthOf_8 rfl ?_
  refine hh_cV2 dX10_worthOf_9 lk_X10_83 mo_X10_atOf rc_112 (Nat.le_of_ble_eq_true rfl) h (fun r9 σ9 h => ?_)
  obtain ⟨⟨q1, q2⟩, h⟩ := h
  refine hh_imul dX10_worthOf_12 q1 ?_
  refine hh_bipush dX10_worthOf_13 (by decide) ?_
  refine hh_idiv dX10_worthOf_15 q2 (by decide) ?_
  exact hh_ireturn dX10_worthOf_16 rfl h
theorem wp_X10_worthOf {d : Nat} (a1 a2 : Int) {σ : hh_S} {Q : Int → hh_S → Prop} (h : hh_cs σ → hh_can a1 → hh_can a2 → P_X10_worthOf d a1 a2 σ Q) : hh_Sp (d + 1) hm_X10_worthOf [hh_R 112, hh_I a1, hh_I a2] σ Q :=
  hh_entry rfl (Nat.le_of_ble_eq_true rfl) rfl (fun hs hc => w_X10_worthOf (h hs (hc _ (List.mem_of_getElem? (i := 1) rfl)) (hc _ (List.mem_of_getElem? (i := 2) rfl))))
def B_X10_chargeMatter_189 (d : Nat) (Q : Int → hh_S → Prop) (k47 : Int → Int → Int → Int → Int → Int → Int → Int → Int → hh_S → Prop) (x1 x2 x3 x4 x5 x6 x7 x8 x9 x10 x11 : Int) (σ : hh_S) : Prop :=
  ((0 ≤ x10 ∧ x10 < 90) ∧ (-2147483648 ≤ x8 + x11 ∧ x8 + x11 ≤ 2147483647) ∧ (-2147483648 ≤ x9 + 1 ∧ x9 + 1 ≤ 2147483647)) ∧ (k47 x1 x2 x3 x4 x5 x6 x7 (x8 + x11) (x9 + 1) (hh_up σ 116 x10 x11))
def B_X10_chargeMatter_173 (d : Nat) (Q : Int → hh_S → Prop) (k47 : Int → Int → Int → Int → Int → Int → Int → Int → Int → hh_S → Prop) (x1 x2 x3 x4 x5 x6 x7 x8 x9 x10 x11 : Int) (σ : hh_S) : Prop :=
  ((-2147483648 ≤ x7 - (hh_min x11 x7) ∧ x7 - (hh_min x11 x7) ≤ 2147483647)) ∧ (B_X10_chargeMatter_189 d Q k47 x1 x2 x3 x4 x5 x6 (x7 - (hh_min x11 x7)) x8 x9 x10 (hh_min x11 x7) σ)
def B_X10_chargeMatter_108 (d : Nat) (Q : Int → hh_S → Prop) (k47 : Int → Int → Int → Int → Int → Int → Int → Int → Int → hh_S → Prop) (x1 x2 x3 x4 x5 x6 x7 x8 x9 x10 x11 s0 : Int) (σ : hh_S) : Prop :=
  (x4 = 0 → B_X10_chargeMatter_189 d Q k47 x1 x2 x3 x4 x5 x6 x7 x8 x9 x10 x11 σ) ∧ (¬ x4 = 0 → (¬ s0 = 0 → B_X10_chargeMatter_189 d Q k47 x1 x2 x3 x4 x5 x6 x7 x8 x9 x10 x11 σ) ∧ (s0 = 0 → ((0 ≤ x10 ∧ x10 < 90) ∧ 0 ≤ σ 27 x10) ∧ (((σ 27 x10) / 30 = x6 → B_X10_chargeMatter_173 d Q k47 x1 x2 x3 x4 x5 x6 x7 x8 x9 x10 x11 σ) ∧ (¬ (σ 27 x10) / 30 = x6 → ((0 ≤ x10 ∧ x10 < 90) ∧ 0 ≤ σ 27 x10 ∧ (0 ≤ x1 ∧ x1 < 10)) ∧ (B_X10_chargeMatter_173 d Q k47 x1 x2 x3 x4 x5 ((σ 27 x10) / 30) (σ 16 x1) x8 x9 x10 x11 σ)))))
def B_X10_chargeMatter_107 (d : Nat) (Q : Int → hh_S → Prop) (k47 : Int → Int → Int → Int → Int → Int → Int → Int → Int → hh_S → Prop) (x1 x2 x3 x4 x5 x6 x7 x8 x9 x10 x11 : Int) (σ : hh_S) : Prop :=
  B_X10_chargeMatter_108 d Q k47 x1 x2 x3 x4 x5 x6 x7 x8 x9 x10 x11 0 σ
def B_X10_chargeMatter_79 (d : Nat) (Q : Int → hh_S → Prop) (k47 : Int → Int → Int → Int → Int → Int → Int → Int → Int → hh_S → Prop) (x1 x2 x3 x4 x5 x6 x7 x8 x9 x10 s0 : Int) (σ : hh_S) : Prop :=
  (¬ x3 = 3 → B_X10_chargeMatter_107 d Q k47 x1 x2 x3 x4 x5 x6 x7 x8 x9 x10 s0 σ) ∧ (x3 = 3 → ((0 ≤ x10 ∧ x10 < 90)) ∧ ((¬ σ 30 x10 = 5 → B_X10_chargeMatter_107 d Q k47 x1 x2 x3 x4 x5 x6 x7 x8 x9 x10 s0 σ) ∧ (σ 30 x10 = 5 → B_X10_chargeMatter_108 d Q k47 x1 x2 x3 x4 x5 x6 x7 x8 x9 x10 s0 1 σ)))
def B_X10_chargeMatter_47 (d : Nat) (Q : Int → hh_S → Prop) (k47 : Int → Int → Int → Int → Int → Int → Int → Int → Int → hh_S → Prop) (x1 x2 x3 x4 x5 x6 x7 x8 x9 : Int) (σ : hh_S) : Prop :=
  (x5 ≤ x9 → Q x8 σ) ∧ (¬ x5 ≤ x9 → ((0 ≤ x9 ∧ x9 < 90)) ∧ ((¬ x3 = 1 → hh_Sp d hm_X10_worthOf [hh_R 112, hh_I (σ 114 x9), hh_I x2] σ (fun r76 σ76 => B_X10_chargeMatter_79 d Q k47 x1 x2 x3 x4 x5 x6 x7 x8 x9 (σ 114 x9) r76 σ76)) ∧ (x3 = 1 → B_X10_chargeMatter_79 d Q k47 x1 x2 x3 x4 x5 x6 x7 x8 x9 (σ 114 x9) 0 σ)))
def P_X10_chargeMatter (d : Nat) (a1 a2 : Int) (σ : hh_S) (Q : Int → hh_S → Prop) : Prop :=
  ((0 ≤ a1 ∧ a1 < 10)) ∧ (hh_Sp d hm_X5_isUnder [hh_R 13, hh_I a1, hh_I 2] σ (fun r22 σ22 => hh_Sp d hm_X10_putInOrder [hh_R 112, hh_I a1, hh_I a2] σ22 (fun r30 σ30 => ∃ n, hh_lp9 (B_X10_chargeMatter_47 d Q) n a1 a2 (σ 14 a1) r22 r30 (-1) 0 0 0 σ30)))
set_option maxRecDepth 20000 in
theorem w_X10_chargeMatter_189 {d : Nat} {Q : Int → hh_S → Prop} {k47 : Int → Int → Int → Int → Int → Int → Int → Int → Int → hh_S → Prop} (hk47 : ∀ (x1 x2 x3 x4 x5 x6 x7 x8 x9 : Int) (σ : hh_S), k47 x1 x2 x3 x4 x5 x6 x7 x8 x9 σ → hh_J (d + 1) hm_X10_chargeMatter 47 [some (hh_R 112), some (hh_I x1), some (hh_I x2), some (hh_I x3), some (hh_I x4), some (hh_I x5), some (hh_I x6), some (hh_I x7), some (hh_I x8), some (hh_I x9), none, none, none] [] σ Q) (x1 x2 x3 x4 x5 x6 x7 x8 x9 x10 x11 : Int) (σ : hh_S) (h : B_X10_chargeMatter_189 d Q k47 x1 x2 x3 x4 x5 x6 x7 x8 x9 x10 x11 σ) : hh_J (d + 1) hm_X10_chargeMatter 189 [some (hh_R 112), some (hh_I x1), some (hh_I x2), some (hh_I x3), some (hh_I x4), some (hh_I x5), some (hh_I x6), some (hh_I x7), some (hh_I x8), some (hh_I x9), some (hh_I x10), some (hh_I x11), none] [] σ Q := by
  unfold B_X10_chargeMatter_189 at h
  obtain ⟨⟨q1, q2, q3⟩, h⟩ := h
  refine hh_aload_n dX10_chargeMatter_189 rfl ?_
  refine hh_getR dX10_chargeMatter_190 kf_X10_21 rf_112_4 ?_
  refine hh_iload dX10_chargeMatter_193 rfl ?_
  refine hh_iload dX10_chargeMatter_195 rfl ?_
  refine hh_iast dX10_chargeMatter_197 ra_116 q1 ?_
  refine hh_iload dX10_chargeMatter_198 rfl ?_
  refine hh_iload dX10_chargeMatter_200 rfl ?_
  refine hh_iadd dX10_chargeMatter_202 q2 ?_
  refine hh_istore dX10_chargeMatter_203 (by decide) rfl ?_
  refine hh_iinc dX10_chargeMatter_205 (by decide) rfl rfl q3 ?_
  refine hh_goto (tgt := 47) dX10_chargeMatter_208 (by decide) ?_
  exact hh_forget [true, true, true, true, true, true, true, true, true, true, false, false, false] (hk47 _ _ _ _ _ _ _ _ _ _ h)
set_option maxRecDepth 20000 in
theorem w_X10_chargeMatter_173 {d : Nat} {Q : Int → hh_S → Prop} {k47 : Int → Int → Int → Int → Int → Int → Int → Int → Int → hh_S → Prop} (hk47 : ∀ (x1 x2 x3 x4 x5 x6 x7 x8 x9 : Int) (σ : hh_S), k47 x1 x2 x3 x4 x5 x6 x7 x8 x9 σ → hh_J (d + 1) hm_X10_chargeMatter 47 [some (hh_R 112), some (hh_I x1), some (hh_I x2), some (hh_I x3), some (hh_I x4), some (hh_I x5), some (hh_I x6), some (hh_I x7), some (hh_I x8), some (hh_I x9), none, none, none] [] σ Q) (x1 x2 x3 x4 x5 x6 x7 x8 x9 x10 x11 : Int) (σ : hh_S) (h : B_X10_chargeMatter_173 d Q k47 x1 x2 x3 x4 x5 x6 x7 x8 x9 x10 x11 σ) : hh_J (d + 1) hm_X10_chargeMatter 173 [some (hh_R 112), some (hh_I x1), some (hh_I x2), some (hh_I x3), some (hh_I x4), some (hh_I x5), some (hh_I x6), some (hh_I x7), some (hh_I x8), some (hh_I x9), some (hh_I x10), some (hh_I x11), none] [] σ Q := by
  unfold B_X10_chargeMatter_173 at h
  obtain ⟨q1, h⟩ := h
  refine hh_iload dX10_chargeMatter_173 rfl ?_
  refine hh_iload dX10_chargeMatter_175 rfl ?_
  refine hh_mmin dX10_chargeMatter_177 km_X10_56 (Nat.le_of_ble_eq_true rfl) ?_
  refine hh_istore dX10_chargeMatter_180 (by decide) rfl ?_
  refine hh_iload dX10_chargeMatter_182 rfl ?_
  refine hh_iload dX10_chargeMatter_184 rfl ?_
  refine hh_isub dX10_chargeMatter_186 q1 ?_
  refine hh_istore dX10_chargeMatter_187 (by decide) rfl ?_
  exact hh_forget [true, true, true, true, true, true, true, true, true, true, true, true, false] (w_X10_chargeMatter_189 hk47 _ _ _ _ _ _ _ _ _ _ _ _ h)
set_option maxRecDepth 20000 in
theorem w_X10_chargeMatter_108 {d : Nat} {Q : Int → hh_S → Prop} {k47 : Int → Int → Int → Int → Int → Int → Int → Int → Int → hh_S → Prop} (hk47 : ∀ (x1 x2 x3 x4 x5 x6 x7 x8 x9 : Int) (σ : hh_S), k47 x1 x2 x3 x4 x5 x6 x7 x8 x9 σ → hh_J (d + 1) hm_X10_chargeMatter 47 [some (hh_R 112), some (hh_I x1), some (hh_I x2), some (hh_I x3), some (hh_I x4), some (hh_I x5), some (hh_I x6), some (hh_I x7), some (hh_I x8), some (hh_I x9), none, none, none] [] σ Q) (x1 x2 x3 x4 x5 x6 x7 x8 x9 x10 x11 s0 : Int) (σ : hh_S) (h : B_X10_chargeMatter_108 d Q k47 x1 x2 x3 x4 x5 x6 x7 x8 x9 x10 x11 s0 σ) : hh_J (d + 1) hm_X10_chargeMatter 108 [some (hh_R 112), some (hh_I x1), some (hh_I x2), some (hh_I x3), some (hh_I x4), some (hh_I x5), some (hh_I x6), some (hh_I x7), some (hh_I x8), some (hh_I x9), some (hh_I x10), some (hh_I x11), none] [hh_I s0] σ Q := by
  unfold B_X10_chargeMatter_108 at h
  refine hh_istore dX10_chargeMatter_108 (by decide) rfl ?_
  refine hh_iload dX10_chargeMatter_110 rfl ?_
  refine hh_if_eq (tgt := 189) dX10_chargeMatter_112 (by decide) (fun c => ?_) (fun c => ?_)
  · replace h := h.1 c
    exact hh_forget [true, true, true, true, true, true, true, true, true, true, true, true, false] (w_X10_chargeMatter_189 hk47 _ _ _ _ _ _ _ _ _ _ _ _ h)
  · replace h := h.2 c
    refine hh_iload dX10_chargeMatter_115 rfl ?_
    refine hh_if_ne (tgt := 189) dX10_chargeMatter_117 (by decide) (fun c => ?_) (fun c => ?_)
    · replace h := h.1 c
      exact hh_forget [true, true, true, true, true, true, true, true, true, true, true, true, false] (w_X10_chargeMatter_189 hk47 _ _ _ _ _ _ _ _ _ _ _ _ h)
    · replace h := h.2 c
      obtain ⟨⟨q1, q2⟩, h⟩ := h
      refine hh_aload_n dX10_chargeMatter_120 rfl ?_
      refine hh_getR dX10_chargeMatter_121 kf_X10_24 rf_112_0 ?_
      refine hh_getR dX10_chargeMatter_124 kf_X10_32 rf_1_3 ?_
      refine hh_getR dX10_chargeMatter_127 kf_X10_96 rf_24_3 ?_
      refine hh_iload dX10_chargeMatter_130 rfl ?_
      refine hh_iald dX10_chargeMatter_132 ra_27 q1 rfl ?_
      refine hh_bipush dX10_chargeMatter_133 (by decide) ?_
      refine hh_idiv dX10_chargeMatter_135 q2 (by decide) ?_
      refine hh_iload dX10_chargeMatter_136 rfl ?_
      refine hh_icmp_eq (tgt := 173) dX10_chargeMatter_138 (by decide) (fun c => ?_) (fun c => ?_)
      · replace h := h.1 c
        exact hh_forget [true, true, true, true, true, true, true, true, true, true, true, true, false] (w_X10_chargeMatter_173 hk47 _ _ _ _ _ _ _ _ _ _ _ _ h)
      · replace h := h.2 c
        obtain ⟨⟨q1, q2, q3⟩, h⟩ := h
        refine hh_aload_n dX10_chargeMatter_141 rfl ?_
        refine hh_getR dX10_chargeMatter_142 kf_X10_24 rf_112_0 ?_
        refine hh_getR dX10_chargeMatter_145 kf_X10_32 rf_1_3 ?_
        refine hh_getR dX10_chargeMatter_148 kf_X10_96 rf_24_3 ?_
        refine hh_iload dX10_chargeMatter_151 rfl ?_
        refine hh_iald dX10_chargeMatter_153 ra_27 q1 rfl ?_
        refine hh_bipush dX10_chargeMatter_154 (by decide) ?_
        refine hh_idiv dX10_chargeMatter_156 q2 (by decide) ?_
        refine hh_istore dX10_chargeMatter_157 (by decide) rfl ?_
        refine hh_aload_n dX10_chargeMatter_159 rfl ?_
        refine hh_getR dX10_chargeMatter_160 kf_X10_24 rf_112_0 ?_
        refine hh_getR dX10_chargeMatter_163 kf_X10_86 rf_1_2 ?_
        refine hh_getR dX10_chargeMatter_166 kf_X10_148 rf_13_3 ?_
        refine hh_iload_n dX10_chargeMatter_169 rfl ?_
        refine hh_iald dX10_chargeMatter_170 ra_16 q3 rfl ?_
        refine hh_istore dX10_chargeMatter_171 (by decide) rfl ?_
        exact hh_forget [true, true, true, true, true, true, true, true, true, true, true, true, false] (w_X10_chargeMatter_173 hk47 _ _ _ _ _ _ _ _ _ _ _ _ h)
set_option maxRecDepth 20000 in
theorem w_X10_chargeMatter_107 {d : Nat} {Q : Int → hh_S → Prop} {k47 : Int → Int → Int → Int → Int → Int → Int → Int → Int → hh_S → Prop} (hk47 : ∀ (x1 x2 x3 x4 x5 x6 x7 x8 x9 : Int) (σ : hh_S), k47 x1 x2 x3 x4 x5 x6 x7 x8 x9 σ → hh_J (d + 1) hm_X10_chargeMatter 47 [some (hh_R 112), some (hh_I x1), some (hh_I x2), some (hh_I x3), some (hh_I x4), some (hh_I x5), some (hh_I x6), some (hh_I x7), some (hh_I x8), some (hh_I x9), none, none, none] [] σ Q) (x1 x2 x3 x4 x5 x6 x7 x8 x9 x10 x11 : Int) (σ : hh_S) (h : B_X10_chargeMatter_107 d Q k47 x1 x2 x3 x4 x5 x6 x7 x8 x9 x10 x11 σ) : hh_J (d + 1) hm_X10_chargeMatter 107 [some (hh_R 112), some (hh_I x1), some (hh_I x2), some (hh_I x3), some (hh_I x4), some (hh_I x5), some (hh_I x6), some (hh_I x7), some (hh_I x8), some (hh_I x9), some (hh_I x10), some (hh_I x11), none] [] σ Q := by
  unfold B_X10_chargeMatter_107 at h
  refine hh_iconst dX10_chargeMatter_107 (by decide) ?_
  exact hh_forget [true, true, true, true, true, true, true, true, true, true, true, true, false] (w_X10_chargeMatter_108 hk47 _ _ _ _ _ _ _ _ _ _ _ _ _ h)
set_option maxRecDepth 20000 in
theorem w_X10_chargeMatter_79 {d : Nat} {Q : Int → hh_S → Prop} {k47 : Int → Int → Int → Int → Int → Int → Int → Int → Int → hh_S → Prop} (hk47 : ∀ (x1 x2 x3 x4 x5 x6 x7 x8 x9 : Int) (σ : hh_S), k47 x1 x2 x3 x4 x5 x6 x7 x8 x9 σ → hh_J (d + 1) hm_X10_chargeMatter 47 [some (hh_R 112), some (hh_I x1), some (hh_I x2), some (hh_I x3), some (hh_I x4), some (hh_I x5), some (hh_I x6), some (hh_I x7), some (hh_I x8), some (hh_I x9), none, none, none] [] σ Q) (x1 x2 x3 x4 x5 x6 x7 x8 x9 x10 s0 : Int) (σ : hh_S) (h : B_X10_chargeMatter_79 d Q k47 x1 x2 x3 x4 x5 x6 x7 x8 x9 x10 s0 σ) : hh_J (d + 1) hm_X10_chargeMatter 79 [some (hh_R 112), some (hh_I x1), some (hh_I x2), some (hh_I x3), some (hh_I x4), some (hh_I x5), some (hh_I x6), some (hh_I x7), some (hh_I x8), some (hh_I x9), some (hh_I x10), none, none] [hh_I s0] σ Q := by
  unfold B_X10_chargeMatter_79 at h
  refine hh_istore dX10_chargeMatter_79 (by decide) rfl ?_
  refine hh_iload_n dX10_chargeMatter_81 rfl ?_
  refine hh_iconst dX10_chargeMatter_82 (by decide) ?_
  refine hh_icmp_ne (tgt := 107) dX10_chargeMatter_83 (by decide) (fun c => ?_) (fun c => ?_)
  · replace h := h.1 c
    exact hh_forget [true, true, true, true, true, true, true, true, true, true, true, true, false] (w_X10_chargeMatter_107 hk47 _ _ _ _ _ _ _ _ _ _ _ _ h)
  · replace h := h.2 c
    obtain ⟨q1, h⟩ := h
    refine hh_aload_n dX10_chargeMatter_86 rfl ?_
    refine hh_getR dX10_chargeMatter_87 kf_X10_24 rf_112_0 ?_
    refine hh_getR dX10_chargeMatter_90 kf_X10_32 rf_1_3 ?_
    refine hh_getR dX10_chargeMatter_93 kf_X10_118 rf_24_6 ?_
    refine hh_iload dX10_chargeMatter_96 rfl ?_
    refine hh_iald dX10_chargeMatter_98 ra_30 q1 rfl ?_
    refine hh_iconst dX10_chargeMatter_99 (by decide) ?_
    refine hh_icmp_ne (tgt := 107) dX10_chargeMatter_100 (by decide) (fun c => ?_) (fun c => ?_)
    · replace h := h.1 c
      exact hh_forget [true, true, true, true, true, true, true, true, true, true, true, true, false] (w_X10_chargeMatter_107 hk47 _ _ _ _ _ _ _ _ _ _ _ _ h)
    · replace h := h.2 c
      refine hh_iconst dX10_chargeMatter_103 (by decide) ?_
      refine hh_goto (tgt := 108) dX10_chargeMatter_104 (by decide) ?_
      exact hh_forget [true, true, true, true, true, true, true, true, true, true, true, true, false] (w_X10_chargeMatter_108 hk47 _ _ _ _ _ _ _ _ _ _ _ _ _ h)
set_option maxRecDepth 20000 in
theorem w_X10_chargeMatter_47 {d : Nat} {Q : Int → hh_S → Prop} {k47 : Int → Int → Int → Int → Int → Int → Int → Int → Int → hh_S → Prop} (hk47 : ∀ (x1 x2 x3 x4 x5 x6 x7 x8 x9 : Int) (σ : hh_S), k47 x1 x2 x3 x4 x5 x6 x7 x8 x9 σ → hh_J (d + 1) hm_X10_chargeMatter 47 [some (hh_R 112), some (hh_I x1), some (hh_I x2), some (hh_I x3), some (hh_I x4), some (hh_I x5), some (hh_I x6), some (hh_I x7), some (hh_I x8), some (hh_I x9), none, none, none] [] σ Q) (x1 x2 x3 x4 x5 x6 x7 x8 x9 : Int) (σ : hh_S) (h : B_X10_chargeMatter_47 d Q k47 x1 x2 x3 x4 x5 x6 x7 x8 x9 σ) : hh_J (d + 1) hm_X10_chargeMatter 47 [some (hh_R 112), some (hh_I x1), some (hh_I x2), some (hh_I x3), some (hh_I x4), some (hh_I x5), some (hh_I x6), some (hh_I x7), some (hh_I x8), some (hh_I x9), none, none, none] [] σ Q := by
  unfold B_X10_chargeMatter_47 at h
  refine hh_iload dX10_chargeMatter_47 rfl ?_
  refine hh_iload dX10_chargeMatter_49 rfl ?_
  refine hh_icmp_ge (tgt := 211) dX10_chargeMatter_51 (by decide) (fun c => ?_) (fun c => ?_)
  · replace h := h.1 c
    refine hh_iload dX10_chargeMatter_211 rfl ?_
    exact hh_ireturn dX10_chargeMatter_213 rfl h
  · replace h := h.2 c
    obtain ⟨q1, h⟩ := h
    refine hh_aload_n dX10_chargeMatter_54 rfl ?_
    refine hh_getR dX10_chargeMatter_55 kf_X10_15 rf_112_2 ?_
    refine hh_iload dX10_chargeMatter_58 rfl ?_
    refine hh_iald dX10_chargeMatter_60 ra_114 q1 rfl ?_
    refine hh_istore dX10_chargeMatter_61 (by decide) rfl ?_
    refine hh_iload_n dX10_chargeMatter_63 rfl ?_
    refine hh_iconst dX10_chargeMatter_64 (by decide) ?_
    refine hh_icmp_ne (tgt := 72) dX10_chargeMatter_65 (by decide) (fun c => ?_) (fun c => ?_)
    · replace h := h.1 c
      refine hh_aload_n dX10_chargeMatter_72 rfl ?_
      refine hh_iload dX10_chargeMatter_73 rfl ?_
      refine hh_iload_n dX10_chargeMatter_75 rfl ?_
      refine hh_cV2 dX10_chargeMatter_76 lk_X10_145 mo_X10_worthOf rc_112 (Nat.le_of_ble_eq_true rfl) h (fun r76 σ76 h => ?_)
      exact hh_forget [true, true, true, true, true, true, true, true, true, true, true, false, false] (w_X10_chargeMatter_79 hk47 _ _ _ _ _ _ _ _ _ _ _ _ h)
    · replace h := h.2 c
      refine hh_iconst dX10_chargeMatter_68 (by decide) ?_
      refine hh_goto (tgt := 79) dX10_chargeMatter_69 (by decide) ?_
      exact hh_forget [true, true, true, true, true, true, true, true, true, true, true, false, false] (w_X10_chargeMatter_79 hk47 _ _ _ _ _ _ _ _ _ _ _ _ h)
theorem l_X10_chargeMatter_47 {d : Nat} {Q : Int → hh_S → Prop} : ∀ (n : Nat) (x1 x2 x3 x4 x5 x6 x7 x8 x9 : Int) (σ : hh_S), hh_lp9 (B_X10_chargeMatter_47 d Q) n x1 x2 x3 x4 x5 x6 x7 x8 x9 σ → hh_J (d + 1) hm_X10_chargeMatter 47 [some (hh_R 112), some (hh_I x1), some (hh_I x2), some (hh_I x3), some (hh_I x4), some (hh_I x5), some (hh_I x6), some (hh_I x7), some (hh_I x8), some (hh_I x9), none, none, none] [] σ Q := by
  intro n
  induction n with
  | zero => intro _ _ _ _ _ _ _ _ _ _ h; exact h.elim
  | succ n ih => intro x1 x2 x3 x4 x5 x6 x7 x8 x9 σ h; exact w_X10_chargeMatter_47 ih x1 x2 x3 x4 x5 x6 x7 x8 x9 σ h
set_option maxRecDepth 20000 in
theorem w_X10_chargeMatter {d : Nat} {a1 a2 : Int} {σ : hh_S} {Q : Int → hh_S → Prop} (h : P_X10_chargeMatter d a1 a2 σ Q) : hh_J (d + 1) hm_X10_chargeMatter 0 [some (hh_R 112), some (hh_I a1), some (hh_I a2), none, none, none, none, none, none, none, none, none, none] [] σ Q := by
  unfold P_X10_chargeMatter at h
  obtain ⟨q1, h⟩ := h
  refine hh_aload_n dX10_chargeMatter_0 rfl ?_
  refine hh_getR dX10_chargeMatter_1 kf_X10_24 rf_112_0 ?_
  refine hh_getR dX10_chargeMatter_4 kf_X10_86 rf_1_2 ?_
  refine hh_getR dX10_chargeMatter_7 kf_X10_119 rf_13_1 ?_
  refine hh_iload_n dX10_chargeMatter_10 rfl ?_
  refine hh_iald dX10_chargeMatter_11 ra_14 q1 rfl ?_
  refine hh_istore_n dX10_chargeMatter_12 (by decide) rfl ?_
  refine hh_aload_n dX10_chargeMatter_13 rfl ?_
  refine hh_getR dX10_chargeMatter_14 kf_X10_24 rf_112_0 ?_
  refine hh_getR dX10_chargeMatter_17 kf_X10_86 rf_1_2 ?_
  refine hh_iload_n dX10_chargeMatter_20 rfl ?_
  refine hh_iconst dX10_chargeMatter_21 (by decide) ?_
  refine hh_cV2 dX10_chargeMatter_22 lk_X10_139 mo_X5_isUnder rc_13 (Nat.le_of_ble_eq_true rfl) h (fun r22 σ22 h => ?_)
  refine hh_istore dX10_chargeMatter_25 (by decide) rfl ?_
  refine hh_aload_n dX10_chargeMatter_27 rfl ?_
  refine hh_iload_n dX10_chargeMatter_28 rfl ?_
  refine hh_iload_n dX10_chargeMatter_29 rfl ?_
  refine hh_cV2 dX10_chargeMatter_30 lk_X10_142 mo_X10_putInOrder rc_112 (Nat.le_of_ble_eq_true rfl) h (fun r30 σ30 h => ?_)
  refine hh_istore dX10_chargeMatter_33 (by decide) rfl ?_
  refine hh_iconst dX10_chargeMatter_35 (by decide) ?_
  refine hh_istore dX10_chargeMatter_36 (by decide) rfl ?_
  refine hh_iconst dX10_chargeMatter_38 (by decide) ?_
  refine hh_istore dX10_chargeMatter_39 (by decide) rfl ?_
  refine hh_iconst dX10_chargeMatter_41 (by decide) ?_
  refine hh_istore dX10_chargeMatter_42 (by decide) rfl ?_
  refine hh_iconst dX10_chargeMatter_44 (by decide) ?_
  refine hh_istore dX10_chargeMatter_45 (by decide) rfl ?_
  obtain ⟨n, h⟩ := h
  exact hh_forget [true, true, true, true, true, true, true, true, true, true, false, false, false] (l_X10_chargeMatter_47 n _ _ _ _ _ _ _ _ _ _ h)
theorem wp_X10_chargeMatter {d : Nat} (a1 a2 : Int) {σ : hh_S} {Q : Int → hh_S → Prop} (h : hh_cs σ → hh_can a1 → hh_can a2 → P_X10_chargeMatter d a1 a2 σ Q) : hh_Sp (d + 1) hm_X10_chargeMatter [hh_R 112, hh_I a1, hh_I a2] σ Q :=
  hh_entry rfl (Nat.le_of_ble_eq_true rfl) rfl (fun hs hc => w_X10_chargeMatter (h hs (hc _ (List.mem_of_getElem? (i := 1) rfl)) (hc _ (List.mem_of_getElem? (i := 2) rfl))))
def B_X5_split_118 (d : Nat) (Q : Int → hh_S → Prop) (k118 : Int → Int → Int → hh_S → Prop) (x4 x7 x8 : Int) (σ : hh_S) : Prop :=
  (x4 ≤ x8 → Q 0 σ) ∧ (¬ x4 ≤ x8 → (3 ≤ x8 → Q 0 σ) ∧ (¬ 3 ≤ x8 → (x7 ≤ 0 → Q 0 σ) ∧ (¬ x7 ≤ 0 → ((0 ≤ x8 ∧ x8 < 3) ∧ (-2147483648 ≤ σ 127 x8 + 1 ∧ σ 127 x8 + 1 ≤ 2147483647) ∧ (-2147483648 ≤ x7 + (-1) ∧ x7 + (-1) ≤ 2147483647) ∧ (-2147483648 ≤ x8 + 1 ∧ x8 + 1 ≤ 2147483647)) ∧ (k118 x4 (x7 + (-1)) (x8 + 1) (hh_up σ 127 x8 (σ 127 x8 + 1))))))
def B_X5_split_115 (d : Nat) (Q : Int → hh_S → Prop) (x4 x7 : Int) (σ : hh_S) : Prop :=
  ∃ n, hh_lp3 (B_X5_split_118 d Q) n x4 x7 0 σ
def B_X5_split_58 (d : Nat) (Q : Int → hh_S → Prop) (k58 : Int → Int → Int → Int → Int → Int → hh_S → Prop) (x2 x4 x5 x6 x7 x8 : Int) (σ : hh_S) : Prop :=
  (x4 ≤ x8 → B_X5_split_115 d Q x4 x7 σ) ∧ (¬ x4 ≤ x8 → (3 ≤ x8 → B_X5_split_115 d Q x4 x7 σ) ∧ (¬ 3 ≤ x8 → (x6 ≤ 0 → B_X5_split_115 d Q x4 x7 σ) ∧ (¬ x6 ≤ 0 → ((-2147483648 ≤ x5 + x8 ∧ x5 + x8 ≤ 2147483647) ∧ (0 ≤ x5 + x8 ∧ x5 + x8 < 30) ∧ (-9223372036854775808 ≤ x2 * (σ 19 (x5 + x8)) ∧ x2 * (σ 19 (x5 + x8)) ≤ 9223372036854775807) ∧ 0 ≤ x2 * (σ 19 (x5 + x8)) ∧ 0 < x6 ∧ (-2147483648 ≤ (x2 * (σ 19 (x5 + x8))) / x6 ∧ (x2 * (σ 19 (x5 + x8))) / x6 ≤ 2147483647) ∧ (0 ≤ x8 ∧ x8 < 3) ∧ (-2147483648 ≤ x7 - ((x2 * (σ 19 (x5 + x8))) / x6) ∧ x7 - ((x2 * (σ 19 (x5 + x8))) / x6) ≤ 2147483647) ∧ (-2147483648 ≤ x8 + 1 ∧ x8 + 1 ≤ 2147483647)) ∧ (k58 x2 x4 x5 x6 (x7 - ((x2 * (σ 19 (x5 + x8))) / x6)) (x8 + 1) (hh_up σ 127 x8 ((x2 * (σ 19 (x5 + x8))) / x6))))))
def B_X5_split_47 (d : Nat) (Q : Int → hh_S → Prop) (x2 x4 x5 x6 : Int) (σ : hh_S) : Prop :=
  hh_Sp d hm_J7_fill_53178 [hh_R 127, hh_I 0] σ (fun _ σ52 => ∃ n, hh_lp6 (B_X5_split_58 d Q) n x2 x4 x5 x6 x2 0 σ52)
def B_X5_split_19 (d : Nat) (Q : Int → hh_S → Prop) (k19 : Int → Int → Int → Int → Int → hh_S → Prop) (x2 x4 x5 x6 x7 : Int) (σ : hh_S) : Prop :=
  (x4 ≤ x7 → B_X5_split_47 d Q x2 x4 x5 x6 σ) ∧ (¬ x4 ≤ x7 → ((-2147483648 ≤ x5 + x7 ∧ x5 + x7 ≤ 2147483647) ∧ (0 ≤ x5 + x7 ∧ x5 + x7 < 30) ∧ (-2147483648 ≤ x6 + (σ 19 (x5 + x7)) ∧ x6 + (σ 19 (x5 + x7)) ≤ 2147483647) ∧ (-2147483648 ≤ x7 + 1 ∧ x7 + 1 ≤ 2147483647)) ∧ (k19 x2 x4 x5 (x6 + (σ 19 (x5 + x7))) (x7 + 1) σ))
def P_X5_split (d : Nat) (a1 a2 : Int) (σ : hh_S) (Q : Int → hh_S → Prop) : Prop :=
  ((0 ≤ a1 ∧ a1 < 10) ∧ (-2147483648 ≤ a1 * 3 ∧ a1 * 3 ≤ 2147483647)) ∧ (∃ n, hh_lp5 (B_X5_split_19 d Q) n a2 (σ 17 a1) (a1 * 3) 0 0 σ)
set_option maxRecDepth 20000 in
theorem w_X5_split_118 {d : Nat} {Q : Int → hh_S → Prop} {k118 : Int → Int → Int → hh_S → Prop} (hk118 : ∀ (x4 x7 x8 : Int) (σ : hh_S), k118 x4 x7 x8 σ → hh_J (d + 1) hm_X5_split 118 [none, none, none, some (hh_R 127), some (hh_I x4), none, none, some (hh_I x7), some (hh_I x8)] [] σ Q) (x4 x7 x8 : Int) (σ : hh_S) (h : B_X5_split_118 d Q k118 x4 x7 x8 σ) : hh_J (d + 1) hm_X5_split 118 [none, none, none, some (hh_R 127), some (hh_I x4), none, none, some (hh_I x7), some (hh_I x8)] [] σ Q := by
  unfold B_X5_split_118 at h
  refine hh_iload dX5_split_118 rfl ?_
  refine hh_iload dX5_split_120 rfl ?_
  refine hh_icmp_ge (tgt := 154) dX5_split_122 (by decide) (fun c => ?_) (fun c => ?_)
  · replace h := h.1 c
    exact hh_vreturn dX5_split_154 rfl h
  · replace h := h.2 c
    refine hh_iload dX5_split_125 rfl ?_
    refine hh_aload_n dX5_split_127 rfl ?_
    refine hh_alen dX5_split_128 ra_127 (by decide) ?_
    refine hh_icmp_ge (tgt := 154) dX5_split_129 (by decide) (fun c => ?_) (fun c => ?_)
    · replace h := h.1 c
      exact hh_vreturn dX5_split_154 rfl h
    · replace h := h.2 c
      refine hh_iload dX5_split_132 rfl ?_
      refine hh_if_le (tgt := 154) dX5_split_134 (by decide) (fun c => ?_) (fun c => ?_)
      · replace h := h.1 c
        exact hh_vreturn dX5_split_154 rfl h
      · replace h := h.2 c
        obtain ⟨⟨q1, q2, q3, q4⟩, h⟩ := h
        refine hh_aload_n dX5_split_137 rfl ?_
        refine hh_iload dX5_split_138 rfl ?_
        refine hh_dup2 dX5_split_140 (fun _ => rfl) (fun _ => rfl) ?_
        refine hh_iald dX5_split_141 ra_127 q1 rfl ?_
        refine hh_iconst dX5_split_142 (by decide) ?_
        refine hh_iadd dX5_split_143 q2 ?_
        refine hh_iast dX5_split_144 ra_127 q1 ?_
        refine hh_iinc dX5_split_145 (by decide) rfl rfl q3 ?_
        refine hh_iinc dX5_split_148 (by decide) rfl rfl q4 ?_
        refine hh_goto (tgt := 118) dX5_split_151 (by decide) ?_
        exact hh_forget [false, false, false, true, true, false, false, true, true] (hk118 _ _ _ _ h)
theorem l_X5_split_118 {d : Nat} {Q : Int → hh_S → Prop} : ∀ (n : Nat) (x4 x7 x8 : Int) (σ : hh_S), hh_lp3 (B_X5_split_118 d Q) n x4 x7 x8 σ → hh_J (d + 1) hm_X5_split 118 [none, none, none, some (hh_R 127), some (hh_I x4), none, none, some (hh_I x7), some (hh_I x8)] [] σ Q := by
  intro n
  induction n with
  | zero => intro _ _ _ _ h; exact h.elim
  | succ n ih => intro x4 x7 x8 σ h; exact w_X5_split_118 ih x4 x7 x8 σ h
set_option maxRecDepth 20000 in
theorem w_X5_split_115 {d : Nat} {Q : Int → hh_S → Prop} (x4 x7 : Int) (σ : hh_S) (h : B_X5_split_115 d Q x4 x7 σ) : hh_J (d + 1) hm_X5_split 115 [none, none, none, some (hh_R 127), some (hh_I x4), none, none, some (hh_I x7), none] [] σ Q := by
  unfold B_X5_split_115 at h
  refine hh_iconst dX5_split_115 (by decide) ?_
  refine hh_istore dX5_split_116 (by decide) rfl ?_
  obtain ⟨n, h⟩ := h
  exact hh_forget [false, false, false, true, true, false, false, true, true] (l_X5_split_118 n _ _ _ _ h)
set_option maxRecDepth 20000 in
theorem w_X5_split_58 {d : Nat} {Q : Int → hh_S → Prop} {k58 : Int → Int → Int → Int → Int → Int → hh_S → Prop} (hk58 : ∀ (x2 x4 x5 x6 x7 x8 : Int) (σ : hh_S), k58 x2 x4 x5 x6 x7 x8 σ → hh_J (d + 1) hm_X5_split 58 [some (hh_R 13), none, some (hh_I x2), some (hh_R 127), some (hh_I x4), some (hh_I x5), some (hh_I x6), some (hh_I x7), some (hh_I x8)] [] σ Q) (x2 x4 x5 x6 x7 x8 : Int) (σ : hh_S) (h : B_X5_split_58 d Q k58 x2 x4 x5 x6 x7 x8 σ) : hh_J (d + 1) hm_X5_split 58 [some (hh_R 13), none, some (hh_I x2), some (hh_R 127), some (hh_I x4), some (hh_I x5), some (hh_I x6), some (hh_I x7), some (hh_I x8)] [] σ Q := by
  unfold B_X5_split_58 at h
  refine hh_iload dX5_split_58 rfl ?_
  refine hh_iload dX5_split_60 rfl ?_
  refine hh_icmp_ge (tgt := 115) dX5_split_62 (by decide) (fun c => ?_) (fun c => ?_)
  · replace h := h.1 c
    exact hh_forget [false, false, false, true, true, false, false, true, false] (w_X5_split_115 _ _ _ h)
  · replace h := h.2 c
    refine hh_iload dX5_split_65 rfl ?_
    refine hh_aload_n dX5_split_67 rfl ?_
    refine hh_alen dX5_split_68 ra_127 (by decide) ?_
    refine hh_icmp_ge (tgt := 115) dX5_split_69 (by decide) (fun c => ?_) (fun c => ?_)
    · replace h := h.1 c
      exact hh_forget [false, false, false, true, true, false, false, true, false] (w_X5_split_115 _ _ _ h)
    · replace h := h.2 c
      refine hh_iload dX5_split_72 rfl ?_
      refine hh_if_le (tgt := 115) dX5_split_74 (by decide) (fun c => ?_) (fun c => ?_)
      · replace h := h.1 c
        exact hh_forget [false, false, false, true, true, false, false, true, false] (w_X5_split_115 _ _ _ h)
      · replace h := h.2 c
        obtain ⟨⟨q1, q2, q3, q4, q5, q6, q7, q8, q9⟩, h⟩ := h
        refine hh_aload_n dX5_split_77 rfl ?_
        refine hh_iload dX5_split_78 rfl ?_
        refine hh_iload_n dX5_split_80 rfl ?_
        refine hh_i2l dX5_split_81 ?_
        refine hh_aload_n dX5_split_82 rfl ?_
        refine hh_getR dX5_split_83 kf_X5_27 rf_13_6 ?_
        refine hh_iload dX5_split_86 rfl ?_
        refine hh_iload dX5_split_88 rfl ?_
        refine hh_iadd dX5_split_90 q1 ?_
        refine hh_iald dX5_split_91 ra_19 q2 rfl ?_
        refine hh_i2l dX5_split_92 ?_
        refine hh_lmul dX5_split_93 q3 ?_
        refine hh_iload dX5_split_94 rfl ?_
        refine hh_i2l dX5_split_96 ?_
        refine hh_ldiv dX5_split_97 q4 q5 ?_
        refine hh_l2i dX5_split_98 q6 ?_
        refine hh_iast dX5_split_99 ra_127 q7 ?_
        refine hh_iload dX5_split_100 rfl ?_
        refine hh_aload_n dX5_split_102 rfl ?_
        refine hh_iload dX5_split_103 rfl ?_
        refine hh_iald dX5_split_105 ra_127 q7 (hh_up_at σ 127 x8 ((x2 * (σ 19 (x5 + x8))) / x6)) ?_
        refine hh_isub dX5_split_106 q8 ?_
        refine hh_istore dX5_split_107 (by decide) rfl ?_
        refine hh_iinc dX5_split_109 (by decide) rfl rfl q9 ?_
        refine hh_goto (tgt := 58) dX5_split_112 (by decide) ?_
        exact hh_forget [true, false, true, true, true, true, true, true, true] (hk58 _ _ _ _ _ _ _ h)
theorem l_X5_split_58 {d : Nat} {Q : Int → hh_S → Prop} : ∀ (n : Nat) (x2 x4 x5 x6 x7 x8 : Int) (σ : hh_S), hh_lp6 (B_X5_split_58 d Q) n x2 x4 x5 x6 x7 x8 σ → hh_J (d + 1) hm_X5_split 58 [some (hh_R 13), none, some (hh_I x2), some (hh_R 127), some (hh_I x4), some (hh_I x5), some (hh_I x6), some (hh_I x7), some (hh_I x8)] [] σ Q := by
  intro n
  induction n with
  | zero => intro _ _ _ _ _ _ _ h; exact h.elim
  | succ n ih => intro x2 x4 x5 x6 x7 x8 σ h; exact w_X5_split_58 ih x2 x4 x5 x6 x7 x8 σ h
set_option maxRecDepth 20000 in
theorem w_X5_split_47 {d : Nat} {Q : Int → hh_S → Prop} (x2 x4 x5 x6 : Int) (σ : hh_S) (h : B_X5_split_47 d Q x2 x4 x5 x6 σ) : hh_J (d + 1) hm_X5_split 47 [some (hh_R 13), none, some (hh_I x2), some (hh_R 127), some (hh_I x4), some (hh_I x5), some (hh_I x6), none, none] [] σ Q := by
  unfold B_X5_split_47 at h
  refine hh_iload_n dX5_split_47 rfl ?_
  refine hh_istore dX5_split_48 (by decide) rfl ?_
  refine hh_aload_n dX5_split_50 rfl ?_
  refine hh_iconst dX5_split_51 (by decide) ?_
  refine hh_cS2 dX5_split_52 lk_X5_54 mo_J7_fill_53178 (Nat.le_of_ble_eq_true rfl) h (fun _ σ52 h => ?_)
  refine hh_iconst dX5_split_55 (by decide) ?_
  refine hh_istore dX5_split_56 (by decide) rfl ?_
  obtain ⟨n, h⟩ := h
  exact hh_forget [true, false, true, true, true, true, true, true, true] (l_X5_split_58 n _ _ _ _ _ _ _ h)
set_option maxRecDepth 20000 in
theorem w_X5_split_19 {d : Nat} {Q : Int → hh_S → Prop} {k19 : Int → Int → Int → Int → Int → hh_S → Prop} (hk19 : ∀ (x2 x4 x5 x6 x7 : Int) (σ : hh_S), k19 x2 x4 x5 x6 x7 σ → hh_J (d + 1) hm_X5_split 19 [some (hh_R 13), none, some (hh_I x2), some (hh_R 127), some (hh_I x4), some (hh_I x5), some (hh_I x6), some (hh_I x7), none] [] σ Q) (x2 x4 x5 x6 x7 : Int) (σ : hh_S) (h : B_X5_split_19 d Q k19 x2 x4 x5 x6 x7 σ) : hh_J (d + 1) hm_X5_split 19 [some (hh_R 13), none, some (hh_I x2), some (hh_R 127), some (hh_I x4), some (hh_I x5), some (hh_I x6), some (hh_I x7), none] [] σ Q := by
  unfold B_X5_split_19 at h
  refine hh_iload dX5_split_19 rfl ?_
  refine hh_iload dX5_split_21 rfl ?_
  refine hh_icmp_ge (tgt := 47) dX5_split_23 (by decide) (fun c => ?_) (fun c => ?_)
  · replace h := h.1 c
    exact hh_forget [true, false, true, true, true, true, true, false, false] (w_X5_split_47 _ _ _ _ _ h)
  · replace h := h.2 c
    obtain ⟨⟨q1, q2, q3, q4⟩, h⟩ := h
    refine hh_iload dX5_split_26 rfl ?_
    refine hh_aload_n dX5_split_28 rfl ?_
    refine hh_getR dX5_split_29 kf_X5_27 rf_13_6 ?_
    refine hh_iload dX5_split_32 rfl ?_
    refine hh_iload dX5_split_34 rfl ?_
    refine hh_iadd dX5_split_36 q1 ?_
    refine hh_iald dX5_split_37 ra_19 q2 rfl ?_
    refine hh_iadd dX5_split_38 q3 ?_
    refine hh_istore dX5_split_39 (by decide) rfl ?_
    refine hh_iinc dX5_split_41 (by decide) rfl rfl q4 ?_
    refine hh_goto (tgt := 19) dX5_split_44 (by decide) ?_
    exact hh_forget [true, false, true, true, true, true, true, true, false] (hk19 _ _ _ _ _ _ h)
theorem l_X5_split_19 {d : Nat} {Q : Int → hh_S → Prop} : ∀ (n : Nat) (x2 x4 x5 x6 x7 : Int) (σ : hh_S), hh_lp5 (B_X5_split_19 d Q) n x2 x4 x5 x6 x7 σ → hh_J (d + 1) hm_X5_split 19 [some (hh_R 13), none, some (hh_I x2), some (hh_R 127), some (hh_I x4), some (hh_I x5), some (hh_I x6), some (hh_I x7), none] [] σ Q := by
  intro n
  induction n with
  | zero => intro _ _ _ _ _ _ h; exact h.elim
  | succ n ih => intro x2 x4 x5 x6 x7 σ h; exact w_X5_split_19 ih x2 x4 x5 x6 x7 σ h
set_option maxRecDepth 20000 in
theorem w_X5_split {d : Nat} {a1 a2 : Int} {σ : hh_S} {Q : Int → hh_S → Prop} (h : P_X5_split d a1 a2 σ Q) : hh_J (d + 1) hm_X5_split 0 [some (hh_R 13), some (hh_I a1), some (hh_I a2), some (hh_R 127), none, none, none, none, none] [] σ Q := by
  unfold P_X5_split at h
  obtain ⟨⟨q1, q2⟩, h⟩ := h
  refine hh_aload_n dX5_split_0 rfl ?_
  refine hh_getR dX5_split_1 kf_X5_21 rf_13_4 ?_
  refine hh_iload_n dX5_split_4 rfl ?_
  refine hh_iald dX5_split_5 ra_17 q1 rfl ?_
  refine hh_istore dX5_split_6 (by decide) rfl ?_
  refine hh_iload_n dX5_split_8 rfl ?_
  refine hh_iconst dX5_split_9 (by decide) ?_
  refine hh_imul dX5_split_10 q2 ?_
  refine hh_istore dX5_split_11 (by decide) rfl ?_
  refine hh_iconst dX5_split_13 (by decide) ?_
  refine hh_istore dX5_split_14 (by decide) rfl ?_
  refine hh_iconst dX5_split_16 (by decide) ?_
  refine hh_istore dX5_split_17 (by decide) rfl ?_
  obtain ⟨n, h⟩ := h
  exact hh_forget [true, false, true, true, true, true, true, true, false] (l_X5_split_19 n _ _ _ _ _ _ h)
theorem wp_X5_split {d : Nat} (a1 a2 : Int) {σ : hh_S} {Q : Int → hh_S → Prop} (h : hh_cs σ → hh_can a1 → hh_can a2 → P_X5_split d a1 a2 σ Q) : hh_Sp (d + 1) hm_X5_split [hh_R 13, hh_I a1, hh_I a2, hh_R 127] σ Q :=
  hh_entry rfl (Nat.le_of_ble_eq_true rfl) rfl (fun hs hc => w_X5_split (h hs (hc _ (List.mem_of_getElem? (i := 1) rfl)) (hc _ (List.mem_of_getElem? (i := 2) rfl))))
def P_X0_has (d : Nat) (a1 : Int) (σ : hh_S) (Q : Int → hh_S → Prop) : Prop :=
  ((-2147483648 ≤ σ 42 0 - 1 ∧ σ 42 0 - 1 ≤ 2147483647)) ∧ (hh_Sp d hm_X11_within [hh_I a1, hh_I 0, hh_I (σ 42 0 - 1)] σ (fun r8 σ8 => ((r8 = 0 ∨ r8 = 1)) ∧ (Q r8 σ8)))
set_option maxRecDepth 20000 in
theorem w_X0_has {d : Nat} {a1 : Int} {σ : hh_S} {Q : Int → hh_S → Prop} (h : P_X0_has d a1 σ Q) : hh_J (d + 1) hm_X0_has 0 [some (hh_R 42), some (hh_I a1)] [] σ Q := by
  unfold P_X0_has at h
  obtain ⟨q1, h⟩ := h
  refine hh_iload_n dX0_has_0 rfl ?_
  refine hh_iconst dX0_has_1 (by decide) ?_
  refine hh_aload_n dX0_has_2 rfl ?_
  refine hh_getI dX0_has_3 kf_X0_33 rf_42_0 rfl ?_
  refine hh_iconst dX0_has_6 (by decide) ?_
  refine hh_isub dX0_has_7 q1 ?_
  refine hh_cN3 dX0_has_8 lk_X0_37 mo_X11_within (Nat.le_of_ble_eq_true rfl) h (fun r8 σ8 h => ?_)
  obtain ⟨q1, h⟩ := h
  exact hh_zreturn dX0_has_11 rfl q1 h
theorem wp_X0_has {d : Nat} (a1 : Int) {σ : hh_S} {Q : Int → hh_S → Prop} (h : hh_cs σ → hh_can a1 → P_X0_has d a1 σ Q) : hh_Sp (d + 1) hm_X0_has [hh_R 42, hh_I a1] σ Q :=
  hh_entry rfl (Nat.le_of_ble_eq_true rfl) rfl (fun hs hc => w_X0_has (h hs (hc _ (List.mem_of_getElem? (i := 1) rfl))))
def B_X0_owedByAll_4 (d : Nat) (Q : Int → hh_S → Prop) (k4 : Int → Int → Int → hh_S → Prop) (x1 x2 x3 : Int) (σ : hh_S) : Prop :=
  (3 ≤ x3 → Q x2 σ) ∧ (¬ 3 ≤ x3 → ((-2147483648 ≤ x1 * 3 ∧ x1 * 3 ≤ 2147483647) ∧ (-2147483648 ≤ x1 * 3 + x3 ∧ x1 * 3 + x3 ≤ 2147483647) ∧ (0 ≤ x1 * 3 + x3 ∧ x1 * 3 + x3 < 48) ∧ (-2147483648 ≤ x2 + (σ 49 (x1 * 3 + x3)) ∧ x2 + (σ 49 (x1 * 3 + x3)) ≤ 2147483647) ∧ (-2147483648 ≤ x3 + 1 ∧ x3 + 1 ≤ 2147483647)) ∧ (k4 x1 (x2 + (σ 49 (x1 * 3 + x3))) (x3 + 1) σ))
def P_X0_owedByAll (d : Nat) (a1 : Int) (σ : hh_S) (Q : Int → hh_S → Prop) : Prop :=
  ∃ n, hh_lp3 (B_X0_owedByAll_4 d Q) n a1 0 0 σ
set_option maxRecDepth 20000 in
theorem w_X0_owedByAll_4 {d : Nat} {Q : Int → hh_S → Prop} {k4 : Int → Int → Int → hh_S → Prop} (hk4 : ∀ (x1 x2 x3 : Int) (σ : hh_S), k4 x1 x2 x3 σ → hh_J (d + 1) hm_X0_owedByAll 4 [some (hh_R 42), some (hh_I x1), some (hh_I x2), some (hh_I x3)] [] σ Q) (x1 x2 x3 : Int) (σ : hh_S) (h : B_X0_owedByAll_4 d Q k4 x1 x2 x3 σ) : hh_J (d + 1) hm_X0_owedByAll 4 [some (hh_R 42), some (hh_I x1), some (hh_I x2), some (hh_I x3)] [] σ Q := by
  unfold B_X0_owedByAll_4 at h
  refine hh_iload_n dX0_owedByAll_4 rfl ?_
  refine hh_iconst dX0_owedByAll_5 (by decide) ?_
  refine hh_icmp_ge (tgt := 28) dX0_owedByAll_6 (by decide) (fun c => ?_) (fun c => ?_)
  · replace h := h.1 c
    refine hh_iload_n dX0_owedByAll_28 rfl ?_
    exact hh_ireturn dX0_owedByAll_29 rfl h
  · replace h := h.2 c
    obtain ⟨⟨q1, q2, q3, q4, q5⟩, h⟩ := h
    refine hh_iload_n dX0_owedByAll_9 rfl ?_
    refine hh_aload_n dX0_owedByAll_10 rfl ?_
    refine hh_getR dX0_owedByAll_11 kf_X0_30 rf_42_7 ?_
    refine hh_iload_n dX0_owedByAll_14 rfl ?_
    refine hh_iconst dX0_owedByAll_15 (by decide) ?_
    refine hh_imul dX0_owedByAll_16 q1 ?_
    refine hh_iload_n dX0_owedByAll_17 rfl ?_
    refine hh_iadd dX0_owedByAll_18 q2 ?_
    refine hh_iald dX0_owedByAll_19 ra_49 q3 rfl ?_
    refine hh_iadd dX0_owedByAll_20 q4 ?_
    refine hh_istore_n dX0_owedByAll_21 (by decide) rfl ?_
    refine hh_iinc dX0_owedByAll_22 (by decide) rfl rfl q5 ?_
    refine hh_goto (tgt := 4) dX0_owedByAll_25 (by decide) ?_
    exact hh_forget [true, true, true, true] (hk4 _ _ _ _ h)
theorem l_X0_owedByAll_4 {d : Nat} {Q : Int → hh_S → Prop} : ∀ (n : Nat) (x1 x2 x3 : Int) (σ : hh_S), hh_lp3 (B_X0_owedByAll_4 d Q) n x1 x2 x3 σ → hh_J (d + 1) hm_X0_owedByAll 4 [some (hh_R 42), some (hh_I x1), some (hh_I x2), some (hh_I x3)] [] σ Q := by
  intro n
  induction n with
  | zero => intro _ _ _ _ h; exact h.elim
  | succ n ih => intro x1 x2 x3 σ h; exact w_X0_owedByAll_4 ih x1 x2 x3 σ h
set_option maxRecDepth 20000 in
theorem w_X0_owedByAll {d : Nat} {a1 : Int} {σ : hh_S} {Q : Int → hh_S → Prop} (h : P_X0_owedByAll d a1 σ Q) : hh_J (d + 1) hm_X0_owedByAll 0 [some (hh_R 42), some (hh_I a1), none, none] [] σ Q := by
  unfold P_X0_owedByAll at h
  refine hh_iconst dX0_owedByAll_0 (by decide) ?_
  refine hh_istore_n dX0_owedByAll_1 (by decide) rfl ?_
  refine hh_iconst dX0_owedByAll_2 (by decide) ?_
  refine hh_istore_n dX0_owedByAll_3 (by decide) rfl ?_
  obtain ⟨n, h⟩ := h
  exact hh_forget [true, true, true, true] (l_X0_owedByAll_4 n _ _ _ _ h)
theorem wp_X0_owedByAll {d : Nat} (a1 : Int) {σ : hh_S} {Q : Int → hh_S → Prop} (h : hh_cs σ → hh_can a1 → P_X0_owedByAll d a1 σ Q) : hh_Sp (d + 1) hm_X0_owedByAll [hh_R 42, hh_I a1] σ Q :=
  hh_entry rfl (Nat.le_of_ble_eq_true rfl) rfl (fun hs hc => w_X0_owedByAll (h hs (hc _ (List.mem_of_getElem? (i := 1) rfl))))
def B_X5_payerPlace_2 (d : Nat) (Q : Int → hh_S → Prop) (k2 : Int → Int → Int → hh_S → Prop) (x1 x2 x3 : Int) (σ : hh_S) : Prop :=
  ((0 ≤ x1 ∧ x1 < 10)) ∧ ((σ 17 x1 ≤ x3 → Q (-1) σ) ∧ (¬ σ 17 x1 ≤ x3 → ((-2147483648 ≤ x1 * 3 ∧ x1 * 3 ≤ 2147483647) ∧ (-2147483648 ≤ x1 * 3 + x3 ∧ x1 * 3 + x3 ≤ 2147483647) ∧ (0 ≤ x1 * 3 + x3 ∧ x1 * 3 + x3 < 30)) ∧ ((¬ σ 18 (x1 * 3 + x3) = x2 → ((-2147483648 ≤ x3 + 1 ∧ x3 + 1 ≤ 2147483647)) ∧ (k2 x1 x2 (x3 + 1) σ)) ∧ (σ 18 (x1 * 3 + x3) = x2 → Q x3 σ))))
def P_X5_payerPlace (d : Nat) (a1 a2 : Int) (σ : hh_S) (Q : Int → hh_S → Prop) : Prop :=
  ∃ n, hh_lp3 (B_X5_payerPlace_2 d Q) n a1 a2 0 σ
set_option maxRecDepth 20000 in
theorem w_X5_payerPlace_2 {d : Nat} {Q : Int → hh_S → Prop} {k2 : Int → Int → Int → hh_S → Prop} (hk2 : ∀ (x1 x2 x3 : Int) (σ : hh_S), k2 x1 x2 x3 σ → hh_J (d + 1) hm_X5_payerPlace 2 [some (hh_R 13), some (hh_I x1), some (hh_I x2), some (hh_I x3)] [] σ Q) (x1 x2 x3 : Int) (σ : hh_S) (h : B_X5_payerPlace_2 d Q k2 x1 x2 x3 σ) : hh_J (d + 1) hm_X5_payerPlace 2 [some (hh_R 13), some (hh_I x1), some (hh_I x2), some (hh_I x3)] [] σ Q := by
  unfold B_X5_payerPlace_2 at h
  obtain ⟨q1, h⟩ := h
  refine hh_iload_n dX5_payerPlace_2 rfl ?_
  refine hh_aload_n dX5_payerPlace_3 rfl ?_
  refine hh_getR dX5_payerPlace_4 kf_X5_21 rf_13_4 ?_
  refine hh_iload_n dX5_payerPlace_7 rfl ?_
  refine hh_iald dX5_payerPlace_8 ra_17 q1 rfl ?_
  refine hh_icmp_ge (tgt := 34) dX5_payerPlace_9 (by decide) (fun c => ?_) (fun c => ?_)
  · replace h := h.1 c
    refine hh_iconst dX5_payerPlace_34 (by decide) ?_
    exact hh_ireturn dX5_payerPlace_35 rfl h
  · replace h := h.2 c
    obtain ⟨⟨q1, q2, q3⟩, h⟩ := h
    refine hh_aload_n dX5_payerPlace_12 rfl ?_
    refine hh_getR dX5_payerPlace_13 kf_X5_24 rf_13_5 ?_
    refine hh_iload_n dX5_payerPlace_16 rfl ?_
    refine hh_iconst dX5_payerPlace_17 (by decide) ?_
    refine hh_imul dX5_payerPlace_18 q1 ?_
    refine hh_iload_n dX5_payerPlace_19 rfl ?_
    refine hh_iadd dX5_payerPlace_20 q2 ?_
    refine hh_iald dX5_payerPlace_21 ra_18 q3 rfl ?_
    refine hh_iload_n dX5_payerPlace_22 rfl ?_
    refine hh_icmp_ne (tgt := 28) dX5_payerPlace_23 (by decide) (fun c => ?_) (fun c => ?_)
    · replace h := h.1 c
      obtain ⟨q1, h⟩ := h
      refine hh_iinc dX5_payerPlace_28 (by decide) rfl rfl q1 ?_
      refine hh_goto (tgt := 2) dX5_payerPlace_31 (by decide) ?_
      exact hh_forget [true, true, true, true] (hk2 _ _ _ _ h)
    · replace h := h.2 c
      refine hh_iload_n dX5_payerPlace_26 rfl ?_
      exact hh_ireturn dX5_payerPlace_27 rfl h
theorem l_X5_payerPlace_2 {d : Nat} {Q : Int → hh_S → Prop} : ∀ (n : Nat) (x1 x2 x3 : Int) (σ : hh_S), hh_lp3 (B_X5_payerPlace_2 d Q) n x1 x2 x3 σ → hh_J (d + 1) hm_X5_payerPlace 2 [some (hh_R 13), some (hh_I x1), some (hh_I x2), some (hh_I x3)] [] σ Q := by
  intro n
  induction n with
  | zero => intro _ _ _ _ h; exact h.elim
  | succ n ih => intro x1 x2 x3 σ h; exact w_X5_payerPlace_2 ih x1 x2 x3 σ h
set_option maxRecDepth 20000 in
theorem w_X5_payerPlace {d : Nat} {a1 a2 : Int} {σ : hh_S} {Q : Int → hh_S → Prop} (h : P_X5_payerPlace d a1 a2 σ Q) : hh_J (d + 1) hm_X5_payerPlace 0 [some (hh_R 13), some (hh_I a1), some (hh_I a2), none] [] σ Q := by
  unfold P_X5_payerPlace at h
  refine hh_iconst dX5_payerPlace_0 (by decide) ?_
  refine hh_istore_n dX5_payerPlace_1 (by decide) rfl ?_
  obtain ⟨n, h⟩ := h
  exact hh_forget [true, true, true, true] (l_X5_payerPlace_2 n _ _ _ _ h)
theorem wp_X5_payerPlace {d : Nat} (a1 a2 : Int) {σ : hh_S} {Q : Int → hh_S → Prop} (h : hh_cs σ → hh_can a1 → hh_can a2 → P_X5_payerPlace d a1 a2 σ Q) : hh_Sp (d + 1) hm_X5_payerPlace [hh_R 13, hh_I a1, hh_I a2] σ Q :=
  hh_entry rfl (Nat.le_of_ble_eq_true rfl) rfl (fun hs hc => w_X5_payerPlace (h hs (hc _ (List.mem_of_getElem? (i := 1) rfl)) (hc _ (List.mem_of_getElem? (i := 2) rfl))))
def P_X10_isLike (d : Nat) (a1 a2 : Int) (σ : hh_S) (Q : Int → hh_S → Prop) : Prop :=
  ((0 ≤ a2 ∧ a2 < 90) ∧ (0 ≤ σ 25 a2 ∧ σ 25 a2 < 8) ∧ (0 ≤ a1 ∧ a1 < 90)) ∧ ((σ 33 a1 = (-1000000005) → Q 0 σ) ∧ (¬ σ 33 a1 = (-1000000005) → ((0 ≤ a1 ∧ a1 < 90) ∧ (0 ≤ a2 ∧ a2 < 90)) ∧ ((σ 33 a1 = σ 33 a2 → Q 0 σ) ∧ (¬ σ 33 a1 = σ 33 a2 → ((0 ≤ a1 ∧ a1 < 90) ∧ (0 ≤ a2 ∧ a2 < 90)) ∧ ((¬ σ 30 a1 = σ 30 a2 → Q 0 σ) ∧ (σ 30 a1 = σ 30 a2 → ((0 ≤ a1 ∧ a1 < 90) ∧ (0 ≤ σ 25 a1 ∧ σ 25 a1 < 8)) ∧ ((¬ σ 3 (σ 25 a1) = σ 3 (σ 25 a2) → Q 0 σ) ∧ (σ 3 (σ 25 a1) = σ 3 (σ 25 a2) → ((0 ≤ a1 ∧ a1 < 90)) ∧ ((¬ σ 35 a1 = (-1000000005) → Q 0 σ) ∧ (σ 35 a1 = (-1000000005) → Q 1 σ))))))))))
set_option maxRecDepth 20000 in
theorem w_X10_isLike {d : Nat} {a1 a2 : Int} {σ : hh_S} {Q : Int → hh_S → Prop} (h : P_X10_isLike d a1 a2 σ Q) : hh_J (d + 1) hm_X10_isLike 0 [some (hh_R 112), some (hh_I a1), some (hh_I a2), none, none] [] σ Q := by
  unfold P_X10_isLike at h
  obtain ⟨⟨q1, q2, q3⟩, h⟩ := h
  refine hh_aload_n dX10_isLike_0 rfl ?_
  refine hh_getR dX10_isLike_1 kf_X10_24 rf_112_0 ?_
  refine hh_getR dX10_isLike_4 kf_X10_32 rf_1_3 ?_
  refine hh_astore_n dX10_isLike_7 (by decide) rfl ?_
  refine hh_aload_n dX10_isLike_8 rfl ?_
  refine hh_getR dX10_isLike_9 kf_X10_24 rf_112_0 ?_
  refine hh_getR dX10_isLike_12 kf_X10_65 rf_1_0 ?_
  refine hh_getR dX10_isLike_15 kf_X10_115 rf_2_1 ?_
  refine hh_aload_n dX10_isLike_18 rfl ?_
  refine hh_getR dX10_isLike_19 kf_X10_74 rf_24_1 ?_
  refine hh_iload_n dX10_isLike_22 rfl ?_
  refine hh_iald dX10_isLike_23 ra_25 q1 rfl ?_
  refine hh_iald dX10_isLike_24 ra_3 q2 rfl ?_
  refine hh_istore dX10_isLike_25 (by decide) rfl ?_
  refine hh_aload_n dX10_isLike_27 rfl ?_
  refine hh_getR dX10_isLike_28 kf_X10_158 rf_24_9 ?_
  refine hh_iload_n dX10_isLike_31 rfl ?_
  refine hh_iald dX10_isLike_32 ra_33 q3 rfl ?_
  refine hh_ldc (n := -1000000005) dX10_isLike_33 kc_X10_157 (by decide) ?_
  refine hh_icmp_eq (tgt := 105) dX10_isLike_35 (by decide) (fun c => ?_) (fun c => ?_)
  · replace h := h.1 c
    refine hh_iconst dX10_isLike_105 (by decide) ?_
    exact hh_zreturn dX10_isLike_106 rfl (by decide) h
  · replace h := h.2 c
    obtain ⟨⟨q1, q2⟩, h⟩ := h
    refine hh_aload_n dX10_isLike_38 rfl ?_
    refine hh_getR dX10_isLike_39 kf_X10_158 rf_24_9 ?_
    refine hh_iload_n dX10_isLike_42 rfl ?_
    refine hh_iald dX10_isLike_43 ra_33 q1 rfl ?_
    refine hh_aload_n dX10_isLike_44 rfl ?_
    refine hh_getR dX10_isLike_45 kf_X10_158 rf_24_9 ?_
    refine hh_iload_n dX10_isLike_48 rfl ?_
    refine hh_iald dX10_isLike_49 ra_33 q2 rfl ?_
    refine hh_icmp_eq (tgt := 105) dX10_isLike_50 (by decide) (fun c => ?_) (fun c => ?_)
    · replace h := h.1 c
      refine hh_iconst dX10_isLike_105 (by decide) ?_
      exact hh_zreturn dX10_isLike_106 rfl (by decide) h
    · replace h := h.2 c
      obtain ⟨⟨q1, q2⟩, h⟩ := h
      refine hh_aload_n dX10_isLike_53 rfl ?_
      refine hh_getR dX10_isLike_54 kf_X10_118 rf_24_6 ?_
      refine hh_iload_n dX10_isLike_57 rfl ?_
      refine hh_iald dX10_isLike_58 ra_30 q1 rfl ?_
      refine hh_aload_n dX10_isLike_59 rfl ?_
      refine hh_getR dX10_isLike_60 kf_X10_118 rf_24_6 ?_
      refine hh_iload_n dX10_isLike_63 rfl ?_
      refine hh_iald dX10_isLike_64 ra_30 q2 rfl ?_
      refine hh_icmp_ne (tgt := 105) dX10_isLike_65 (by decide) (fun c => ?_) (fun c => ?_)
      · replace h := h.1 c
        refine hh_iconst dX10_isLike_105 (by decide) ?_
        exact hh_zreturn dX10_isLike_106 rfl (by decide) h
      · replace h := h.2 c
        obtain ⟨⟨q1, q2⟩, h⟩ := h
        refine hh_aload_n dX10_isLike_68 rfl ?_
        refine hh_getR dX10_isLike_69 kf_X10_24 rf_112_0 ?_
        refine hh_getR dX10_isLike_72 kf_X10_65 rf_1_0 ?_
        refine hh_getR dX10_isLike_75 kf_X10_115 rf_2_1 ?_
        refine hh_aload_n dX10_isLike_78 rfl ?_
        refine hh_getR dX10_isLike_79 kf_X10_74 rf_24_1 ?_
        refine hh_iload_n dX10_isLike_82 rfl ?_
        refine hh_iald dX10_isLike_83 ra_25 q1 rfl ?_
        refine hh_iald dX10_isLike_84 ra_3 q2 rfl ?_
        refine hh_iload dX10_isLike_85 rfl ?_
        refine hh_icmp_ne (tgt := 105) dX10_isLike_87 (by decide) (fun c => ?_) (fun c => ?_)
        · replace h := h.1 c
          refine hh_iconst dX10_isLike_105 (by decide) ?_
          exact hh_zreturn dX10_isLike_106 rfl (by decide) h
        · replace h := h.2 c
          obtain ⟨q1, h⟩ := h
          refine hh_aload_n dX10_isLike_90 rfl ?_
          refine hh_getR dX10_isLike_91 kf_X10_161 rf_24_11 ?_
          refine hh_iload_n dX10_isLike_94 rfl ?_
          refine hh_iald dX10_isLike_95 ra_35 q1 rfl ?_
          refine hh_ldc (n := -1000000005) dX10_isLike_96 kc_X10_157 (by decide) ?_
          refine hh_icmp_ne (tgt := 105) dX10_isLike_98 (by decide) (fun c => ?_) (fun c => ?_)
          · replace h := h.1 c
            refine hh_iconst dX10_isLike_105 (by decide) ?_
            exact hh_zreturn dX10_isLike_106 rfl (by decide) h
          · replace h := h.2 c
            refine hh_iconst dX10_isLike_101 (by decide) ?_
            refine hh_goto (tgt := 106) dX10_isLike_102 (by decide) ?_
            exact hh_zreturn dX10_isLike_106 rfl (by decide) h
theorem wp_X10_isLike {d : Nat} (a1 a2 : Int) {σ : hh_S} {Q : Int → hh_S → Prop} (h : hh_cs σ → hh_can a1 → hh_can a2 → P_X10_isLike d a1 a2 σ Q) : hh_Sp (d + 1) hm_X10_isLike [hh_R 112, hh_I a1, hh_I a2] σ Q :=
  hh_entry rfl (Nat.le_of_ble_eq_true rfl) rfl (fun hs hc => w_X10_isLike (h hs (hc _ (List.mem_of_getElem? (i := 1) rfl)) (hc _ (List.mem_of_getElem? (i := 2) rfl))))
def B_X10_middleFor_112 (d : Nat) (Q : Int → hh_S → Prop) (x2 : Int) (σ : hh_S) : Prop :=
  (¬ x2 = 0 → ((-2147483648 ≤ x2 - 1 ∧ x2 - 1 ≤ 2147483647) ∧ 0 ≤ x2 - 1 ∧ (0 ≤ (x2 - 1) / 2 ∧ (x2 - 1) / 2 < 90)) ∧ (Q (σ 115 ((x2 - 1) / 2)) σ)) ∧ (x2 = 0 → Q (-1000000005) σ)
def B_X10_middleFor_106 (d : Nat) (Q : Int → hh_S → Prop) (k4 : Int → Int → Int → hh_S → Prop) (x1 x2 x3 : Int) (σ : hh_S) : Prop :=
  ((-2147483648 ≤ x3 + 1 ∧ x3 + 1 ≤ 2147483647)) ∧ (k4 x1 x2 (x3 + 1) σ)
def B_X10_middleFor_94 (d : Nat) (Q : Int → hh_S → Prop) (k4 : Int → Int → Int → hh_S → Prop) (x1 x2 x3 x4 x5 : Int) (σ : hh_S) : Prop :=
  ((0 ≤ x5 ∧ x5 < 90) ∧ (-2147483648 ≤ x2 + 1 ∧ x2 + 1 ≤ 2147483647)) ∧ (B_X10_middleFor_106 d Q k4 x1 (x2 + 1) x3 (hh_up σ 115 x5 x4))
def B_X10_middleFor_53 (d : Nat) (Q : Int → hh_S → Prop) (k4 : Int → Int → Int → hh_S → Prop) (k53 : Int → Int → Int → Int → Int → hh_S → Prop) (x1 x2 x3 x4 x5 : Int) (σ : hh_S) : Prop :=
  (x5 ≤ 0 → B_X10_middleFor_94 d Q k4 x1 x2 x3 x4 x5 σ) ∧ (¬ x5 ≤ 0 → ((-2147483648 ≤ x5 - 1 ∧ x5 - 1 ≤ 2147483647) ∧ (0 ≤ x5 - 1 ∧ x5 - 1 < 90)) ∧ ((σ 115 (x5 - 1) ≤ x4 → B_X10_middleFor_94 d Q k4 x1 x2 x3 x4 x5 σ) ∧ (¬ σ 115 (x5 - 1) ≤ x4 → ((-2147483648 ≤ x5 - 1 ∧ x5 - 1 ≤ 2147483647) ∧ (0 ≤ x5 - 1 ∧ x5 - 1 < 90) ∧ (0 ≤ x5 ∧ x5 < 90) ∧ (-2147483648 ≤ x5 + (-1) ∧ x5 + (-1) ≤ 2147483647)) ∧ (k53 x1 x2 x3 x4 (x5 + (-1)) (hh_up σ 115 x5 (σ 115 (x5 - 1)))))))
def B_X10_middleFor_43 (d : Nat) (Q : Int → hh_S → Prop) (k4 : Int → Int → Int → hh_S → Prop) (x1 x2 x3 s0 : Int) (σ : hh_S) : Prop :=
  (s0 ≤ 0 → B_X10_middleFor_106 d Q k4 x1 x2 x3 σ) ∧ (¬ s0 ≤ 0 → ∃ n, hh_lp5 (B_X10_middleFor_53 d Q k4) n x1 x2 x3 s0 x2 σ)
def B_X10_middleFor_4 (d : Nat) (Q : Int → hh_S → Prop) (k4 : Int → Int → Int → hh_S → Prop) (x1 x2 x3 : Int) (σ : hh_S) : Prop :=
  (σ 24 0 ≤ x3 → B_X10_middleFor_112 d Q x2 σ) ∧ (¬ σ 24 0 ≤ x3 → hh_Sp d hm_X10_isLike [hh_R 112, hh_I x3, hh_I x1] σ (fun r21 σ21 => (r21 = 0 → B_X10_middleFor_43 d Q k4 x1 x2 x3 0 σ21) ∧ (¬ r21 = 0 → hh_Sp d hm_X10_countedOf [hh_R 112, hh_I x3, hh_I (σ21 1 8)] σ21 (fun r36 σ36 => B_X10_middleFor_43 d Q k4 x1 x2 x3 r36 σ36))))
def P_X10_middleFor (d : Nat) (a1 : Int) (σ : hh_S) (Q : Int → hh_S → Prop) : Prop :=
  ∃ n, hh_lp3 (B_X10_middleFor_4 d Q) n a1 0 0 σ
set_option maxRecDepth 20000 in
theorem w_X10_middleFor_112 {d : Nat} {Q : Int → hh_S → Prop} (x2 : Int) (σ : hh_S) (h : B_X10_middleFor_112 d Q x2 σ) : hh_J (d + 1) hm_X10_middleFor 112 [some (hh_R 112), none, some (hh_I x2), none, none, none] [] σ Q := by
  unfold B_X10_middleFor_112 at h
  refine hh_iload_n dX10_middleFor_112 rfl ?_
  refine hh_if_ne (tgt := 121) dX10_middleFor_113 (by decide) (fun c => ?_) (fun c => ?_)
  · replace h := h.1 c
    obtain ⟨⟨q1, q2, q3⟩, h⟩ := h
    refine hh_aload_n dX10_middleFor_121 rfl ?_
    refine hh_getR dX10_middleFor_122 kf_X10_18 rf_112_3 ?_
    refine hh_iload_n dX10_middleFor_125 rfl ?_
    refine hh_iconst dX10_middleFor_126 (by decide) ?_
    refine hh_isub dX10_middleFor_127 q1 ?_
    refine hh_iconst dX10_middleFor_128 (by decide) ?_
    refine hh_idiv dX10_middleFor_129 q2 (by decide) ?_
    refine hh_iald dX10_middleFor_130 ra_115 q3 rfl ?_
    exact hh_ireturn dX10_middleFor_131 rfl h
  · replace h := h.2 c
    refine hh_ldc (n := -1000000005) dX10_middleFor_116 kc_X10_157 (by decide) ?_
    refine hh_goto (tgt := 131) dX10_middleFor_118 (by decide) ?_
    exact hh_ireturn dX10_middleFor_131 rfl h
set_option maxRecDepth 20000 in
theorem w_X10_middleFor_106 {d : Nat} {Q : Int → hh_S → Prop} {k4 : Int → Int → Int → hh_S → Prop} (hk4 : ∀ (x1 x2 x3 : Int) (σ : hh_S), k4 x1 x2 x3 σ → hh_J (d + 1) hm_X10_middleFor 4 [some (hh_R 112), some (hh_I x1), some (hh_I x2), some (hh_I x3), none, none] [] σ Q) (x1 x2 x3 : Int) (σ : hh_S) (h : B_X10_middleFor_106 d Q k4 x1 x2 x3 σ) : hh_J (d + 1) hm_X10_middleFor 106 [some (hh_R 112), some (hh_I x1), some (hh_I x2), some (hh_I x3), none, none] [] σ Q := by
  unfold B_X10_middleFor_106 at h
  obtain ⟨q1, h⟩ := h
  refine hh_iinc dX10_middleFor_106 (by decide) rfl rfl q1 ?_
  refine hh_goto (tgt := 4) dX10_middleFor_109 (by decide) ?_
  exact hh_forget [true, true, true, true, false, false] (hk4 _ _ _ _ h)
set_option maxRecDepth 20000 in
theorem w_X10_middleFor_94 {d : Nat} {Q : Int → hh_S → Prop} {k4 : Int → Int → Int → hh_S → Prop} (hk4 : ∀ (x1 x2 x3 : Int) (σ : hh_S), k4 x1 x2 x3 σ → hh_J (d + 1) hm_X10_middleFor 4 [some (hh_R 112), some (hh_I x1), some (hh_I x2), some (hh_I x3), none, none] [] σ Q) (x1 x2 x3 x4 x5 : Int) (σ : hh_S) (h : B_X10_middleFor_94 d Q k4 x1 x2 x3 x4 x5 σ) : hh_J (d + 1) hm_X10_middleFor 94 [some (hh_R 112), some (hh_I x1), some (hh_I x2), some (hh_I x3), some (hh_I x4), some (hh_I x5)] [] σ Q := by
  unfold B_X10_middleFor_94 at h
  obtain ⟨⟨q1, q2⟩, h⟩ := h
  refine hh_aload_n dX10_middleFor_94 rfl ?_
  refine hh_getR dX10_middleFor_95 kf_X10_18 rf_112_3 ?_
  refine hh_iload dX10_middleFor_98 rfl ?_
  refine hh_iload dX10_middleFor_100 rfl ?_
  refine hh_iast dX10_middleFor_102 ra_115 q1 ?_
  refine hh_iinc dX10_middleFor_103 (by decide) rfl rfl q2 ?_
  exact hh_forget [true, true, true, true, false, false] (w_X10_middleFor_106 hk4 _ _ _ _ h)
set_option maxRecDepth 20000 in
theorem w_X10_middleFor_53 {d : Nat} {Q : Int → hh_S → Prop} {k4 : Int → Int → Int → hh_S → Prop} {k53 : Int → Int → Int → Int → Int → hh_S → Prop} (hk4 : ∀ (x1 x2 x3 : Int) (σ : hh_S), k4 x1 x2 x3 σ → hh_J (d + 1) hm_X10_middleFor 4 [some (hh_R 112), some (hh_I x1), some (hh_I x2), some (hh_I x3), none, none] [] σ Q) (hk53 : ∀ (x1 x2 x3 x4 x5 : Int) (σ : hh_S), k53 x1 x2 x3 x4 x5 σ → hh_J (d + 1) hm_X10_middleFor 53 [some (hh_R 112), some (hh_I x1), some (hh_I x2), some (hh_I x3), some (hh_I x4), some (hh_I x5)] [] σ Q) (x1 x2 x3 x4 x5 : Int) (σ : hh_S) (h : B_X10_middleFor_53 d Q k4 k53 x1 x2 x3 x4 x5 σ) : hh_J (d + 1) hm_X10_middleFor 53 [some (hh_R 112), some (hh_I x1), some (hh_I x2), some (hh_I x3), some (hh_I x4), some (hh_I x5)] [] σ Q := by
  unfold B_X10_middleFor_53 at h
  refine hh_iload dX10_middleFor_53 rfl ?_
  refine hh_if_le (tgt := 94) dX10_middleFor_55 (by decide) (fun c => ?_) (fun c => ?_)
  · replace h := h.1 c
    exact hh_forget [true, true, true, true, true, true] (w_X10_middleFor_94 hk4 _ _ _ _ _ _ h)
  · replace h := h.2 c
    obtain ⟨⟨q1, q2⟩, h⟩ := h
    refine hh_aload_n dX10_middleFor_58 rfl ?_
    refine hh_getR dX10_middleFor_59 kf_X10_18 rf_112_3 ?_
    refine hh_iload dX10_middleFor_62 rfl ?_
    refine hh_iconst dX10_middleFor_64 (by decide) ?_
    refine hh_isub dX10_middleFor_65 q1 ?_
    refine hh_iald dX10_middleFor_66 ra_115 q2 rfl ?_
    refine hh_iload dX10_middleFor_67 rfl ?_
    refine hh_icmp_le (tgt := 94) dX10_middleFor_69 (by decide) (fun c => ?_) (fun c => ?_)
    · replace h := h.1 c
      exact hh_forget [true, true, true, true, true, true] (w_X10_middleFor_94 hk4 _ _ _ _ _ _ h)
    · replace h := h.2 c
      obtain ⟨⟨q1, q2, q3, q4⟩, h⟩ := h
      refine hh_aload_n dX10_middleFor_72 rfl ?_
      refine hh_getR dX10_middleFor_73 kf_X10_18 rf_112_3 ?_
      refine hh_iload dX10_middleFor_76 rfl ?_
      refine hh_aload_n dX10_middleFor_78 rfl ?_
      refine hh_getR dX10_middleFor_79 kf_X10_18 rf_112_3 ?_
      refine hh_iload dX10_middleFor_82 rfl ?_
      refine hh_iconst dX10_middleFor_84 (by decide) ?_
      refine hh_isub dX10_middleFor_85 q1 ?_
      refine hh_iald dX10_middleFor_86 ra_115 q2 rfl ?_
      refine hh_iast dX10_middleFor_87 ra_115 q3 ?_
      refine hh_iinc dX10_middleFor_88 (by decide) rfl rfl q4 ?_
      refine hh_goto (tgt := 53) dX10_middleFor_91 (by decide) ?_
      exact hh_forget [true, true, true, true, true, true] (hk53 _ _ _ _ _ _ h)
theorem l_X10_middleFor_53 {d : Nat} {Q : Int → hh_S → Prop} {k4 : Int → Int → Int → hh_S → Prop} (hk4 : ∀ (x1 x2 x3 : Int) (σ : hh_S), k4 x1 x2 x3 σ → hh_J (d + 1) hm_X10_middleFor 4 [some (hh_R 112), some (hh_I x1), some (hh_I x2), some (hh_I x3), none, none] [] σ Q) : ∀ (n : Nat) (x1 x2 x3 x4 x5 : Int) (σ : hh_S), hh_lp5 (B_X10_middleFor_53 d Q k4) n x1 x2 x3 x4 x5 σ → hh_J (d + 1) hm_X10_middleFor 53 [some (hh_R 112), some (hh_I x1), some (hh_I x2), some (hh_I x3), some (hh_I x4), some (hh_I x5)] [] σ Q := by
  intro n
  induction n with
  | zero => intro _ _ _ _ _ _ h; exact h.elim
  | succ n ih => intro x1 x2 x3 x4 x5 σ h; exact w_X10_middleFor_53 hk4 ih x1 x2 x3 x4 x5 σ h
set_option maxRecDepth 20000 in
theorem w_X10_middleFor_43 {d : Nat} {Q : Int → hh_S → Prop} {k4 : Int → Int → Int → hh_S → Prop} (hk4 : ∀ (x1 x2 x3 : Int) (σ : hh_S), k4 x1 x2 x3 σ → hh_J (d + 1) hm_X10_middleFor 4 [some (hh_R 112), some (hh_I x1), some (hh_I x2), some (hh_I x3), none, none] [] σ Q) (x1 x2 x3 s0 : Int) (σ : hh_S) (h : B_X10_middleFor_43 d Q k4 x1 x2 x3 s0 σ) : hh_J (d + 1) hm_X10_middleFor 43 [some (hh_R 112), some (hh_I x1), some (hh_I x2), some (hh_I x3), none, none] [hh_I s0] σ Q := by
  unfold B_X10_middleFor_43 at h
  refine hh_istore dX10_middleFor_43 (by decide) rfl ?_
  refine hh_iload dX10_middleFor_45 rfl ?_
  refine hh_if_le (tgt := 106) dX10_middleFor_47 (by decide) (fun c => ?_) (fun c => ?_)
  · replace h := h.1 c
    exact hh_forget [true, true, true, true, false, false] (w_X10_middleFor_106 hk4 _ _ _ _ h)
  · replace h := h.2 c
    refine hh_iload_n dX10_middleFor_50 rfl ?_
    refine hh_istore dX10_middleFor_51 (by decide) rfl ?_
    obtain ⟨n, h⟩ := h
    exact hh_forget [true, true, true, true, true, true] (l_X10_middleFor_53 hk4 n _ _ _ _ _ _ h)
set_option maxRecDepth 20000 in
theorem w_X10_middleFor_4 {d : Nat} {Q : Int → hh_S → Prop} {k4 : Int → Int → Int → hh_S → Prop} (hk4 : ∀ (x1 x2 x3 : Int) (σ : hh_S), k4 x1 x2 x3 σ → hh_J (d + 1) hm_X10_middleFor 4 [some (hh_R 112), some (hh_I x1), some (hh_I x2), some (hh_I x3), none, none] [] σ Q) (x1 x2 x3 : Int) (σ : hh_S) (h : B_X10_middleFor_4 d Q k4 x1 x2 x3 σ) : hh_J (d + 1) hm_X10_middleFor 4 [some (hh_R 112), some (hh_I x1), some (hh_I x2), some (hh_I x3), none, none] [] σ Q := by
  unfold B_X10_middleFor_4 at h
  refine hh_iload_n dX10_middleFor_4 rfl ?_
  refine hh_aload_n dX10_middleFor_5 rfl ?_
  refine hh_getR dX10_middleFor_6 kf_X10_24 rf_112_0 ?_
  refine hh_getR dX10_middleFor_9 kf_X10_32 rf_1_3 ?_
  refine hh_getI dX10_middleFor_12 kf_X10_123 rf_24_0 rfl ?_
  refine hh_icmp_ge (tgt := 112) dX10_middleFor_15 (by decide) (fun c => ?_) (fun c => ?_)
  · replace h := h.1 c
    exact hh_forget [true, false, true, false, false, false] (w_X10_middleFor_112 _ _ h)
  · replace h := h.2 c
    refine hh_aload_n dX10_middleFor_18 rfl ?_
    refine hh_iload_n dX10_middleFor_19 rfl ?_
    refine hh_iload_n dX10_middleFor_20 rfl ?_
    refine hh_cV2 dX10_middleFor_21 lk_X10_151 mo_X10_isLike rc_112 (Nat.le_of_ble_eq_true rfl) h (fun r21 σ21 h => ?_)
    refine hh_if_eq (tgt := 42) dX10_middleFor_24 (by decide) (fun c => ?_) (fun c => ?_)
    · replace h := h.1 c
      refine hh_iconst dX10_middleFor_42 (by decide) ?_
      exact hh_forget [true, true, true, true, false, false] (w_X10_middleFor_43 hk4 _ _ _ _ _ h)
    · replace h := h.2 c
      refine hh_aload_n dX10_middleFor_27 rfl ?_
      refine hh_iload_n dX10_middleFor_28 rfl ?_
      refine hh_aload_n dX10_middleFor_29 rfl ?_
      refine hh_getR dX10_middleFor_30 kf_X10_24 rf_112_0 ?_
      refine hh_getI dX10_middleFor_33 kf_X10_154 rf_1_8 rfl ?_
      refine hh_cV2 dX10_middleFor_36 lk_X10_80 mo_X10_countedOf rc_112 (Nat.le_of_ble_eq_true rfl) h (fun r36 σ36 h => ?_)
      refine hh_goto (tgt := 43) dX10_middleFor_39 (by decide) ?_
      exact hh_forget [true, true, true, true, false, false] (w_X10_middleFor_43 hk4 _ _ _ _ _ h)
theorem l_X10_middleFor_4 {d : Nat} {Q : Int → hh_S → Prop} : ∀ (n : Nat) (x1 x2 x3 : Int) (σ : hh_S), hh_lp3 (B_X10_middleFor_4 d Q) n x1 x2 x3 σ → hh_J (d + 1) hm_X10_middleFor 4 [some (hh_R 112), some (hh_I x1), some (hh_I x2), some (hh_I x3), none, none] [] σ Q := by
  intro n
  induction n with
  | zero => intro _ _ _ _ h; exact h.elim
  | succ n ih => intro x1 x2 x3 σ h; exact w_X10_middleFor_4 ih x1 x2 x3 σ h
set_option maxRecDepth 20000 in
theorem w_X10_middleFor {d : Nat} {a1 : Int} {σ : hh_S} {Q : Int → hh_S → Prop} (h : P_X10_middleFor d a1 σ Q) : hh_J (d + 1) hm_X10_middleFor 0 [some (hh_R 112), some (hh_I a1), none, none, none, none] [] σ Q := by
  unfold P_X10_middleFor at h
  refine hh_iconst dX10_middleFor_0 (by decide) ?_
  refine hh_istore_n dX10_middleFor_1 (by decide) rfl ?_
  refine hh_iconst dX10_middleFor_2 (by decide) ?_
  refine hh_istore_n dX10_middleFor_3 (by decide) rfl ?_
  obtain ⟨n, h⟩ := h
  exact hh_forget [true, true, true, true, false, false] (l_X10_middleFor_4 n _ _ _ _ h)
theorem wp_X10_middleFor {d : Nat} (a1 : Int) {σ : hh_S} {Q : Int → hh_S → Prop} (h : hh_cs σ → hh_can a1 → P_X10_middleFor d a1 σ Q) : hh_Sp (d + 1) hm_X10_middleFor [hh_R 112, hh_I a1] σ Q :=
  hh_entry rfl (Nat.le_of_ble_eq_true rfl) rfl (fun hs hc => w_X10_middleFor (h hs (hc _ (List.mem_of_getElem? (i := 1) rfl))))
def P_X7_costOf (d : Nat) (a1 a2 : Int) (σ : hh_S) (Q : Int → hh_S → Prop) : Prop :=
  ((0 ≤ a1 ∧ a1 < 6) ∧ (0 ≤ a2 ∧ a2 < 8) ∧ (-2147483648 ≤ (σ 52 a1) * (σ 4 a2) ∧ (σ 52 a1) * (σ 4 a2) ≤ 2147483647) ∧ 0 ≤ (σ 52 a1) * (σ 4 a2)) ∧ (Q (((σ 52 a1) * (σ 4 a2)) / 10) σ)
set_option maxRecDepth 20000 in
theorem w_X7_costOf {d : Nat} {a1 a2 : Int} {σ : hh_S} {Q : Int → hh_S → Prop} (h : P_X7_costOf d a1 a2 σ Q) : hh_J (d + 1) hm_X7_costOf 0 [some (hh_R 117), some (hh_I a1), some (hh_I a2)] [] σ Q := by
  unfold P_X7_costOf at h
  obtain ⟨⟨q1, q2, q3, q4⟩, h⟩ := h
  refine hh_aload_n dX7_costOf_0 rfl ?_
  refine hh_getR dX7_costOf_1 kf_X7_25 rf_117_0 ?_
  refine hh_getR dX7_costOf_4 kf_X7_44 rf_1_6 ?_
  refine hh_getR dX7_costOf_7 kf_X7_88 rf_50_2 ?_
  refine hh_iload_n dX7_costOf_10 rfl ?_
  refine hh_iald dX7_costOf_11 ra_52 q1 rfl ?_
  refine hh_aload_n dX7_costOf_12 rfl ?_
  refine hh_getR dX7_costOf_13 kf_X7_25 rf_117_0 ?_
  refine hh_getR dX7_costOf_16 kf_X7_29 rf_1_0 ?_
  refine hh_getR dX7_costOf_19 kf_X7_95 rf_2_2 ?_
  refine hh_iload_n dX7_costOf_22 rfl ?_
  refine hh_iald dX7_costOf_23 ra_4 q2 rfl ?_
  refine hh_imul dX7_costOf_24 q3 ?_
  refine hh_bipush dX7_costOf_25 (by decide) ?_
  refine hh_idiv dX7_costOf_27 q4 (by decide) ?_
  exact hh_ireturn dX7_costOf_28 rfl h
theorem wp_X7_costOf {d : Nat} (a1 a2 : Int) {σ : hh_S} {Q : Int → hh_S → Prop} (h : hh_cs σ → hh_can a1 → hh_can a2 → P_X7_costOf d a1 a2 σ Q) : hh_Sp (d + 1) hm_X7_costOf [hh_R 117, hh_I a1, hh_I a2] σ Q :=
  hh_entry rfl (Nat.le_of_ble_eq_true rfl) rfl (fun hs hc => w_X7_costOf (h hs (hc _ (List.mem_of_getElem? (i := 1) rfl)) (hc _ (List.mem_of_getElem? (i := 2) rfl))))
def B_X7_takeIfLess_17 (d : Nat) (Q : Int → hh_S → Prop) (x1 : Int) (σ : hh_S) : Prop :=
  hh_Sp d hm_X11_takeOver [hh_R 120, hh_R 121] (hh_up σ 117 5 x1) (fun _ σ30 => Q 0 σ30)
def P_X7_takeIfLess (d : Nat) (a1 : Int) (σ : hh_S) (Q : Int → hh_S → Prop) : Prop :=
  (σ 117 5 = (-1000000002) → B_X7_takeIfLess_17 d Q a1 σ) ∧ (¬ σ 117 5 = (-1000000002) → (σ 117 5 ≤ a1 → Q 0 σ) ∧ (¬ σ 117 5 ≤ a1 → B_X7_takeIfLess_17 d Q a1 σ))
set_option maxRecDepth 20000 in
theorem w_X7_takeIfLess_17 {d : Nat} {Q : Int → hh_S → Prop} (x1 : Int) (σ : hh_S) (h : B_X7_takeIfLess_17 d Q x1 σ) : hh_J (d + 1) hm_X7_takeIfLess 17 [some (hh_R 117), some (hh_I x1)] [] σ Q := by
  unfold B_X7_takeIfLess_17 at h
  refine hh_aload_n dX7_takeIfLess_17 rfl ?_
  refine hh_iload_n dX7_takeIfLess_18 rfl ?_
  refine hh_putI dX7_takeIfLess_19 kp_X7_74 rf_117_5 ?_
  refine hh_aload_n dX7_takeIfLess_22 rfl ?_
  refine hh_getR dX7_takeIfLess_23 kf_X7_19 rf_117_3 ?_
  refine hh_aload_n dX7_takeIfLess_26 rfl ?_
  refine hh_getR dX7_takeIfLess_27 kf_X7_22 rf_117_4 ?_
  refine hh_cN2 dX7_takeIfLess_30 lk_X7_40 mo_X11_takeOver (Nat.le_of_ble_eq_true rfl) h (fun _ σ30 h => ?_)
  exact hh_vreturn dX7_takeIfLess_33 rfl h
set_option maxRecDepth 20000 in
theorem w_X7_takeIfLess {d : Nat} {a1 : Int} {σ : hh_S} {Q : Int → hh_S → Prop} (h : P_X7_takeIfLess d a1 σ Q) : hh_J (d + 1) hm_X7_takeIfLess 0 [some (hh_R 117), some (hh_I a1)] [] σ Q := by
  unfold P_X7_takeIfLess at h
  refine hh_aload_n dX7_takeIfLess_0 rfl ?_
  refine hh_getI dX7_takeIfLess_1 kf_X7_74 rf_117_5 rfl ?_
  refine hh_ldc (n := -1000000002) dX7_takeIfLess_4 kc_X7_73 (by decide) ?_
  refine hh_icmp_eq (tgt := 17) dX7_takeIfLess_6 (by decide) (fun c => ?_) (fun c => ?_)
  · replace h := h.1 c
    exact hh_forget [true, true] (w_X7_takeIfLess_17 _ _ h)
  · replace h := h.2 c
    refine hh_iload_n dX7_takeIfLess_9 rfl ?_
    refine hh_aload_n dX7_takeIfLess_10 rfl ?_
    refine hh_getI dX7_takeIfLess_11 kf_X7_74 rf_117_5 rfl ?_
    refine hh_icmp_ge (tgt := 33) dX7_takeIfLess_14 (by decide) (fun c => ?_) (fun c => ?_)
    · replace h := h.1 c
      exact hh_vreturn dX7_takeIfLess_33 rfl h
    · replace h := h.2 c
      exact hh_forget [true, true] (w_X7_takeIfLess_17 _ _ h)
theorem wp_X7_takeIfLess {d : Nat} (a1 : Int) {σ : hh_S} {Q : Int → hh_S → Prop} (h : hh_cs σ → hh_can a1 → P_X7_takeIfLess d a1 σ Q) : hh_Sp (d + 1) hm_X7_takeIfLess [hh_R 117, hh_I a1] σ Q :=
  hh_entry rfl (Nat.le_of_ble_eq_true rfl) rfl (fun hs hc => w_X7_takeIfLess (h hs (hc _ (List.mem_of_getElem? (i := 1) rfl))))
def B_X7_seekFrom_157 (d : Nat) (Q : Int → hh_S → Prop) (k43 : Int → Int → Int → Int → hh_S → Prop) (x1 x2 x3 x4 : Int) (σ : hh_S) : Prop :=
  ((-2147483648 ≤ x4 + 1 ∧ x4 + 1 ≤ 2147483647)) ∧ (k43 x1 x2 x3 (x4 + 1) σ)
def B_X7_seekFrom_43 (d : Nat) (Q : Int → hh_S → Prop) (k43 : Int → Int → Int → Int → hh_S → Prop) (x1 x2 x3 x4 : Int) (σ : hh_S) : Prop :=
  (σ 2 0 ≤ x4 → Q 1 σ) ∧ (¬ σ 2 0 ≤ x4 → ((-2147483648 ≤ x1 * 8 ∧ x1 * 8 ≤ 2147483647) ∧ (-2147483648 ≤ x1 * 8 + x4 ∧ x1 * 8 + x4 ≤ 2147483647) ∧ (0 ≤ x1 * 8 + x4 ∧ x1 * 8 + x4 < 48)) ∧ ((σ 118 (x1 * 8 + x4) = 0 → B_X7_seekFrom_157 d Q k43 x1 x2 x3 x4 σ) ∧ (¬ σ 118 (x1 * 8 + x4) = 0 → ((0 ≤ x4 ∧ x4 < 8)) ∧ ((x3 ≤ σ 119 x4 → (¬ σ 117 6 = 0 → ((-2147483648 ≤ σ 117 6 - 1 ∧ σ 117 6 - 1 ≤ 2147483647) ∧ (0 ≤ x4 ∧ x4 < 8) ∧ (-2147483648 ≤ σ 119 x4 - x3 ∧ σ 119 x4 - x3 ≤ 2147483647) ∧ (0 ≤ x1 ∧ x1 < 6) ∧ (-2147483648 ≤ x1 + 1 ∧ x1 + 1 ≤ 2147483647)) ∧ (hh_Sp d hm_X7_costOf [hh_R 117, hh_I x1, hh_I x4] (hh_up (hh_up (hh_up σ 117 6 (σ 117 6 - 1)) 119 x4 (σ 119 x4 - x3)) 120 x1 x4) (fun r134 σ134 => ((-2147483648 ≤ x2 + r134 ∧ x2 + r134 ≤ 2147483647)) ∧ (hh_Sp d hm_X7_seekFrom [hh_R 117, hh_I (x1 + 1), hh_I (x2 + r134)] σ134 (fun r138 σ138 => (¬ r138 = 0 → ((0 ≤ x4 ∧ x4 < 8) ∧ (-2147483648 ≤ σ138 119 x4 + x3 ∧ σ138 119 x4 + x3 ≤ 2147483647)) ∧ (B_X7_seekFrom_157 d Q k43 x1 x2 x3 x4 (hh_up σ138 119 x4 (σ138 119 x4 + x3)))) ∧ (r138 = 0 → Q 0 σ138)))))) ∧ (σ 117 6 = 0 → Q 0 σ)) ∧ (¬ x3 ≤ σ 119 x4 → B_X7_seekFrom_157 d Q k43 x1 x2 x3 x4 σ)))))
def B_X7_seekFrom_20 (d : Nat) (Q : Int → hh_S → Prop) (x2 : Int) (σ : hh_S) : Prop :=
  hh_Sp d hm_X7_takeIfLess [hh_R 117, hh_I x2] σ (fun _ σ22 => Q 1 σ22)
def P_X7_seekFrom (d : Nat) (a1 a2 : Int) (σ : hh_S) (Q : Int → hh_S → Prop) : Prop :=
  (σ 50 0 ≤ a1 → B_X7_seekFrom_20 d Q a2 σ) ∧ (¬ σ 50 0 ≤ a1 → (a1 < 6 → ((0 ≤ a1 ∧ a1 < 6)) ∧ (∃ n, hh_lp4 (B_X7_seekFrom_43 d Q) n a1 a2 (σ 52 a1) 0 σ)) ∧ (¬ a1 < 6 → B_X7_seekFrom_20 d Q a2 σ))
set_option maxRecDepth 20000 in
theorem w_X7_seekFrom_157 {d : Nat} {Q : Int → hh_S → Prop} {k43 : Int → Int → Int → Int → hh_S → Prop} (hk43 : ∀ (x1 x2 x3 x4 : Int) (σ : hh_S), k43 x1 x2 x3 x4 σ → hh_J (d + 1) hm_X7_seekFrom 43 [some (hh_R 117), some (hh_I x1), some (hh_I x2), some (hh_I x3), some (hh_I x4)] [] σ Q) (x1 x2 x3 x4 : Int) (σ : hh_S) (h : B_X7_seekFrom_157 d Q k43 x1 x2 x3 x4 σ) : hh_J (d + 1) hm_X7_seekFrom 157 [some (hh_R 117), some (hh_I x1), some (hh_I x2), some (hh_I x3), some (hh_I x4)] [] σ Q := by
  unfold B_X7_seekFrom_157 at h
  obtain ⟨q1, h⟩ := h
  refine hh_iinc dX7_seekFrom_157 (by decide) rfl rfl q1 ?_
  refine hh_goto (tgt := 43) dX7_seekFrom_160 (by decide) ?_
  exact hh_forget [true, true, true, true, true] (hk43 _ _ _ _ _ h)
set_option maxRecDepth 20000 in
theorem w_X7_seekFrom_43 {d : Nat} {Q : Int → hh_S → Prop} {k43 : Int → Int → Int → Int → hh_S → Prop} (hk43 : ∀ (x1 x2 x3 x4 : Int) (σ : hh_S), k43 x1 x2 x3 x4 σ → hh_J (d + 1) hm_X7_seekFrom 43 [some (hh_R 117), some (hh_I x1), some (hh_I x2), some (hh_I x3), some (hh_I x4)] [] σ Q) (x1 x2 x3 x4 : Int) (σ : hh_S) (h : B_X7_seekFrom_43 d Q k43 x1 x2 x3 x4 σ) : hh_J (d + 1) hm_X7_seekFrom 43 [some (hh_R 117), some (hh_I x1), some (hh_I x2), some (hh_I x3), some (hh_I x4)] [] σ Q := by
  unfold B_X7_seekFrom_43 at h
  refine hh_iload dX7_seekFrom_43 rfl ?_
  refine hh_aload_n dX7_seekFrom_45 rfl ?_
  refine hh_getR dX7_seekFrom_46 kf_X7_25 rf_117_0 ?_
  refine hh_getR dX7_seekFrom_49 kf_X7_29 rf_1_0 ?_
  refine hh_getI dX7_seekFrom_52 kf_X7_54 rf_2_0 rfl ?_
  refine hh_icmp_ge (tgt := 163) dX7_seekFrom_55 (by decide) (fun c => ?_) (fun c => ?_)
  · replace h := h.1 c
    refine hh_iconst dX7_seekFrom_163 (by decide) ?_
    exact hh_zreturn dX7_seekFrom_164 rfl (by decide) h
  · replace h := h.2 c
    obtain ⟨⟨q1, q2, q3⟩, h⟩ := h
    refine hh_aload_n dX7_seekFrom_58 rfl ?_
    refine hh_getR dX7_seekFrom_59 kf_X7_9 rf_117_1 ?_
    refine hh_iload_n dX7_seekFrom_62 rfl ?_
    refine hh_bipush dX7_seekFrom_63 (by decide) ?_
    refine hh_imul dX7_seekFrom_65 q1 ?_
    refine hh_iload dX7_seekFrom_66 rfl ?_
    refine hh_iadd dX7_seekFrom_68 q2 ?_
    refine hh_zald dX7_seekFrom_69 ra_118 q3 rfl ?_
    refine hh_if_eq (tgt := 157) dX7_seekFrom_70 (by decide) (fun c => ?_) (fun c => ?_)
    · replace h := h.1 c
      exact hh_forget [true, true, true, true, true] (w_X7_seekFrom_157 hk43 _ _ _ _ _ h)
    · replace h := h.2 c
      obtain ⟨q1, h⟩ := h
      refine hh_aload_n dX7_seekFrom_73 rfl ?_
      refine hh_getR dX7_seekFrom_74 kf_X7_15 rf_117_2 ?_
      refine hh_iload dX7_seekFrom_77 rfl ?_
      refine hh_iald dX7_seekFrom_79 ra_119 q1 rfl ?_
      refine hh_iload_n dX7_seekFrom_80 rfl ?_
      refine hh_icmp_ge (tgt := 87) dX7_seekFrom_81 (by decide) (fun c => ?_) (fun c => ?_)
      · replace h := h.1 c
        refine hh_aload_n dX7_seekFrom_87 rfl ?_
        refine hh_getI dX7_seekFrom_88 kf_X7_77 rf_117_6 rfl ?_
        refine hh_if_ne (tgt := 96) dX7_seekFrom_91 (by decide) (fun c => ?_) (fun c => ?_)
        · replace h := h.1 c
          obtain ⟨⟨q1, q2, q3, q4, q5⟩, h⟩ := h
          refine hh_aload_n dX7_seekFrom_96 rfl ?_
          refine hh_dup dX7_seekFrom_97 (fun _ => rfl) ?_
          refine hh_getI dX7_seekFrom_98 kf_X7_77 rf_117_6 rfl ?_
          refine hh_iconst dX7_seekFrom_101 (by decide) ?_
          refine hh_isub dX7_seekFrom_102 q1 ?_
          refine hh_putI dX7_seekFrom_103 kp_X7_77 rf_117_6 ?_
          refine hh_aload_n dX7_seekFrom_106 rfl ?_
          refine hh_getR dX7_seekFrom_107 kf_X7_15 rf_117_2 ?_
          refine hh_iload dX7_seekFrom_110 rfl ?_
          refine hh_dup2 dX7_seekFrom_112 (fun _ => rfl) (fun _ => rfl) ?_
          refine hh_iald dX7_seekFrom_113 ra_119 q2 rfl ?_
          refine hh_iload_n dX7_seekFrom_114 rfl ?_
          refine hh_isub dX7_seekFrom_115 q3 ?_
          refine hh_iast dX7_seekFrom_116 ra_119 q2 ?_
          refine hh_aload_n dX7_seekFrom_117 rfl ?_
          refine hh_getR dX7_seekFrom_118 kf_X7_19 rf_117_3 ?_
          refine hh_iload_n dX7_seekFrom_121 rfl ?_
          refine hh_iload dX7_seekFrom_122 rfl ?_
          refine hh_iast dX7_seekFrom_124 ra_120 q4 ?_
          refine hh_aload_n dX7_seekFrom_125 rfl ?_
          refine hh_iload_n dX7_seekFrom_126 rfl ?_
          refine hh_iconst dX7_seekFrom_127 (by decide) ?_
          refine hh_iadd dX7_seekFrom_128 q5 ?_
          refine hh_iload_n dX7_seekFrom_129 rfl ?_
          refine hh_aload_n dX7_seekFrom_130 rfl ?_
          refine hh_iload_n dX7_seekFrom_131 rfl ?_
          refine hh_iload dX7_seekFrom_132 rfl ?_
          refine hh_cV2 dX7_seekFrom_134 lk_X7_91 mo_X7_costOf rc_117 (Nat.le_of_ble_eq_true rfl) h (fun r134 σ134 h => ?_)
          obtain ⟨q1, h⟩ := h
          refine hh_iadd dX7_seekFrom_137 q1 ?_
          refine hh_cV2 dX7_seekFrom_138 lk_X7_80 mo_X7_seekFrom rc_117 (Nat.le_of_ble_eq_true rfl) h (fun r138 σ138 h => ?_)
          refine hh_if_ne (tgt := 146) dX7_seekFrom_141 (by decide) (fun c => ?_) (fun c => ?_)
          · replace h := h.1 c
            obtain ⟨⟨q1, q2⟩, h⟩ := h
            refine hh_aload_n dX7_seekFrom_146 rfl ?_
            refine hh_getR dX7_seekFrom_147 kf_X7_15 rf_117_2 ?_
            refine hh_iload dX7_seekFrom_150 rfl ?_
            refine hh_dup2 dX7_seekFrom_152 (fun _ => rfl) (fun _ => rfl) ?_
            refine hh_iald dX7_seekFrom_153 ra_119 q1 rfl ?_
            refine hh_iload_n dX7_seekFrom_154 rfl ?_
            refine hh_iadd dX7_seekFrom_155 q2 ?_
            refine hh_iast dX7_seekFrom_156 ra_119 q1 ?_
            exact hh_forget [true, true, true, true, true] (w_X7_seekFrom_157 hk43 _ _ _ _ _ h)
          · replace h := h.2 c
            refine hh_iconst dX7_seekFrom_144 (by decide) ?_
            exact hh_zreturn dX7_seekFrom_145 rfl (by decide) h
        · replace h := h.2 c
          refine hh_iconst dX7_seekFrom_94 (by decide) ?_
          exact hh_zreturn dX7_seekFrom_95 rfl (by decide) h
      · replace h := h.2 c
        refine hh_goto (tgt := 157) dX7_seekFrom_84 (by decide) ?_
        exact hh_forget [true, true, true, true, true] (w_X7_seekFrom_157 hk43 _ _ _ _ _ h)
theorem l_X7_seekFrom_43 {d : Nat} {Q : Int → hh_S → Prop} : ∀ (n : Nat) (x1 x2 x3 x4 : Int) (σ : hh_S), hh_lp4 (B_X7_seekFrom_43 d Q) n x1 x2 x3 x4 σ → hh_J (d + 1) hm_X7_seekFrom 43 [some (hh_R 117), some (hh_I x1), some (hh_I x2), some (hh_I x3), some (hh_I x4)] [] σ Q := by
  intro n
  induction n with
  | zero => intro _ _ _ _ _ h; exact h.elim
  | succ n ih => intro x1 x2 x3 x4 σ h; exact w_X7_seekFrom_43 ih x1 x2 x3 x4 σ h
set_option maxRecDepth 20000 in
theorem w_X7_seekFrom_20 {d : Nat} {Q : Int → hh_S → Prop} (x2 : Int) (σ : hh_S) (h : B_X7_seekFrom_20 d Q x2 σ) : hh_J (d + 1) hm_X7_seekFrom 20 [some (hh_R 117), none, some (hh_I x2), none, none] [] σ Q := by
  unfold B_X7_seekFrom_20 at h
  refine hh_aload_n dX7_seekFrom_20 rfl ?_
  refine hh_iload_n dX7_seekFrom_21 rfl ?_
  refine hh_cV1 dX7_seekFrom_22 lk_X7_84 mo_X7_takeIfLess rc_117 (Nat.le_of_ble_eq_true rfl) h (fun _ σ22 h => ?_)
  refine hh_iconst dX7_seekFrom_25 (by decide) ?_
  exact hh_zreturn dX7_seekFrom_26 rfl (by decide) h
set_option maxRecDepth 20000 in
theorem w_X7_seekFrom {d : Nat} {a1 a2 : Int} {σ : hh_S} {Q : Int → hh_S → Prop} (h : P_X7_seekFrom d a1 a2 σ Q) : hh_J (d + 1) hm_X7_seekFrom 0 [some (hh_R 117), some (hh_I a1), some (hh_I a2), none, none] [] σ Q := by
  unfold P_X7_seekFrom at h
  refine hh_iload_n dX7_seekFrom_0 rfl ?_
  refine hh_aload_n dX7_seekFrom_1 rfl ?_
  refine hh_getR dX7_seekFrom_2 kf_X7_25 rf_117_0 ?_
  refine hh_getR dX7_seekFrom_5 kf_X7_44 rf_1_6 ?_
  refine hh_getI dX7_seekFrom_8 kf_X7_48 rf_50_0 rfl ?_
  refine hh_icmp_ge (tgt := 20) dX7_seekFrom_11 (by decide) (fun c => ?_) (fun c => ?_)
  · replace h := h.1 c
    exact hh_forget [true, false, true, false, false] (w_X7_seekFrom_20 _ _ h)
  · replace h := h.2 c
    refine hh_iload_n dX7_seekFrom_14 rfl ?_
    refine hh_bipush dX7_seekFrom_15 (by decide) ?_
    refine hh_icmp_lt (tgt := 27) dX7_seekFrom_17 (by decide) (fun c => ?_) (fun c => ?_)
    · replace h := h.1 c
      obtain ⟨q1, h⟩ := h
      refine hh_aload_n dX7_seekFrom_27 rfl ?_
      refine hh_getR dX7_seekFrom_28 kf_X7_25 rf_117_0 ?_
      refine hh_getR dX7_seekFrom_31 kf_X7_44 rf_1_6 ?_
      refine hh_getR dX7_seekFrom_34 kf_X7_88 rf_50_2 ?_
      refine hh_iload_n dX7_seekFrom_37 rfl ?_
      refine hh_iald dX7_seekFrom_38 ra_52 q1 rfl ?_
      refine hh_istore_n dX7_seekFrom_39 (by decide) rfl ?_
      refine hh_iconst dX7_seekFrom_40 (by decide) ?_
      refine hh_istore dX7_seekFrom_41 (by decide) rfl ?_
      obtain ⟨n, h⟩ := h
      exact hh_forget [true, true, true, true, true] (l_X7_seekFrom_43 n _ _ _ _ _ h)
    · replace h := h.2 c
      exact hh_forget [true, false, true, false, false] (w_X7_seekFrom_20 _ _ h)
theorem wp_X7_seekFrom {d : Nat} (a1 a2 : Int) {σ : hh_S} {Q : Int → hh_S → Prop} (h : hh_cs σ → hh_can a1 → hh_can a2 → P_X7_seekFrom d a1 a2 σ Q) : hh_Sp (d + 1) hm_X7_seekFrom [hh_R 117, hh_I a1, hh_I a2] σ Q :=
  hh_entry rfl (Nat.le_of_ble_eq_true rfl) rfl (fun hs hc => w_X7_seekFrom (h hs (hc _ (List.mem_of_getElem? (i := 1) rfl)) (hc _ (List.mem_of_getElem? (i := 2) rfl))))
def B_X7_seek_129 (d : Nat) (Q : Int → hh_S → Prop) (x1 : Int) (σ : hh_S) : Prop :=
  hh_Sp d hm_X7_seekFrom [hh_R 117, hh_I 0, hh_I 0] (hh_up (hh_up σ 117 5 (-1000000002)) 117 6 x1) (fun r143 σ143 => (r143 = 0 → Q (-1000000004) σ143) ∧ (¬ r143 = 0 → Q (σ143 117 5) σ143))
def B_X7_seek_123 (d : Nat) (Q : Int → hh_S → Prop) (k19 : Int → Int → hh_S → Prop) (x1 x2 : Int) (σ : hh_S) : Prop :=
  ((-2147483648 ≤ x2 + 1 ∧ x2 + 1 ≤ 2147483647)) ∧ (k19 x1 (x2 + 1) σ)
def B_X7_seek_116 (d : Nat) (Q : Int → hh_S → Prop) (k19 : Int → Int → hh_S → Prop) (k35 : Int → Int → Int → hh_S → Prop) (x1 x2 x3 s1 s2 : Int) (σ : hh_S) : Prop :=
  ((0 ≤ s1 ∧ s1 < 48) ∧ (s2 = 0 ∨ s2 = 1) ∧ (-2147483648 ≤ x3 + 1 ∧ x3 + 1 ≤ 2147483647)) ∧ (k35 x1 x2 (x3 + 1) (hh_up σ 118 s1 s2))
def B_X7_seek_115 (d : Nat) (Q : Int → hh_S → Prop) (k19 : Int → Int → hh_S → Prop) (k35 : Int → Int → Int → hh_S → Prop) (x1 x2 x3 s1 : Int) (σ : hh_S) : Prop :=
  B_X7_seek_116 d Q k19 k35 x1 x2 x3 s1 0 σ
def B_X7_seek_35 (d : Nat) (Q : Int → hh_S → Prop) (k19 : Int → Int → hh_S → Prop) (k35 : Int → Int → Int → hh_S → Prop) (x1 x2 x3 : Int) (σ : hh_S) : Prop :=
  (σ 2 0 ≤ x3 → B_X7_seek_123 d Q k19 x1 x2 σ) ∧ (¬ σ 2 0 ≤ x3 → ((-2147483648 ≤ x2 * 8 ∧ x2 * 8 ≤ 2147483647) ∧ (-2147483648 ≤ x2 * 8 + x3 ∧ x2 * 8 + x3 ≤ 2147483647) ∧ (0 ≤ x2 ∧ x2 < 6)) ∧ (hh_Sp d hm_X6_isUnder [hh_R 2, hh_I x3, hh_I (σ 53 x2)] σ (fun r79 σ79 => (r79 = 0 → B_X7_seek_115 d Q k19 k35 x1 x2 x3 (x2 * 8 + x3) σ79) ∧ (¬ r79 = 0 → ((0 ≤ x2 ∧ x2 < 6)) ∧ (hh_Sp d hm_X5_hasWall [hh_R 13, hh_I x3, hh_I (σ79 51 x2)] σ79 (fun r105 σ105 => (¬ r105 = 0 → B_X7_seek_115 d Q k19 k35 x1 x2 x3 (x2 * 8 + x3) σ105) ∧ (r105 = 0 → B_X7_seek_116 d Q k19 k35 x1 x2 x3 (x2 * 8 + x3) 1 σ105)))))))
def B_X7_seek_19 (d : Nat) (Q : Int → hh_S → Prop) (k19 : Int → Int → hh_S → Prop) (x1 x2 : Int) (σ : hh_S) : Prop :=
  (σ 50 0 ≤ x2 → B_X7_seek_129 d Q x1 σ) ∧ (¬ σ 50 0 ≤ x2 → ∃ n, hh_lp3 (B_X7_seek_35 d Q k19) n x1 x2 0 σ)
def P_X7_seek (d : Nat) (a1 : Int) (σ : hh_S) (Q : Int → hh_S → Prop) : Prop :=
  hh_Sp d hm_X11_takeOver [hh_R 5, hh_R 119] σ (fun _ σ14 => ∃ n, hh_lp2 (B_X7_seek_19 d Q) n a1 0 σ14)
set_option maxRecDepth 20000 in
theorem w_X7_seek_129 {d : Nat} {Q : Int → hh_S → Prop} (x1 : Int) (σ : hh_S) (h : B_X7_seek_129 d Q x1 σ) : hh_J (d + 1) hm_X7_seek 129 [some (hh_R 117), some (hh_I x1), none, none] [] σ Q := by
  unfold B_X7_seek_129 at h
  refine hh_aload_n dX7_seek_129 rfl ?_
  refine hh_ldc (n := -1000000002) dX7_seek_130 kc_X7_73 (by decide) ?_
  refine hh_putI dX7_seek_132 kp_X7_74 rf_117_5 ?_
  refine hh_aload_n dX7_seek_135 rfl ?_
  refine hh_iload_n dX7_seek_136 rfl ?_
  refine hh_putI dX7_seek_137 kp_X7_77 rf_117_6 ?_
  refine hh_aload_n dX7_seek_140 rfl ?_
  refine hh_iconst dX7_seek_141 (by decide) ?_
  refine hh_iconst dX7_seek_142 (by decide) ?_
  refine hh_cV2 dX7_seek_143 lk_X7_80 mo_X7_seekFrom rc_117 (Nat.le_of_ble_eq_true rfl) h (fun r143 σ143 h => ?_)
  refine hh_if_eq (tgt := 156) dX7_seek_146 (by decide) (fun c => ?_) (fun c => ?_)
  · replace h := h.1 c
    refine hh_ldc (n := -1000000004) dX7_seek_156 kc_X7_83 (by decide) ?_
    exact hh_ireturn dX7_seek_158 rfl h
  · replace h := h.2 c
    refine hh_aload_n dX7_seek_149 rfl ?_
    refine hh_getI dX7_seek_150 kf_X7_74 rf_117_5 rfl ?_
    refine hh_goto (tgt := 158) dX7_seek_153 (by decide) ?_
    exact hh_ireturn dX7_seek_158 rfl h
set_option maxRecDepth 20000 in
theorem w_X7_seek_123 {d : Nat} {Q : Int → hh_S → Prop} {k19 : Int → Int → hh_S → Prop} (hk19 : ∀ (x1 x2 : Int) (σ : hh_S), k19 x1 x2 σ → hh_J (d + 1) hm_X7_seek 19 [some (hh_R 117), some (hh_I x1), some (hh_I x2), none] [] σ Q) (x1 x2 : Int) (σ : hh_S) (h : B_X7_seek_123 d Q k19 x1 x2 σ) : hh_J (d + 1) hm_X7_seek 123 [some (hh_R 117), some (hh_I x1), some (hh_I x2), none] [] σ Q := by
  unfold B_X7_seek_123 at h
  obtain ⟨q1, h⟩ := h
  refine hh_iinc dX7_seek_123 (by decide) rfl rfl q1 ?_
  refine hh_goto (tgt := 19) dX7_seek_126 (by decide) ?_
  exact hh_forget [true, true, true, false] (hk19 _ _ _ h)
set_option maxRecDepth 20000 in
theorem w_X7_seek_116 {d : Nat} {Q : Int → hh_S → Prop} {k19 : Int → Int → hh_S → Prop} {k35 : Int → Int → Int → hh_S → Prop} (hk19 : ∀ (x1 x2 : Int) (σ : hh_S), k19 x1 x2 σ → hh_J (d + 1) hm_X7_seek 19 [some (hh_R 117), some (hh_I x1), some (hh_I x2), none] [] σ Q) (hk35 : ∀ (x1 x2 x3 : Int) (σ : hh_S), k35 x1 x2 x3 σ → hh_J (d + 1) hm_X7_seek 35 [some (hh_R 117), some (hh_I x1), some (hh_I x2), some (hh_I x3)] [] σ Q) (x1 x2 x3 s1 s2 : Int) (σ : hh_S) (h : B_X7_seek_116 d Q k19 k35 x1 x2 x3 s1 s2 σ) : hh_J (d + 1) hm_X7_seek 116 [some (hh_R 117), some (hh_I x1), some (hh_I x2), some (hh_I x3)] [hh_I s2, hh_I s1, hh_R 118] σ Q := by
  unfold B_X7_seek_116 at h
  obtain ⟨⟨q1, q2, q3⟩, h⟩ := h
  refine hh_zast dX7_seek_116 ra_118 q1 q2 ?_
  refine hh_iinc dX7_seek_117 (by decide) rfl rfl q3 ?_
  refine hh_goto (tgt := 35) dX7_seek_120 (by decide) ?_
  exact hh_forget [true, true, true, true] (hk35 _ _ _ _ h)
set_option maxRecDepth 20000 in
theorem w_X7_seek_115 {d : Nat} {Q : Int → hh_S → Prop} {k19 : Int → Int → hh_S → Prop} {k35 : Int → Int → Int → hh_S → Prop} (hk19 : ∀ (x1 x2 : Int) (σ : hh_S), k19 x1 x2 σ → hh_J (d + 1) hm_X7_seek 19 [some (hh_R 117), some (hh_I x1), some (hh_I x2), none] [] σ Q) (hk35 : ∀ (x1 x2 x3 : Int) (σ : hh_S), k35 x1 x2 x3 σ → hh_J (d + 1) hm_X7_seek 35 [some (hh_R 117), some (hh_I x1), some (hh_I x2), some (hh_I x3)] [] σ Q) (x1 x2 x3 s1 : Int) (σ : hh_S) (h : B_X7_seek_115 d Q k19 k35 x1 x2 x3 s1 σ) : hh_J (d + 1) hm_X7_seek 115 [some (hh_R 117), some (hh_I x1), some (hh_I x2), some (hh_I x3)] [hh_I s1, hh_R 118] σ Q := by
  unfold B_X7_seek_115 at h
  refine hh_iconst dX7_seek_115 (by decide) ?_
  exact hh_forget [true, true, true, true] (w_X7_seek_116 hk19 hk35 _ _ _ _ _ _ h)
set_option maxRecDepth 20000 in
theorem w_X7_seek_35 {d : Nat} {Q : Int → hh_S → Prop} {k19 : Int → Int → hh_S → Prop} {k35 : Int → Int → Int → hh_S → Prop} (hk19 : ∀ (x1 x2 : Int) (σ : hh_S), k19 x1 x2 σ → hh_J (d + 1) hm_X7_seek 19 [some (hh_R 117), some (hh_I x1), some (hh_I x2), none] [] σ Q) (hk35 : ∀ (x1 x2 x3 : Int) (σ : hh_S), k35 x1 x2 x3 σ → hh_J (d + 1) hm_X7_seek 35 [some (hh_R 117), some (hh_I x1), some (hh_I x2), some (hh_I x3)] [] σ Q) (x1 x2 x3 : Int) (σ : hh_S) (h : B_X7_seek_35 d Q k19 k35 x1 x2 x3 σ) : hh_J (d + 1) hm_X7_seek 35 [some (hh_R 117), some (hh_I x1), some (hh_I x2), some (hh_I x3)] [] σ Q := by
  unfold B_X7_seek_35 at h
  refine hh_iload_n dX7_seek_35 rfl ?_
  refine hh_aload_n dX7_seek_36 rfl ?_
  refine hh_getR dX7_seek_37 kf_X7_25 rf_117_0 ?_
  refine hh_getR dX7_seek_40 kf_X7_29 rf_1_0 ?_
  refine hh_getI dX7_seek_43 kf_X7_54 rf_2_0 rfl ?_
  refine hh_icmp_ge (tgt := 123) dX7_seek_46 (by decide) (fun c => ?_) (fun c => ?_)
  · replace h := h.1 c
    exact hh_forget [true, true, true, false] (w_X7_seek_123 hk19 _ _ _ h)
  · replace h := h.2 c
    obtain ⟨⟨q1, q2, q3⟩, h⟩ := h
    refine hh_aload_n dX7_seek_49 rfl ?_
    refine hh_getR dX7_seek_50 kf_X7_9 rf_117_1 ?_
    refine hh_iload_n dX7_seek_53 rfl ?_
    refine hh_bipush dX7_seek_54 (by decide) ?_
    refine hh_imul dX7_seek_56 q1 ?_
    refine hh_iload_n dX7_seek_57 rfl ?_
    refine hh_iadd dX7_seek_58 q2 ?_
    refine hh_aload_n dX7_seek_59 rfl ?_
    refine hh_getR dX7_seek_60 kf_X7_25 rf_117_0 ?_
    refine hh_getR dX7_seek_63 kf_X7_29 rf_1_0 ?_
    refine hh_iload_n dX7_seek_66 rfl ?_
    refine hh_aload_n dX7_seek_67 rfl ?_
    refine hh_getR dX7_seek_68 kf_X7_25 rf_117_0 ?_
    refine hh_getR dX7_seek_71 kf_X7_44 rf_1_6 ?_
    refine hh_getR dX7_seek_74 kf_X7_55 rf_50_3 ?_
    refine hh_iload_n dX7_seek_77 rfl ?_
    refine hh_iald dX7_seek_78 ra_53 q3 rfl ?_
    refine hh_cV2 dX7_seek_79 lk_X7_58 mo_X6_isUnder rc_2 (Nat.le_of_ble_eq_true rfl) h (fun r79 σ79 h => ?_)
    refine hh_if_eq (tgt := 115) dX7_seek_82 (by decide) (fun c => ?_) (fun c => ?_)
    · replace h := h.1 c
      exact hh_forget [true, true, true, true] (w_X7_seek_115 hk19 hk35 _ _ _ _ _ h)
    · replace h := h.2 c
      obtain ⟨q1, h⟩ := h
      refine hh_aload_n dX7_seek_85 rfl ?_
      refine hh_getR dX7_seek_86 kf_X7_25 rf_117_0 ?_
      refine hh_getR dX7_seek_89 kf_X7_62 rf_1_2 ?_
      refine hh_iload_n dX7_seek_92 rfl ?_
      refine hh_aload_n dX7_seek_93 rfl ?_
      refine hh_getR dX7_seek_94 kf_X7_25 rf_117_0 ?_
      refine hh_getR dX7_seek_97 kf_X7_44 rf_1_6 ?_
      refine hh_getR dX7_seek_100 kf_X7_66 rf_50_1 ?_
      refine hh_iload_n dX7_seek_103 rfl ?_
      refine hh_iald dX7_seek_104 ra_51 q1 rfl ?_
      refine hh_cV2 dX7_seek_105 lk_X7_68 mo_X5_hasWall rc_13 (Nat.le_of_ble_eq_true rfl) h (fun r105 σ105 h => ?_)
      refine hh_if_ne (tgt := 115) dX7_seek_108 (by decide) (fun c => ?_) (fun c => ?_)
      · replace h := h.1 c
        exact hh_forget [true, true, true, true] (w_X7_seek_115 hk19 hk35 _ _ _ _ _ h)
      · replace h := h.2 c
        refine hh_iconst dX7_seek_111 (by decide) ?_
        refine hh_goto (tgt := 116) dX7_seek_112 (by decide) ?_
        exact hh_forget [true, true, true, true] (w_X7_seek_116 hk19 hk35 _ _ _ _ _ _ h)
theorem l_X7_seek_35 {d : Nat} {Q : Int → hh_S → Prop} {k19 : Int → Int → hh_S → Prop} (hk19 : ∀ (x1 x2 : Int) (σ : hh_S), k19 x1 x2 σ → hh_J (d + 1) hm_X7_seek 19 [some (hh_R 117), some (hh_I x1), some (hh_I x2), none] [] σ Q) : ∀ (n : Nat) (x1 x2 x3 : Int) (σ : hh_S), hh_lp3 (B_X7_seek_35 d Q k19) n x1 x2 x3 σ → hh_J (d + 1) hm_X7_seek 35 [some (hh_R 117), some (hh_I x1), some (hh_I x2), some (hh_I x3)] [] σ Q := by
  intro n
  induction n with
  | zero => intro _ _ _ _ h; exact h.elim
  | succ n ih => intro x1 x2 x3 σ h; exact w_X7_seek_35 hk19 ih x1 x2 x3 σ h
set_option maxRecDepth 20000 in
theorem w_X7_seek_19 {d : Nat} {Q : Int → hh_S → Prop} {k19 : Int → Int → hh_S → Prop} (hk19 : ∀ (x1 x2 : Int) (σ : hh_S), k19 x1 x2 σ → hh_J (d + 1) hm_X7_seek 19 [some (hh_R 117), some (hh_I x1), some (hh_I x2), none] [] σ Q) (x1 x2 : Int) (σ : hh_S) (h : B_X7_seek_19 d Q k19 x1 x2 σ) : hh_J (d + 1) hm_X7_seek 19 [some (hh_R 117), some (hh_I x1), some (hh_I x2), none] [] σ Q := by
  unfold B_X7_seek_19 at h
  refine hh_iload_n dX7_seek_19 rfl ?_
  refine hh_aload_n dX7_seek_20 rfl ?_
  refine hh_getR dX7_seek_21 kf_X7_25 rf_117_0 ?_
  refine hh_getR dX7_seek_24 kf_X7_44 rf_1_6 ?_
  refine hh_getI dX7_seek_27 kf_X7_48 rf_50_0 rfl ?_
  refine hh_icmp_ge (tgt := 129) dX7_seek_30 (by decide) (fun c => ?_) (fun c => ?_)
  · replace h := h.1 c
    exact hh_forget [true, true, false, false] (w_X7_seek_129 _ _ h)
  · replace h := h.2 c
    refine hh_iconst dX7_seek_33 (by decide) ?_
    refine hh_istore_n dX7_seek_34 (by decide) rfl ?_
    obtain ⟨n, h⟩ := h
    exact hh_forget [true, true, true, true] (l_X7_seek_35 hk19 n _ _ _ _ h)
theorem l_X7_seek_19 {d : Nat} {Q : Int → hh_S → Prop} : ∀ (n : Nat) (x1 x2 : Int) (σ : hh_S), hh_lp2 (B_X7_seek_19 d Q) n x1 x2 σ → hh_J (d + 1) hm_X7_seek 19 [some (hh_R 117), some (hh_I x1), some (hh_I x2), none] [] σ Q := by
  intro n
  induction n with
  | zero => intro _ _ _ h; exact h.elim
  | succ n ih => intro x1 x2 σ h; exact w_X7_seek_19 ih x1 x2 σ h
set_option maxRecDepth 20000 in
theorem w_X7_seek {d : Nat} {a1 : Int} {σ : hh_S} {Q : Int → hh_S → Prop} (h : P_X7_seek d a1 σ Q) : hh_J (d + 1) hm_X7_seek 0 [some (hh_R 117), some (hh_I a1), none, none] [] σ Q := by
  unfold P_X7_seek at h
  refine hh_aload_n dX7_seek_0 rfl ?_
  refine hh_getR dX7_seek_1 kf_X7_25 rf_117_0 ?_
  refine hh_getR dX7_seek_4 kf_X7_29 rf_1_0 ?_
  refine hh_getR dX7_seek_7 kf_X7_35 rf_2_3 ?_
  refine hh_aload_n dX7_seek_10 rfl ?_
  refine hh_getR dX7_seek_11 kf_X7_15 rf_117_2 ?_
  refine hh_cN2 dX7_seek_14 lk_X7_40 mo_X11_takeOver (Nat.le_of_ble_eq_true rfl) h (fun _ σ14 h => ?_)
  refine hh_iconst dX7_seek_17 (by decide) ?_
  refine hh_istore_n dX7_seek_18 (by decide) rfl ?_
  obtain ⟨n, h⟩ := h
  exact hh_forget [true, true, true, false] (l_X7_seek_19 n _ _ _ h)
theorem wp_X7_seek {d : Nat} (a1 : Int) {σ : hh_S} {Q : Int → hh_S → Prop} (h : hh_cs σ → hh_can a1 → P_X7_seek d a1 σ Q) : hh_Sp (d + 1) hm_X7_seek [hh_R 117, hh_I a1] σ Q :=
  hh_entry rfl (Nat.le_of_ble_eq_true rfl) rfl (fun hs hc => w_X7_seek (h hs (hc _ (List.mem_of_getElem? (i := 1) rfl))))
def P_X0_become_i0 (d : Nat) (σ : hh_S) (Q : Int → hh_S → Prop) : Prop :=
  hh_Sp d hm_X11_takeOver [hh_R 43, hh_R 97] (hh_up σ 96 0 (σ 42 0)) (fun _ σ16 => hh_Sp d hm_X11_takeOver [hh_R 44, hh_R 98] σ16 (fun _ σ27 => hh_Sp d hm_X11_takeOver [hh_R 45, hh_R 99] σ27 (fun _ σ38 => hh_Sp d hm_X11_takeOver [hh_R 46, hh_R 100] σ38 (fun _ σ49 => hh_Sp d hm_X11_takeOver [hh_R 47, hh_R 101] σ49 (fun _ σ60 => hh_Sp d hm_X11_takeOver [hh_R 48, hh_R 102] σ60 (fun _ σ71 => hh_Sp d hm_X11_takeOver [hh_R 49, hh_R 103] σ71 (fun _ σ82 => Q 0 σ82)))))))
set_option maxRecDepth 20000 in
theorem w_X0_become_i0 {d : Nat} {σ : hh_S} {Q : Int → hh_S → Prop} (h : P_X0_become_i0 d σ Q) : hh_J (d + 1) hm_X0_become 0 [some (hh_R 96), some (hh_R 42)] [] σ Q := by
  unfold P_X0_become_i0 at h
  refine hh_aload_n dX0_become_0 rfl ?_
  refine hh_aload_n dX0_become_1 rfl ?_
  refine hh_getI dX0_become_2 kf_X0_33 rf_42_0 rfl ?_
  refine hh_putI dX0_become_5 kp_X0_33 rf_96_0 ?_
  refine hh_aload_n dX0_become_8 rfl ?_
  refine hh_getR dX0_become_9 kf_X0_9 rf_42_1 ?_
  refine hh_aload_n dX0_become_12 rfl ?_
  refine hh_getR dX0_become_13 kf_X0_9 rf_96_1 ?_
  refine hh_cN2 dX0_become_16 lk_X0_41 mo_X11_takeOver (Nat.le_of_ble_eq_true rfl) h (fun _ σ16 h => ?_)
  refine hh_aload_n dX0_become_19 rfl ?_
  refine hh_getR dX0_become_20 kf_X0_15 rf_42_2 ?_
  refine hh_aload_n dX0_become_23 rfl ?_
  refine hh_getR dX0_become_24 kf_X0_15 rf_96_2 ?_
  refine hh_cN2 dX0_become_27 lk_X0_41 mo_X11_takeOver (Nat.le_of_ble_eq_true rfl) h (fun _ σ27 h => ?_)
  refine hh_aload_n dX0_become_30 rfl ?_
  refine hh_getR dX0_become_31 kf_X0_18 rf_42_3 ?_
  refine hh_aload_n dX0_become_34 rfl ?_
  refine hh_getR dX0_become_35 kf_X0_18 rf_96_3 ?_
  refine hh_cN2 dX0_become_38 lk_X0_41 mo_X11_takeOver (Nat.le_of_ble_eq_true rfl) h (fun _ σ38 h => ?_)
  refine hh_aload_n dX0_become_41 rfl ?_
  refine hh_getR dX0_become_42 kf_X0_21 rf_42_4 ?_
  refine hh_aload_n dX0_become_45 rfl ?_
  refine hh_getR dX0_become_46 kf_X0_21 rf_96_4 ?_
  refine hh_cN2 dX0_become_49 lk_X0_41 mo_X11_takeOver (Nat.le_of_ble_eq_true rfl) h (fun _ σ49 h => ?_)
  refine hh_aload_n dX0_become_52 rfl ?_
  refine hh_getR dX0_become_53 kf_X0_24 rf_42_5 ?_
  refine hh_aload_n dX0_become_56 rfl ?_
  refine hh_getR dX0_become_57 kf_X0_24 rf_96_5 ?_
  refine hh_cN2 dX0_become_60 lk_X0_41 mo_X11_takeOver (Nat.le_of_ble_eq_true rfl) h (fun _ σ60 h => ?_)
  refine hh_aload_n dX0_become_63 rfl ?_
  refine hh_getR dX0_become_64 kf_X0_27 rf_42_6 ?_
  refine hh_aload_n dX0_become_67 rfl ?_
  refine hh_getR dX0_become_68 kf_X0_27 rf_96_6 ?_
  refine hh_cN2 dX0_become_71 lk_X0_41 mo_X11_takeOver (Nat.le_of_ble_eq_true rfl) h (fun _ σ71 h => ?_)
  refine hh_aload_n dX0_become_74 rfl ?_
  refine hh_getR dX0_become_75 kf_X0_30 rf_42_7 ?_
  refine hh_aload_n dX0_become_78 rfl ?_
  refine hh_getR dX0_become_79 kf_X0_30 rf_96_7 ?_
  refine hh_cN2 dX0_become_82 lk_X0_41 mo_X11_takeOver (Nat.le_of_ble_eq_true rfl) h (fun _ σ82 h => ?_)
  exact hh_vreturn dX0_become_85 rfl h
theorem wp_X0_become_i0 {d : Nat} {σ : hh_S} {Q : Int → hh_S → Prop} (h : hh_cs σ → P_X0_become_i0 d σ Q) : hh_Sp (d + 1) hm_X0_become [hh_R 96, hh_R 42] σ Q :=
  hh_entry rfl (Nat.le_of_ble_eq_true rfl) rfl (fun hs hc => w_X0_become_i0 (h hs))
def P_X1_become_i0 (d : Nat) (σ : hh_S) (Q : Int → hh_S → Prop) : Prop :=
  hh_Sp d hm_X11_takeOver [hh_R 7, hh_R 61] (hh_up σ 60 0 (σ 6 0)) (fun _ σ16 => hh_Sp d hm_X11_takeOver [hh_R 8, hh_R 62] σ16 (fun _ σ27 => hh_Sp d hm_X11_takeOver [hh_R 9, hh_R 63] σ27 (fun _ σ38 => hh_Sp d hm_X11_takeOver [hh_R 10, hh_R 64] σ38 (fun _ σ49 => hh_Sp d hm_X11_takeOver [hh_R 11, hh_R 65] σ49 (fun _ σ60 => hh_Sp d hm_X11_takeOver [hh_R 12, hh_R 66] σ60 (fun _ σ71 => Q 0 σ71))))))
set_option maxRecDepth 20000 in
theorem w_X1_become_i0 {d : Nat} {σ : hh_S} {Q : Int → hh_S → Prop} (h : P_X1_become_i0 d σ Q) : hh_J (d + 1) hm_X1_become 0 [some (hh_R 60), some (hh_R 6)] [] σ Q := by
  unfold P_X1_become_i0 at h
  refine hh_aload_n dX1_become_0 rfl ?_
  refine hh_aload_n dX1_become_1 rfl ?_
  refine hh_getI dX1_become_2 kf_X1_30 rf_6_0 rfl ?_
  refine hh_putI dX1_become_5 kp_X1_30 rf_60_0 ?_
  refine hh_aload_n dX1_become_8 rfl ?_
  refine hh_getR dX1_become_9 kf_X1_9 rf_6_1 ?_
  refine hh_aload_n dX1_become_12 rfl ?_
  refine hh_getR dX1_become_13 kf_X1_9 rf_60_1 ?_
  refine hh_cN2 dX1_become_16 lk_X1_38 mo_X11_takeOver (Nat.le_of_ble_eq_true rfl) h (fun _ σ16 h => ?_)
  refine hh_aload_n dX1_become_19 rfl ?_
  refine hh_getR dX1_become_20 kf_X1_15 rf_6_2 ?_
  refine hh_aload_n dX1_become_23 rfl ?_
  refine hh_getR dX1_become_24 kf_X1_15 rf_60_2 ?_
  refine hh_cN2 dX1_become_27 lk_X1_38 mo_X11_takeOver (Nat.le_of_ble_eq_true rfl) h (fun _ σ27 h => ?_)
  refine hh_aload_n dX1_become_30 rfl ?_
  refine hh_getR dX1_become_31 kf_X1_18 rf_6_3 ?_
  refine hh_aload_n dX1_become_34 rfl ?_
  refine hh_getR dX1_become_35 kf_X1_18 rf_60_3 ?_
  refine hh_cN2 dX1_become_38 lk_X1_38 mo_X11_takeOver (Nat.le_of_ble_eq_true rfl) h (fun _ σ38 h => ?_)
  refine hh_aload_n dX1_become_41 rfl ?_
  refine hh_getR dX1_become_42 kf_X1_21 rf_6_4 ?_
  refine hh_aload_n dX1_become_45 rfl ?_
  refine hh_getR dX1_become_46 kf_X1_21 rf_60_4 ?_
  refine hh_cN2 dX1_become_49 lk_X1_38 mo_X11_takeOver (Nat.le_of_ble_eq_true rfl) h (fun _ σ49 h => ?_)
  refine hh_aload_n dX1_become_52 rfl ?_
  refine hh_getR dX1_become_53 kf_X1_24 rf_6_5 ?_
  refine hh_aload_n dX1_become_56 rfl ?_
  refine hh_getR dX1_become_57 kf_X1_24 rf_60_5 ?_
  refine hh_cN2 dX1_become_60 lk_X1_38 mo_X11_takeOver (Nat.le_of_ble_eq_true rfl) h (fun _ σ60 h => ?_)
  refine hh_aload_n dX1_become_63 rfl ?_
  refine hh_getR dX1_become_64 kf_X1_27 rf_6_6 ?_
  refine hh_aload_n dX1_become_67 rfl ?_
  refine hh_getR dX1_become_68 kf_X1_27 rf_60_6 ?_
  refine hh_cN2 dX1_become_71 lk_X1_38 mo_X11_takeOver (Nat.le_of_ble_eq_true rfl) h (fun _ σ71 h => ?_)
  exact hh_vreturn dX1_become_74 rfl h
theorem wp_X1_become_i0 {d : Nat} {σ : hh_S} {Q : Int → hh_S → Prop} (h : hh_cs σ → P_X1_become_i0 d σ Q) : hh_Sp (d + 1) hm_X1_become [hh_R 60, hh_R 6] σ Q :=
  hh_entry rfl (Nat.le_of_ble_eq_true rfl) rfl (fun hs hc => w_X1_become_i0 (h hs))
def P_X2_become_i0 (d : Nat) (σ : hh_S) (Q : Int → hh_S → Prop) : Prop :=
  hh_Sp d hm_X11_takeOver [hh_R 37, hh_R 91] (hh_up σ 90 0 (σ 36 0)) (fun _ σ16 => hh_Sp d hm_X11_takeOver [hh_R 38, hh_R 92] σ16 (fun _ σ27 => hh_Sp d hm_X11_takeOver [hh_R 39, hh_R 93] σ27 (fun _ σ38 => hh_Sp d hm_X11_takeOver [hh_R 40, hh_R 94] σ38 (fun _ σ49 => hh_Sp d hm_X11_takeOver [hh_R 41, hh_R 95] σ49 (fun _ σ60 => Q 0 σ60)))))
set_option maxRecDepth 20000 in
theorem w_X2_become_i0 {d : Nat} {σ : hh_S} {Q : Int → hh_S → Prop} (h : P_X2_become_i0 d σ Q) : hh_J (d + 1) hm_X2_become 0 [some (hh_R 90), some (hh_R 36)] [] σ Q := by
  unfold P_X2_become_i0 at h
  refine hh_aload_n dX2_become_0 rfl ?_
  refine hh_aload_n dX2_become_1 rfl ?_
  refine hh_getI dX2_become_2 kf_X2_27 rf_36_0 rfl ?_
  refine hh_putI dX2_become_5 kp_X2_27 rf_90_0 ?_
  refine hh_aload_n dX2_become_8 rfl ?_
  refine hh_getR dX2_become_9 kf_X2_9 rf_36_1 ?_
  refine hh_aload_n dX2_become_12 rfl ?_
  refine hh_getR dX2_become_13 kf_X2_9 rf_90_1 ?_
  refine hh_cN2 dX2_become_16 lk_X2_31 mo_X11_takeOver (Nat.le_of_ble_eq_true rfl) h (fun _ σ16 h => ?_)
  refine hh_aload_n dX2_become_19 rfl ?_
  refine hh_getR dX2_become_20 kf_X2_15 rf_36_2 ?_
  refine hh_aload_n dX2_become_23 rfl ?_
  refine hh_getR dX2_become_24 kf_X2_15 rf_90_2 ?_
  refine hh_cN2 dX2_become_27 lk_X2_31 mo_X11_takeOver (Nat.le_of_ble_eq_true rfl) h (fun _ σ27 h => ?_)
  refine hh_aload_n dX2_become_30 rfl ?_
  refine hh_getR dX2_become_31 kf_X2_18 rf_36_3 ?_
  refine hh_aload_n dX2_become_34 rfl ?_
  refine hh_getR dX2_become_35 kf_X2_18 rf_90_3 ?_
  refine hh_cN2 dX2_become_38 lk_X2_31 mo_X11_takeOver (Nat.le_of_ble_eq_true rfl) h (fun _ σ38 h => ?_)
  refine hh_aload_n dX2_become_41 rfl ?_
  refine hh_getR dX2_become_42 kf_X2_21 rf_36_4 ?_
  refine hh_aload_n dX2_become_45 rfl ?_
  refine hh_getR dX2_become_46 kf_X2_21 rf_90_4 ?_
  refine hh_cN2 dX2_become_49 lk_X2_31 mo_X11_takeOver (Nat.le_of_ble_eq_true rfl) h (fun _ σ49 h => ?_)
  refine hh_aload_n dX2_become_52 rfl ?_
  refine hh_getR dX2_become_53 kf_X2_24 rf_36_5 ?_
  refine hh_aload_n dX2_become_56 rfl ?_
  refine hh_getR dX2_become_57 kf_X2_24 rf_90_5 ?_
  refine hh_cN2 dX2_become_60 lk_X2_31 mo_X11_takeOver (Nat.le_of_ble_eq_true rfl) h (fun _ σ60 h => ?_)
  exact hh_vreturn dX2_become_63 rfl h
theorem wp_X2_become_i0 {d : Nat} {σ : hh_S} {Q : Int → hh_S → Prop} (h : hh_cs σ → P_X2_become_i0 d σ Q) : hh_Sp (d + 1) hm_X2_become [hh_R 90, hh_R 36] σ Q :=
  hh_entry rfl (Nat.le_of_ble_eq_true rfl) rfl (fun hs hc => w_X2_become_i0 (h hs))
def P_X3_become_i0 (d : Nat) (σ : hh_S) (Q : Int → hh_S → Prop) : Prop :=
  hh_Sp d hm_X11_takeOver [hh_R 25, hh_R 79] (hh_up σ 78 0 (σ 24 0)) (fun _ σ16 => hh_Sp d hm_X11_takeOver [hh_R 26, hh_R 80] σ16 (fun _ σ27 => hh_Sp d hm_X11_takeOver [hh_R 27, hh_R 81] σ27 (fun _ σ38 => hh_Sp d hm_X11_takeOver [hh_R 28, hh_R 82] σ38 (fun _ σ49 => hh_Sp d hm_X11_takeOver [hh_R 29, hh_R 83] σ49 (fun _ σ60 => hh_Sp d hm_X11_takeOver [hh_R 30, hh_R 84] σ60 (fun _ σ71 => hh_Sp d hm_X11_takeOver [hh_R 31, hh_R 85] σ71 (fun _ σ82 => hh_Sp d hm_X11_takeOver [hh_R 32, hh_R 86] σ82 (fun _ σ93 => hh_Sp d hm_X11_takeOver [hh_R 33, hh_R 87] σ93 (fun _ σ104 => hh_Sp d hm_X11_takeOver [hh_R 34, hh_R 88] σ104 (fun _ σ115 => hh_Sp d hm_X11_takeOver [hh_R 35, hh_R 89] σ115 (fun _ σ126 => Q 0 σ126)))))))))))
set_option maxRecDepth 20000 in
theorem w_X3_become_i0 {d : Nat} {σ : hh_S} {Q : Int → hh_S → Prop} (h : P_X3_become_i0 d σ Q) : hh_J (d + 1) hm_X3_become 0 [some (hh_R 78), some (hh_R 24)] [] σ Q := by
  unfold P_X3_become_i0 at h
  refine hh_aload_n dX3_become_0 rfl ?_
  refine hh_aload_n dX3_become_1 rfl ?_
  refine hh_getI dX3_become_2 kf_X3_45 rf_24_0 rfl ?_
  refine hh_putI dX3_become_5 kp_X3_45 rf_78_0 ?_
  refine hh_aload_n dX3_become_8 rfl ?_
  refine hh_getR dX3_become_9 kf_X3_9 rf_24_1 ?_
  refine hh_aload_n dX3_become_12 rfl ?_
  refine hh_getR dX3_become_13 kf_X3_9 rf_78_1 ?_
  refine hh_cN2 dX3_become_16 lk_X3_58 mo_X11_takeOver (Nat.le_of_ble_eq_true rfl) h (fun _ σ16 h => ?_)
  refine hh_aload_n dX3_become_19 rfl ?_
  refine hh_getR dX3_become_20 kf_X3_15 rf_24_2 ?_
  refine hh_aload_n dX3_become_23 rfl ?_
  refine hh_getR dX3_become_24 kf_X3_15 rf_78_2 ?_
  refine hh_cN2 dX3_become_27 lk_X3_58 mo_X11_takeOver (Nat.le_of_ble_eq_true rfl) h (fun _ σ27 h => ?_)
  refine hh_aload_n dX3_become_30 rfl ?_
  refine hh_getR dX3_become_31 kf_X3_18 rf_24_3 ?_
  refine hh_aload_n dX3_become_34 rfl ?_
  refine hh_getR dX3_become_35 kf_X3_18 rf_78_3 ?_
  refine hh_cN2 dX3_become_38 lk_X3_58 mo_X11_takeOver (Nat.le_of_ble_eq_true rfl) h (fun _ σ38 h => ?_)
  refine hh_aload_n dX3_become_41 rfl ?_
  refine hh_getR dX3_become_42 kf_X3_21 rf_24_4 ?_
  refine hh_aload_n dX3_become_45 rfl ?_
  refine hh_getR dX3_become_46 kf_X3_21 rf_78_4 ?_
  refine hh_cN2 dX3_become_49 lk_X3_58 mo_X11_takeOver (Nat.le_of_ble_eq_true rfl) h (fun _ σ49 h => ?_)
  refine hh_aload_n dX3_become_52 rfl ?_
  refine hh_getR dX3_become_53 kf_X3_24 rf_24_5 ?_
  refine hh_aload_n dX3_become_56 rfl ?_
  refine hh_getR dX3_become_57 kf_X3_24 rf_78_5 ?_
  refine hh_cN2 dX3_become_60 lk_X3_58 mo_X11_takeOver (Nat.le_of_ble_eq_true rfl) h (fun _ σ60 h => ?_)
  refine hh_aload_n dX3_become_63 rfl ?_
  refine hh_getR dX3_become_64 kf_X3_27 rf_24_6 ?_
  refine hh_aload_n dX3_become_67 rfl ?_
  refine hh_getR dX3_become_68 kf_X3_27 rf_78_6 ?_
  refine hh_cN2 dX3_become_71 lk_X3_58 mo_X11_takeOver (Nat.le_of_ble_eq_true rfl) h (fun _ σ71 h => ?_)
  refine hh_aload_n dX3_become_74 rfl ?_
  refine hh_getR dX3_become_75 kf_X3_30 rf_24_7 ?_
  refine hh_aload_n dX3_become_78 rfl ?_
  refine hh_getR dX3_become_79 kf_X3_30 rf_78_7 ?_
  refine hh_cN2 dX3_become_82 lk_X3_58 mo_X11_takeOver (Nat.le_of_ble_eq_true rfl) h (fun _ σ82 h => ?_)
  refine hh_aload_n dX3_become_85 rfl ?_
  refine hh_getR dX3_become_86 kf_X3_33 rf_24_8 ?_
  refine hh_aload_n dX3_become_89 rfl ?_
  refine hh_getR dX3_become_90 kf_X3_33 rf_78_8 ?_
  refine hh_cN2 dX3_become_93 lk_X3_58 mo_X11_takeOver (Nat.le_of_ble_eq_true rfl) h (fun _ σ93 h => ?_)
  refine hh_aload_n dX3_become_96 rfl ?_
  refine hh_getR dX3_become_97 kf_X3_36 rf_24_9 ?_
  refine hh_aload_n dX3_become_100 rfl ?_
  refine hh_getR dX3_become_101 kf_X3_36 rf_78_9 ?_
  refine hh_cN2 dX3_become_104 lk_X3_58 mo_X11_takeOver (Nat.le_of_ble_eq_true rfl) h (fun _ σ104 h => ?_)
  refine hh_aload_n dX3_become_107 rfl ?_
  refine hh_getR dX3_become_108 kf_X3_39 rf_24_10 ?_
  refine hh_aload_n dX3_become_111 rfl ?_
  refine hh_getR dX3_become_112 kf_X3_39 rf_78_10 ?_
  refine hh_cN2 dX3_become_115 lk_X3_58 mo_X11_takeOver (Nat.le_of_ble_eq_true rfl) h (fun _ σ115 h => ?_)
  refine hh_aload_n dX3_become_118 rfl ?_
  refine hh_getR dX3_become_119 kf_X3_42 rf_24_11 ?_
  refine hh_aload_n dX3_become_122 rfl ?_
  refine hh_getR dX3_become_123 kf_X3_42 rf_78_11 ?_
  refine hh_cN2 dX3_become_126 lk_X3_58 mo_X11_takeOver (Nat.le_of_ble_eq_true rfl) h (fun _ σ126 h => ?_)
  exact hh_vreturn dX3_become_129 rfl h
theorem wp_X3_become_i0 {d : Nat} {σ : hh_S} {Q : Int → hh_S → Prop} (h : hh_cs σ → P_X3_become_i0 d σ Q) : hh_Sp (d + 1) hm_X3_become [hh_R 78, hh_R 24] σ Q :=
  hh_entry rfl (Nat.le_of_ble_eq_true rfl) rfl (fun hs hc => w_X3_become_i0 (h hs))
def P_X5_become_i0 (d : Nat) (σ : hh_S) (Q : Int → hh_S → Prop) : Prop :=
  hh_Sp d hm_X11_takeOver [hh_R 14, hh_R 68] (hh_up σ 67 0 (σ 13 0)) (fun _ σ16 => hh_Sp d hm_X11_takeOver [hh_R 15, hh_R 69] σ16 (fun _ σ27 => hh_Sp d hm_X11_takeOver [hh_R 16, hh_R 70] σ27 (fun _ σ38 => hh_Sp d hm_X11_takeOver [hh_R 17, hh_R 71] σ38 (fun _ σ49 => hh_Sp d hm_X11_takeOver [hh_R 18, hh_R 72] σ49 (fun _ σ60 => hh_Sp d hm_X11_takeOver [hh_R 19, hh_R 73] σ60 (fun _ σ71 => hh_Sp d hm_X11_takeOver [hh_R 20, hh_R 74] σ71 (fun _ σ82 => hh_Sp d hm_X11_takeOver [hh_R 21, hh_R 75] σ82 (fun _ σ93 => hh_Sp d hm_X11_takeOver [hh_R 22, hh_R 76] σ93 (fun _ σ104 => hh_Sp d hm_X11_takeOver [hh_R 23, hh_R 77] σ104 (fun _ σ115 => Q 0 σ115))))))))))
set_option maxRecDepth 20000 in
theorem w_X5_become_i0 {d : Nat} {σ : hh_S} {Q : Int → hh_S → Prop} (h : P_X5_become_i0 d σ Q) : hh_J (d + 1) hm_X5_become 0 [some (hh_R 67), some (hh_R 13)] [] σ Q := by
  unfold P_X5_become_i0 at h
  refine hh_aload_n dX5_become_0 rfl ?_
  refine hh_aload_n dX5_become_1 rfl ?_
  refine hh_getI dX5_become_2 kf_X5_42 rf_13_0 rfl ?_
  refine hh_putI dX5_become_5 kp_X5_42 rf_67_0 ?_
  refine hh_aload_n dX5_become_8 rfl ?_
  refine hh_getR dX5_become_9 kf_X5_9 rf_13_1 ?_
  refine hh_aload_n dX5_become_12 rfl ?_
  refine hh_getR dX5_become_13 kf_X5_9 rf_67_1 ?_
  refine hh_cN2 dX5_become_16 lk_X5_60 mo_X11_takeOver (Nat.le_of_ble_eq_true rfl) h (fun _ σ16 h => ?_)
  refine hh_aload_n dX5_become_19 rfl ?_
  refine hh_getR dX5_become_20 kf_X5_15 rf_13_2 ?_
  refine hh_aload_n dX5_become_23 rfl ?_
  refine hh_getR dX5_become_24 kf_X5_15 rf_67_2 ?_
  refine hh_cN2 dX5_become_27 lk_X5_60 mo_X11_takeOver (Nat.le_of_ble_eq_true rfl) h (fun _ σ27 h => ?_)
  refine hh_aload_n dX5_become_30 rfl ?_
  refine hh_getR dX5_become_31 kf_X5_18 rf_13_3 ?_
  refine hh_aload_n dX5_become_34 rfl ?_
  refine hh_getR dX5_become_35 kf_X5_18 rf_67_3 ?_
  refine hh_cN2 dX5_become_38 lk_X5_60 mo_X11_takeOver (Nat.le_of_ble_eq_true rfl) h (fun _ σ38 h => ?_)
  refine hh_aload_n dX5_become_41 rfl ?_
  refine hh_getR dX5_become_42 kf_X5_21 rf_13_4 ?_
  refine hh_aload_n dX5_become_45 rfl ?_
  refine hh_getR dX5_become_46 kf_X5_21 rf_67_4 ?_
  refine hh_cN2 dX5_become_49 lk_X5_60 mo_X11_takeOver (Nat.le_of_ble_eq_true rfl) h (fun _ σ49 h => ?_)
  refine hh_aload_n dX5_become_52 rfl ?_
  refine hh_getR dX5_become_53 kf_X5_24 rf_13_5 ?_
  refine hh_aload_n dX5_become_56 rfl ?_
  refine hh_getR dX5_become_57 kf_X5_24 rf_67_5 ?_
  refine hh_cN2 dX5_become_60 lk_X5_60 mo_X11_takeOver (Nat.le_of_ble_eq_true rfl) h (fun _ σ60 h => ?_)
  refine hh_aload_n dX5_become_63 rfl ?_
  refine hh_getR dX5_become_64 kf_X5_27 rf_13_6 ?_
  refine hh_aload_n dX5_become_67 rfl ?_
  refine hh_getR dX5_become_68 kf_X5_27 rf_67_6 ?_
  refine hh_cN2 dX5_become_71 lk_X5_60 mo_X11_takeOver (Nat.le_of_ble_eq_true rfl) h (fun _ σ71 h => ?_)
  refine hh_aload_n dX5_become_74 rfl ?_
  refine hh_getR dX5_become_75 kf_X5_30 rf_13_7 ?_
  refine hh_aload_n dX5_become_78 rfl ?_
  refine hh_getR dX5_become_79 kf_X5_30 rf_67_7 ?_
  refine hh_cN2 dX5_become_82 lk_X5_60 mo_X11_takeOver (Nat.le_of_ble_eq_true rfl) h (fun _ σ82 h => ?_)
  refine hh_aload_n dX5_become_85 rfl ?_
  refine hh_getR dX5_become_86 kf_X5_33 rf_13_8 ?_
  refine hh_aload_n dX5_become_89 rfl ?_
  refine hh_getR dX5_become_90 kf_X5_33 rf_67_8 ?_
  refine hh_cN2 dX5_become_93 lk_X5_60 mo_X11_takeOver (Nat.le_of_ble_eq_true rfl) h (fun _ σ93 h => ?_)
  refine hh_aload_n dX5_become_96 rfl ?_
  refine hh_getR dX5_become_97 kf_X5_36 rf_13_9 ?_
  refine hh_aload_n dX5_become_100 rfl ?_
  refine hh_getR dX5_become_101 kf_X5_36 rf_67_9 ?_
  refine hh_cN2 dX5_become_104 lk_X5_60 mo_X11_takeOver (Nat.le_of_ble_eq_true rfl) h (fun _ σ104 h => ?_)
  refine hh_aload_n dX5_become_107 rfl ?_
  refine hh_getR dX5_become_108 kf_X5_39 rf_13_10 ?_
  refine hh_aload_n dX5_become_111 rfl ?_
  refine hh_getR dX5_become_112 kf_X5_39 rf_67_10 ?_
  refine hh_cN2 dX5_become_115 lk_X5_60 mo_X11_takeOver (Nat.le_of_ble_eq_true rfl) h (fun _ σ115 h => ?_)
  exact hh_vreturn dX5_become_118 rfl h
theorem wp_X5_become_i0 {d : Nat} {σ : hh_S} {Q : Int → hh_S → Prop} (h : hh_cs σ → P_X5_become_i0 d σ Q) : hh_Sp (d + 1) hm_X5_become [hh_R 67, hh_R 13] σ Q :=
  hh_entry rfl (Nat.le_of_ble_eq_true rfl) rfl (fun hs hc => w_X5_become_i0 (h hs))
def P_X6_become_i0 (d : Nat) (σ : hh_S) (Q : Int → hh_S → Prop) : Prop :=
  hh_Sp d hm_X11_takeOver [hh_R 3, hh_R 57] (hh_up σ 56 0 (σ 2 0)) (fun _ σ16 => hh_Sp d hm_X11_takeOver [hh_R 4, hh_R 58] σ16 (fun _ σ27 => hh_Sp d hm_X11_takeOver [hh_R 5, hh_R 59] σ27 (fun _ σ38 => Q 0 σ38)))
set_option maxRecDepth 20000 in
theorem w_X6_become_i0 {d : Nat} {σ : hh_S} {Q : Int → hh_S → Prop} (h : P_X6_become_i0 d σ Q) : hh_J (d + 1) hm_X6_become 0 [some (hh_R 56), some (hh_R 2)] [] σ Q := by
  unfold P_X6_become_i0 at h
  refine hh_aload_n dX6_become_0 rfl ?_
  refine hh_aload_n dX6_become_1 rfl ?_
  refine hh_getI dX6_become_2 kf_X6_21 rf_2_0 rfl ?_
  refine hh_putI dX6_become_5 kp_X6_21 rf_56_0 ?_
  refine hh_aload_n dX6_become_8 rfl ?_
  refine hh_getR dX6_become_9 kf_X6_9 rf_2_1 ?_
  refine hh_aload_n dX6_become_12 rfl ?_
  refine hh_getR dX6_become_13 kf_X6_9 rf_56_1 ?_
  refine hh_cN2 dX6_become_16 lk_X6_29 mo_X11_takeOver (Nat.le_of_ble_eq_true rfl) h (fun _ σ16 h => ?_)
  refine hh_aload_n dX6_become_19 rfl ?_
  refine hh_getR dX6_become_20 kf_X6_15 rf_2_2 ?_
  refine hh_aload_n dX6_become_23 rfl ?_
  refine hh_getR dX6_become_24 kf_X6_15 rf_56_2 ?_
  refine hh_cN2 dX6_become_27 lk_X6_29 mo_X11_takeOver (Nat.le_of_ble_eq_true rfl) h (fun _ σ27 h => ?_)
  refine hh_aload_n dX6_become_30 rfl ?_
  refine hh_getR dX6_become_31 kf_X6_18 rf_2_3 ?_
  refine hh_aload_n dX6_become_34 rfl ?_
  refine hh_getR dX6_become_35 kf_X6_18 rf_56_3 ?_
  refine hh_cN2 dX6_become_38 lk_X6_29 mo_X11_takeOver (Nat.le_of_ble_eq_true rfl) h (fun _ σ38 h => ?_)
  exact hh_vreturn dX6_become_41 rfl h
theorem wp_X6_become_i0 {d : Nat} {σ : hh_S} {Q : Int → hh_S → Prop} (h : hh_cs σ → P_X6_become_i0 d σ Q) : hh_Sp (d + 1) hm_X6_become [hh_R 56, hh_R 2] σ Q :=
  hh_entry rfl (Nat.le_of_ble_eq_true rfl) rfl (fun hs hc => w_X6_become_i0 (h hs))
def P_X9_become_i0 (d : Nat) (σ : hh_S) (Q : Int → hh_S → Prop) : Prop :=
  hh_Sp d hm_X11_takeOver [hh_R 51, hh_R 105] (hh_up σ 104 0 (σ 50 0)) (fun _ σ16 => hh_Sp d hm_X11_takeOver [hh_R 52, hh_R 106] σ16 (fun _ σ27 => hh_Sp d hm_X11_takeOver [hh_R 53, hh_R 107] σ27 (fun _ σ38 => Q 0 σ38)))
set_option maxRecDepth 20000 in
theorem w_X9_become_i0 {d : Nat} {σ : hh_S} {Q : Int → hh_S → Prop} (h : P_X9_become_i0 d σ Q) : hh_J (d + 1) hm_X9_become 0 [some (hh_R 104), some (hh_R 50)] [] σ Q := by
  unfold P_X9_become_i0 at h
  refine hh_aload_n dX9_become_0 rfl ?_
  refine hh_aload_n dX9_become_1 rfl ?_
  refine hh_getI dX9_become_2 kf_X9_21 rf_50_0 rfl ?_
  refine hh_putI dX9_become_5 kp_X9_21 rf_104_0 ?_
  refine hh_aload_n dX9_become_8 rfl ?_
  refine hh_getR dX9_become_9 kf_X9_9 rf_50_1 ?_
  refine hh_aload_n dX9_become_12 rfl ?_
  refine hh_getR dX9_become_13 kf_X9_9 rf_104_1 ?_
  refine hh_cN2 dX9_become_16 lk_X9_25 mo_X11_takeOver (Nat.le_of_ble_eq_true rfl) h (fun _ σ16 h => ?_)
  refine hh_aload_n dX9_become_19 rfl ?_
  refine hh_getR dX9_become_20 kf_X9_15 rf_50_2 ?_
  refine hh_aload_n dX9_become_23 rfl ?_
  refine hh_getR dX9_become_24 kf_X9_15 rf_104_2 ?_
  refine hh_cN2 dX9_become_27 lk_X9_25 mo_X11_takeOver (Nat.le_of_ble_eq_true rfl) h (fun _ σ27 h => ?_)
  refine hh_aload_n dX9_become_30 rfl ?_
  refine hh_getR dX9_become_31 kf_X9_18 rf_50_3 ?_
  refine hh_aload_n dX9_become_34 rfl ?_
  refine hh_getR dX9_become_35 kf_X9_18 rf_104_3 ?_
  refine hh_cN2 dX9_become_38 lk_X9_25 mo_X11_takeOver (Nat.le_of_ble_eq_true rfl) h (fun _ σ38 h => ?_)
  exact hh_vreturn dX9_become_41 rfl h
theorem wp_X9_become_i0 {d : Nat} {σ : hh_S} {Q : Int → hh_S → Prop} (h : hh_cs σ → P_X9_become_i0 d σ Q) : hh_Sp (d + 1) hm_X9_become [hh_R 104, hh_R 50] σ Q :=
  hh_entry rfl (Nat.le_of_ble_eq_true rfl) rfl (fun hs hc => w_X9_become_i0 (h hs))
def P_X4_become_i0 (d : Nat) (σ : hh_S) (Q : Int → hh_S → Prop) : Prop :=
  hh_Sp d hm_X6_become [hh_R 56, hh_R 2] σ (fun _ σ8 => hh_Sp d hm_X1_become [hh_R 60, hh_R 6] σ8 (fun _ σ19 => hh_Sp d hm_X5_become [hh_R 67, hh_R 13] σ19 (fun _ σ30 => hh_Sp d hm_X3_become [hh_R 78, hh_R 24] σ30 (fun _ σ41 => hh_Sp d hm_X2_become [hh_R 90, hh_R 36] σ41 (fun _ σ52 => hh_Sp d hm_X0_become [hh_R 96, hh_R 42] σ52 (fun _ σ63 => hh_Sp d hm_X9_become [hh_R 104, hh_R 50] σ63 (fun _ σ74 => hh_Sp d hm_X11_takeOver [hh_R 54, hh_R 108] σ74 (fun _ σ85 => Q 0 (hh_up σ85 55 8 (σ85 1 8))))))))))
set_option maxRecDepth 20000 in
theorem w_X4_become_i0 {d : Nat} {σ : hh_S} {Q : Int → hh_S → Prop} (h : P_X4_become_i0 d σ Q) : hh_J (d + 1) hm_X4_become 0 [some (hh_R 55), some (hh_R 1)] [] σ Q := by
  unfold P_X4_become_i0 at h
  refine hh_aload_n dX4_become_0 rfl ?_
  refine hh_getR dX4_become_1 kf_X4_10 rf_55_0 ?_
  refine hh_aload_n dX4_become_4 rfl ?_
  refine hh_getR dX4_become_5 kf_X4_10 rf_1_0 ?_
  refine hh_cV1 dX4_become_8 lk_X4_62 mo_X6_become rc_56 (Nat.le_of_ble_eq_true rfl) h (fun _ σ8 h => ?_)
  refine hh_aload_n dX4_become_11 rfl ?_
  refine hh_getR dX4_become_12 kf_X4_19 rf_55_1 ?_
  refine hh_aload_n dX4_become_15 rfl ?_
  refine hh_getR dX4_become_16 kf_X4_19 rf_1_1 ?_
  refine hh_cV1 dX4_become_19 lk_X4_66 mo_X1_become rc_60 (Nat.le_of_ble_eq_true rfl) h (fun _ σ19 h => ?_)
  refine hh_aload_n dX4_become_22 rfl ?_
  refine hh_getR dX4_become_23 kf_X4_26 rf_55_2 ?_
  refine hh_aload_n dX4_become_26 rfl ?_
  refine hh_getR dX4_become_27 kf_X4_26 rf_1_2 ?_
  refine hh_cV1 dX4_become_30 lk_X4_69 mo_X5_become rc_67 (Nat.le_of_ble_eq_true rfl) h (fun _ σ30 h => ?_)
  refine hh_aload_n dX4_become_33 rfl ?_
  refine hh_getR dX4_become_34 kf_X4_33 rf_55_3 ?_
  refine hh_aload_n dX4_become_37 rfl ?_
  refine hh_getR dX4_become_38 kf_X4_33 rf_1_3 ?_
  refine hh_cV1 dX4_become_41 lk_X4_72 mo_X3_become rc_78 (Nat.le_of_ble_eq_true rfl) h (fun _ σ41 h => ?_)
  refine hh_aload_n dX4_become_44 rfl ?_
  refine hh_getR dX4_become_45 kf_X4_40 rf_55_4 ?_
  refine hh_aload_n dX4_become_48 rfl ?_
  refine hh_getR dX4_become_49 kf_X4_40 rf_1_4 ?_
  refine hh_cV1 dX4_become_52 lk_X4_75 mo_X2_become rc_90 (Nat.le_of_ble_eq_true rfl) h (fun _ σ52 h => ?_)
  refine hh_aload_n dX4_become_55 rfl ?_
  refine hh_getR dX4_become_56 kf_X4_47 rf_55_5 ?_
  refine hh_aload_n dX4_become_59 rfl ?_
  refine hh_getR dX4_become_60 kf_X4_47 rf_1_5 ?_
  refine hh_cV1 dX4_become_63 lk_X4_78 mo_X0_become rc_96 (Nat.le_of_ble_eq_true rfl) h (fun _ σ63 h => ?_)
  refine hh_aload_n dX4_become_66 rfl ?_
  refine hh_getR dX4_become_67 kf_X4_54 rf_55_6 ?_
  refine hh_aload_n dX4_become_70 rfl ?_
  refine hh_getR dX4_become_71 kf_X4_54 rf_1_6 ?_
  refine hh_cV1 dX4_become_74 lk_X4_81 mo_X9_become rc_104 (Nat.le_of_ble_eq_true rfl) h (fun _ σ74 h => ?_)
  refine hh_aload_n dX4_become_77 rfl ?_
  refine hh_getR dX4_become_78 kf_X4_58 rf_1_7 ?_
  refine hh_aload_n dX4_become_81 rfl ?_
  refine hh_getR dX4_become_82 kf_X4_58 rf_55_7 ?_
  refine hh_cN2 dX4_become_85 lk_X4_84 mo_X11_takeOver (Nat.le_of_ble_eq_true rfl) h (fun _ σ85 h => ?_)
  refine hh_aload_n dX4_become_88 rfl ?_
  refine hh_aload_n dX4_become_89 rfl ?_
  refine hh_getI dX4_become_90 kf_X4_90 rf_1_8 rfl ?_
  refine hh_putI dX4_become_93 kp_X4_90 rf_55_8 ?_
  exact hh_vreturn dX4_become_96 rfl h
theorem wp_X4_become_i0 {d : Nat} {σ : hh_S} {Q : Int → hh_S → Prop} (h : hh_cs σ → P_X4_become_i0 d σ Q) : hh_Sp (d + 1) hm_X4_become [hh_R 55, hh_R 1] σ Q :=
  hh_entry rfl (Nat.le_of_ble_eq_true rfl) rfl (fun hs hc => w_X4_become_i0 (h hs))
def P_X0_become_i1 (d : Nat) (σ : hh_S) (Q : Int → hh_S → Prop) : Prop :=
  hh_Sp d hm_X11_takeOver [hh_R 97, hh_R 43] (hh_up σ 42 0 (σ 96 0)) (fun _ σ16 => hh_Sp d hm_X11_takeOver [hh_R 98, hh_R 44] σ16 (fun _ σ27 => hh_Sp d hm_X11_takeOver [hh_R 99, hh_R 45] σ27 (fun _ σ38 => hh_Sp d hm_X11_takeOver [hh_R 100, hh_R 46] σ38 (fun _ σ49 => hh_Sp d hm_X11_takeOver [hh_R 101, hh_R 47] σ49 (fun _ σ60 => hh_Sp d hm_X11_takeOver [hh_R 102, hh_R 48] σ60 (fun _ σ71 => hh_Sp d hm_X11_takeOver [hh_R 103, hh_R 49] σ71 (fun _ σ82 => Q 0 σ82)))))))
set_option maxRecDepth 20000 in
theorem w_X0_become_i1 {d : Nat} {σ : hh_S} {Q : Int → hh_S → Prop} (h : P_X0_become_i1 d σ Q) : hh_J (d + 1) hm_X0_become 0 [some (hh_R 42), some (hh_R 96)] [] σ Q := by
  unfold P_X0_become_i1 at h
  refine hh_aload_n dX0_become_0 rfl ?_
  refine hh_aload_n dX0_become_1 rfl ?_
  refine hh_getI dX0_become_2 kf_X0_33 rf_96_0 rfl ?_
  refine hh_putI dX0_become_5 kp_X0_33 rf_42_0 ?_
  refine hh_aload_n dX0_become_8 rfl ?_
  refine hh_getR dX0_become_9 kf_X0_9 rf_96_1 ?_
  refine hh_aload_n dX0_become_12 rfl ?_
  refine hh_getR dX0_become_13 kf_X0_9 rf_42_1 ?_
  refine hh_cN2 dX0_become_16 lk_X0_41 mo_X11_takeOver (Nat.le_of_ble_eq_true rfl) h (fun _ σ16 h => ?_)
  refine hh_aload_n dX0_become_19 rfl ?_
  refine hh_getR dX0_become_20 kf_X0_15 rf_96_2 ?_
  refine hh_aload_n dX0_become_23 rfl ?_
  refine hh_getR dX0_become_24 kf_X0_15 rf_42_2 ?_
  refine hh_cN2 dX0_become_27 lk_X0_41 mo_X11_takeOver (Nat.le_of_ble_eq_true rfl) h (fun _ σ27 h => ?_)
  refine hh_aload_n dX0_become_30 rfl ?_
  refine hh_getR dX0_become_31 kf_X0_18 rf_96_3 ?_
  refine hh_aload_n dX0_become_34 rfl ?_
  refine hh_getR dX0_become_35 kf_X0_18 rf_42_3 ?_
  refine hh_cN2 dX0_become_38 lk_X0_41 mo_X11_takeOver (Nat.le_of_ble_eq_true rfl) h (fun _ σ38 h => ?_)
  refine hh_aload_n dX0_become_41 rfl ?_
  refine hh_getR dX0_become_42 kf_X0_21 rf_96_4 ?_
  refine hh_aload_n dX0_become_45 rfl ?_
  refine hh_getR dX0_become_46 kf_X0_21 rf_42_4 ?_
  refine hh_cN2 dX0_become_49 lk_X0_41 mo_X11_takeOver (Nat.le_of_ble_eq_true rfl) h (fun _ σ49 h => ?_)
  refine hh_aload_n dX0_become_52 rfl ?_
  refine hh_getR dX0_become_53 kf_X0_24 rf_96_5 ?_
  refine hh_aload_n dX0_become_56 rfl ?_
  refine hh_getR dX0_become_57 kf_X0_24 rf_42_5 ?_
  refine hh_cN2 dX0_become_60 lk_X0_41 mo_X11_takeOver (Nat.le_of_ble_eq_true rfl) h (fun _ σ60 h => ?_)
  refine hh_aload_n dX0_become_63 rfl ?_
  refine hh_getR dX0_become_64 kf_X0_27 rf_96_6 ?_
  refine hh_aload_n dX0_become_67 rfl ?_
  refine hh_getR dX0_become_68 kf_X0_27 rf_42_6 ?_
  refine hh_cN2 dX0_become_71 lk_X0_41 mo_X11_takeOver (Nat.le_of_ble_eq_true rfl) h (fun _ σ71 h => ?_)
  refine hh_aload_n dX0_become_74 rfl ?_
  refine hh_getR dX0_become_75 kf_X0_30 rf_96_7 ?_
  refine hh_aload_n dX0_become_78 rfl ?_
  refine hh_getR dX0_become_79 kf_X0_30 rf_42_7 ?_
  refine hh_cN2 dX0_become_82 lk_X0_41 mo_X11_takeOver (Nat.le_of_ble_eq_true rfl) h (fun _ σ82 h => ?_)
  exact hh_vreturn dX0_become_85 rfl h
theorem wp_X0_become_i1 {d : Nat} {σ : hh_S} {Q : Int → hh_S → Prop} (h : hh_cs σ → P_X0_become_i1 d σ Q) : hh_Sp (d + 1) hm_X0_become [hh_R 42, hh_R 96] σ Q :=
  hh_entry rfl (Nat.le_of_ble_eq_true rfl) rfl (fun hs hc => w_X0_become_i1 (h hs))
def P_X1_become_i1 (d : Nat) (σ : hh_S) (Q : Int → hh_S → Prop) : Prop :=
  hh_Sp d hm_X11_takeOver [hh_R 61, hh_R 7] (hh_up σ 6 0 (σ 60 0)) (fun _ σ16 => hh_Sp d hm_X11_takeOver [hh_R 62, hh_R 8] σ16 (fun _ σ27 => hh_Sp d hm_X11_takeOver [hh_R 63, hh_R 9] σ27 (fun _ σ38 => hh_Sp d hm_X11_takeOver [hh_R 64, hh_R 10] σ38 (fun _ σ49 => hh_Sp d hm_X11_takeOver [hh_R 65, hh_R 11] σ49 (fun _ σ60 => hh_Sp d hm_X11_takeOver [hh_R 66, hh_R 12] σ60 (fun _ σ71 => Q 0 σ71))))))
set_option maxRecDepth 20000 in
theorem w_X1_become_i1 {d : Nat} {σ : hh_S} {Q : Int → hh_S → Prop} (h : P_X1_become_i1 d σ Q) : hh_J (d + 1) hm_X1_become 0 [some (hh_R 6), some (hh_R 60)] [] σ Q := by
  unfold P_X1_become_i1 at h
  refine hh_aload_n dX1_become_0 rfl ?_
  refine hh_aload_n dX1_become_1 rfl ?_
  refine hh_getI dX1_become_2 kf_X1_30 rf_60_0 rfl ?_
  refine hh_putI dX1_become_5 kp_X1_30 rf_6_0 ?_
  refine hh_aload_n dX1_become_8 rfl ?_
  refine hh_getR dX1_become_9 kf_X1_9 rf_60_1 ?_
  refine hh_aload_n dX1_become_12 rfl ?_
  refine hh_getR dX1_become_13 kf_X1_9 rf_6_1 ?_
  refine hh_cN2 dX1_become_16 lk_X1_38 mo_X11_takeOver (Nat.le_of_ble_eq_true rfl) h (fun _ σ16 h => ?_)
  refine hh_aload_n dX1_become_19 rfl ?_
  refine hh_getR dX1_become_20 kf_X1_15 rf_60_2 ?_
  refine hh_aload_n dX1_become_23 rfl ?_
  refine hh_getR dX1_become_24 kf_X1_15 rf_6_2 ?_
  refine hh_cN2 dX1_become_27 lk_X1_38 mo_X11_takeOver (Nat.le_of_ble_eq_true rfl) h (fun _ σ27 h => ?_)
  refine hh_aload_n dX1_become_30 rfl ?_
  refine hh_getR dX1_become_31 kf_X1_18 rf_60_3 ?_
  refine hh_aload_n dX1_become_34 rfl ?_
  refine hh_getR dX1_become_35 kf_X1_18 rf_6_3 ?_
  refine hh_cN2 dX1_become_38 lk_X1_38 mo_X11_takeOver (Nat.le_of_ble_eq_true rfl) h (fun _ σ38 h => ?_)
  refine hh_aload_n dX1_become_41 rfl ?_
  refine hh_getR dX1_become_42 kf_X1_21 rf_60_4 ?_
  refine hh_aload_n dX1_become_45 rfl ?_
  refine hh_getR dX1_become_46 kf_X1_21 rf_6_4 ?_
  refine hh_cN2 dX1_become_49 lk_X1_38 mo_X11_takeOver (Nat.le_of_ble_eq_true rfl) h (fun _ σ49 h => ?_)
  refine hh_aload_n dX1_become_52 rfl ?_
  refine hh_getR dX1_become_53 kf_X1_24 rf_60_5 ?_
  refine hh_aload_n dX1_become_56 rfl ?_
  refine hh_getR dX1_become_57 kf_X1_24 rf_6_5 ?_
  refine hh_cN2 dX1_become_60 lk_X1_38 mo_X11_takeOver (Nat.le_of_ble_eq_true rfl) h (fun _ σ60 h => ?_)
  refine hh_aload_n dX1_become_63 rfl ?_
  refine hh_getR dX1_become_64 kf_X1_27 rf_60_6 ?_
  refine hh_aload_n dX1_become_67 rfl ?_
  refine hh_getR dX1_become_68 kf_X1_27 rf_6_6 ?_
  refine hh_cN2 dX1_become_71 lk_X1_38 mo_X11_takeOver (Nat.le_of_ble_eq_true rfl) h (fun _ σ71 h => ?_)
  exact hh_vreturn dX1_become_74 rfl h
theorem wp_X1_become_i1 {d : Nat} {σ : hh_S} {Q : Int → hh_S → Prop} (h : hh_cs σ → P_X1_become_i1 d σ Q) : hh_Sp (d + 1) hm_X1_become [hh_R 6, hh_R 60] σ Q :=
  hh_entry rfl (Nat.le_of_ble_eq_true rfl) rfl (fun hs hc => w_X1_become_i1 (h hs))
def P_X2_become_i1 (d : Nat) (σ : hh_S) (Q : Int → hh_S → Prop) : Prop :=
  hh_Sp d hm_X11_takeOver [hh_R 91, hh_R 37] (hh_up σ 36 0 (σ 90 0)) (fun _ σ16 => hh_Sp d hm_X11_takeOver [hh_R 92, hh_R 38] σ16 (fun _ σ27 => hh_Sp d hm_X11_takeOver [hh_R 93, hh_R 39] σ27 (fun _ σ38 => hh_Sp d hm_X11_takeOver [hh_R 94, hh_R 40] σ38 (fun _ σ49 => hh_Sp d hm_X11_takeOver [hh_R 95, hh_R 41] σ49 (fun _ σ60 => Q 0 σ60)))))
set_option maxRecDepth 20000 in
theorem w_X2_become_i1 {d : Nat} {σ : hh_S} {Q : Int → hh_S → Prop} (h : P_X2_become_i1 d σ Q) : hh_J (d + 1) hm_X2_become 0 [some (hh_R 36), some (hh_R 90)] [] σ Q := by
  unfold P_X2_become_i1 at h
  refine hh_aload_n dX2_become_0 rfl ?_
  refine hh_aload_n dX2_become_1 rfl ?_
  refine hh_getI dX2_become_2 kf_X2_27 rf_90_0 rfl ?_
  refine hh_putI dX2_become_5 kp_X2_27 rf_36_0 ?_
  refine hh_aload_n dX2_become_8 rfl ?_
  refine hh_getR dX2_become_9 kf_X2_9 rf_90_1 ?_
  refine hh_aload_n dX2_become_12 rfl ?_
  refine hh_getR dX2_become_13 kf_X2_9 rf_36_1 ?_
  refine hh_cN2 dX2_become_16 lk_X2_31 mo_X11_takeOver (Nat.le_of_ble_eq_true rfl) h (fun _ σ16 h => ?_)
  refine hh_aload_n dX2_become_19 rfl ?_
  refine hh_getR dX2_become_20 kf_X2_15 rf_90_2 ?_
  refine hh_aload_n dX2_become_23 rfl ?_
  refine hh_getR dX2_become_24 kf_X2_15 rf_36_2 ?_
  refine hh_cN2 dX2_become_27 lk_X2_31 mo_X11_takeOver (Nat.le_of_ble_eq_true rfl) h (fun _ σ27 h => ?_)
  refine hh_aload_n dX2_become_30 rfl ?_
  refine hh_getR dX2_become_31 kf_X2_18 rf_90_3 ?_
  refine hh_aload_n dX2_become_34 rfl ?_
  refine hh_getR dX2_become_35 kf_X2_18 rf_36_3 ?_
  refine hh_cN2 dX2_become_38 lk_X2_31 mo_X11_takeOver (Nat.le_of_ble_eq_true rfl) h (fun _ σ38 h => ?_)
  refine hh_aload_n dX2_become_41 rfl ?_
  refine hh_getR dX2_become_42 kf_X2_21 rf_90_4 ?_
  refine hh_aload_n dX2_become_45 rfl ?_
  refine hh_getR dX2_become_46 kf_X2_21 rf_36_4 ?_
  refine hh_cN2 dX2_become_49 lk_X2_31 mo_X11_takeOver (Nat.le_of_ble_eq_true rfl) h (fun _ σ49 h => ?_)
  refine hh_aload_n dX2_become_52 rfl ?_
  refine hh_getR dX2_become_53 kf_X2_24 rf_90_5 ?_
  refine hh_aload_n dX2_become_56 rfl ?_
  refine hh_getR dX2_become_57 kf_X2_24 rf_36_5 ?_
  refine hh_cN2 dX2_become_60 lk_X2_31 mo_X11_takeOver (Nat.le_of_ble_eq_true rfl) h (fun _ σ60 h => ?_)
  exact hh_vreturn dX2_become_63 rfl h
theorem wp_X2_become_i1 {d : Nat} {σ : hh_S} {Q : Int → hh_S → Prop} (h : hh_cs σ → P_X2_become_i1 d σ Q) : hh_Sp (d + 1) hm_X2_become [hh_R 36, hh_R 90] σ Q :=
  hh_entry rfl (Nat.le_of_ble_eq_true rfl) rfl (fun hs hc => w_X2_become_i1 (h hs))
def P_X3_become_i1 (d : Nat) (σ : hh_S) (Q : Int → hh_S → Prop) : Prop :=
  hh_Sp d hm_X11_takeOver [hh_R 79, hh_R 25] (hh_up σ 24 0 (σ 78 0)) (fun _ σ16 => hh_Sp d hm_X11_takeOver [hh_R 80, hh_R 26] σ16 (fun _ σ27 => hh_Sp d hm_X11_takeOver [hh_R 81, hh_R 27] σ27 (fun _ σ38 => hh_Sp d hm_X11_takeOver [hh_R 82, hh_R 28] σ38 (fun _ σ49 => hh_Sp d hm_X11_takeOver [hh_R 83, hh_R 29] σ49 (fun _ σ60 => hh_Sp d hm_X11_takeOver [hh_R 84, hh_R 30] σ60 (fun _ σ71 => hh_Sp d hm_X11_takeOver [hh_R 85, hh_R 31] σ71 (fun _ σ82 => hh_Sp d hm_X11_takeOver [hh_R 86, hh_R 32] σ82 (fun _ σ93 => hh_Sp d hm_X11_takeOver [hh_R 87, hh_R 33] σ93 (fun _ σ104 => hh_Sp d hm_X11_takeOver [hh_R 88, hh_R 34] σ104 (fun _ σ115 => hh_Sp d hm_X11_takeOver [hh_R 89, hh_R 35] σ115 (fun _ σ126 => Q 0 σ126)))))))))))
set_option maxRecDepth 20000 in
theorem w_X3_become_i1 {d : Nat} {σ : hh_S} {Q : Int → hh_S → Prop} (h : P_X3_become_i1 d σ Q) : hh_J (d + 1) hm_X3_become 0 [some (hh_R 24), some (hh_R 78)] [] σ Q := by
  unfold P_X3_become_i1 at h
  refine hh_aload_n dX3_become_0 rfl ?_
  refine hh_aload_n dX3_become_1 rfl ?_
  refine hh_getI dX3_become_2 kf_X3_45 rf_78_0 rfl ?_
  refine hh_putI dX3_become_5 kp_X3_45 rf_24_0 ?_
  refine hh_aload_n dX3_become_8 rfl ?_
  refine hh_getR dX3_become_9 kf_X3_9 rf_78_1 ?_
  refine hh_aload_n dX3_become_12 rfl ?_
  refine hh_getR dX3_become_13 kf_X3_9 rf_24_1 ?_
  refine hh_cN2 dX3_become_16 lk_X3_58 mo_X11_takeOver (Nat.le_of_ble_eq_true rfl) h (fun _ σ16 h => ?_)
  refine hh_aload_n dX3_become_19 rfl ?_
  refine hh_getR dX3_become_20 kf_X3_15 rf_78_2 ?_
  refine hh_aload_n dX3_become_23 rfl ?_
  refine hh_getR dX3_become_24 kf_X3_15 rf_24_2 ?_
  refine hh_cN2 dX3_become_27 lk_X3_58 mo_X11_takeOver (Nat.le_of_ble_eq_true rfl) h (fun _ σ27 h => ?_)
  refine hh_aload_n dX3_become_30 rfl ?_
  refine hh_getR dX3_become_31 kf_X3_18 rf_78_3 ?_
  refine hh_aload_n dX3_become_34 rfl ?_
  refine hh_getR dX3_become_35 kf_X3_18 rf_24_3 ?_
  refine hh_cN2 dX3_become_38 lk_X3_58 mo_X11_takeOver (Nat.le_of_ble_eq_true rfl) h (fun _ σ38 h => ?_)
  refine hh_aload_n dX3_become_41 rfl ?_
  refine hh_getR dX3_become_42 kf_X3_21 rf_78_4 ?_
  refine hh_aload_n dX3_become_45 rfl ?_
  refine hh_getR dX3_become_46 kf_X3_21 rf_24_4 ?_
  refine hh_cN2 dX3_become_49 lk_X3_58 mo_X11_takeOver (Nat.le_of_ble_eq_true rfl) h (fun _ σ49 h => ?_)
  refine hh_aload_n dX3_become_52 rfl ?_
  refine hh_getR dX3_become_53 kf_X3_24 rf_78_5 ?_
  refine hh_aload_n dX3_become_56 rfl ?_
  refine hh_getR dX3_become_57 kf_X3_24 rf_24_5 ?_
  refine hh_cN2 dX3_become_60 lk_X3_58 mo_X11_takeOver (Nat.le_of_ble_eq_true rfl) h (fun _ σ60 h => ?_)
  refine hh_aload_n dX3_become_63 rfl ?_
  refine hh_getR dX3_become_64 kf_X3_27 rf_78_6 ?_
  refine hh_aload_n dX3_become_67 rfl ?_
  refine hh_getR dX3_become_68 kf_X3_27 rf_24_6 ?_
  refine hh_cN2 dX3_become_71 lk_X3_58 mo_X11_takeOver (Nat.le_of_ble_eq_true rfl) h (fun _ σ71 h => ?_)
  refine hh_aload_n dX3_become_74 rfl ?_
  refine hh_getR dX3_become_75 kf_X3_30 rf_78_7 ?_
  refine hh_aload_n dX3_become_78 rfl ?_
  refine hh_getR dX3_become_79 kf_X3_30 rf_24_7 ?_
  refine hh_cN2 dX3_become_82 lk_X3_58 mo_X11_takeOver (Nat.le_of_ble_eq_true rfl) h (fun _ σ82 h => ?_)
  refine hh_aload_n dX3_become_85 rfl ?_
  refine hh_getR dX3_become_86 kf_X3_33 rf_78_8 ?_
  refine hh_aload_n dX3_become_89 rfl ?_
  refine hh_getR dX3_become_90 kf_X3_33 rf_24_8 ?_
  refine hh_cN2 dX3_become_93 lk_X3_58 mo_X11_takeOver (Nat.le_of_ble_eq_true rfl) h (fun _ σ93 h => ?_)
  refine hh_aload_n dX3_become_96 rfl ?_
  refine hh_getR dX3_become_97 kf_X3_36 rf_78_9 ?_
  refine hh_aload_n dX3_become_100 rfl ?_
  refine hh_getR dX3_become_101 kf_X3_36 rf_24_9 ?_
  refine hh_cN2 dX3_become_104 lk_X3_58 mo_X11_takeOver (Nat.le_of_ble_eq_true rfl) h (fun _ σ104 h => ?_)
  refine hh_aload_n dX3_become_107 rfl ?_
  refine hh_getR dX3_become_108 kf_X3_39 rf_78_10 ?_
  refine hh_aload_n dX3_become_111 rfl ?_
  refine hh_getR dX3_become_112 kf_X3_39 rf_24_10 ?_
  refine hh_cN2 dX3_become_115 lk_X3_58 mo_X11_takeOver (Nat.le_of_ble_eq_true rfl) h (fun _ σ115 h => ?_)
  refine hh_aload_n dX3_become_118 rfl ?_
  refine hh_getR dX3_become_119 kf_X3_42 rf_78_11 ?_
  refine hh_aload_n dX3_become_122 rfl ?_
  refine hh_getR dX3_become_123 kf_X3_42 rf_24_11 ?_
  refine hh_cN2 dX3_become_126 lk_X3_58 mo_X11_takeOver (Nat.le_of_ble_eq_true rfl) h (fun _ σ126 h => ?_)
  exact hh_vreturn dX3_become_129 rfl h
theorem wp_X3_become_i1 {d : Nat} {σ : hh_S} {Q : Int → hh_S → Prop} (h : hh_cs σ → P_X3_become_i1 d σ Q) : hh_Sp (d + 1) hm_X3_become [hh_R 24, hh_R 78] σ Q :=
  hh_entry rfl (Nat.le_of_ble_eq_true rfl) rfl (fun hs hc => w_X3_become_i1 (h hs))
def P_X5_become_i1 (d : Nat) (σ : hh_S) (Q : Int → hh_S → Prop) : Prop :=
  hh_Sp d hm_X11_takeOver [hh_R 68, hh_R 14] (hh_up σ 13 0 (σ 67 0)) (fun _ σ16 => hh_Sp d hm_X11_takeOver [hh_R 69, hh_R 15] σ16 (fun _ σ27 => hh_Sp d hm_X11_takeOver [hh_R 70, hh_R 16] σ27 (fun _ σ38 => hh_Sp d hm_X11_takeOver [hh_R 71, hh_R 17] σ38 (fun _ σ49 => hh_Sp d hm_X11_takeOver [hh_R 72, hh_R 18] σ49 (fun _ σ60 => hh_Sp d hm_X11_takeOver [hh_R 73, hh_R 19] σ60 (fun _ σ71 => hh_Sp d hm_X11_takeOver [hh_R 74, hh_R 20] σ71 (fun _ σ82 => hh_Sp d hm_X11_takeOver [hh_R 75, hh_R 21] σ82 (fun _ σ93 => hh_Sp d hm_X11_takeOver [hh_R 76, hh_R 22] σ93 (fun _ σ104 => hh_Sp d hm_X11_takeOver [hh_R 77, hh_R 23] σ104 (fun _ σ115 => Q 0 σ115))))))))))
set_option maxRecDepth 20000 in
theorem w_X5_become_i1 {d : Nat} {σ : hh_S} {Q : Int → hh_S → Prop} (h : P_X5_become_i1 d σ Q) : hh_J (d + 1) hm_X5_become 0 [some (hh_R 13), some (hh_R 67)] [] σ Q := by
  unfold P_X5_become_i1 at h
  refine hh_aload_n dX5_become_0 rfl ?_
  refine hh_aload_n dX5_become_1 rfl ?_
  refine hh_getI dX5_become_2 kf_X5_42 rf_67_0 rfl ?_
  refine hh_putI dX5_become_5 kp_X5_42 rf_13_0 ?_
  refine hh_aload_n dX5_become_8 rfl ?_
  refine hh_getR dX5_become_9 kf_X5_9 rf_67_1 ?_
  refine hh_aload_n dX5_become_12 rfl ?_
  refine hh_getR dX5_become_13 kf_X5_9 rf_13_1 ?_
  refine hh_cN2 dX5_become_16 lk_X5_60 mo_X11_takeOver (Nat.le_of_ble_eq_true rfl) h (fun _ σ16 h => ?_)
  refine hh_aload_n dX5_become_19 rfl ?_
  refine hh_getR dX5_become_20 kf_X5_15 rf_67_2 ?_
  refine hh_aload_n dX5_become_23 rfl ?_
  refine hh_getR dX5_become_24 kf_X5_15 rf_13_2 ?_
  refine hh_cN2 dX5_become_27 lk_X5_60 mo_X11_takeOver (Nat.le_of_ble_eq_true rfl) h (fun _ σ27 h => ?_)
  refine hh_aload_n dX5_become_30 rfl ?_
  refine hh_getR dX5_become_31 kf_X5_18 rf_67_3 ?_
  refine hh_aload_n dX5_become_34 rfl ?_
  refine hh_getR dX5_become_35 kf_X5_18 rf_13_3 ?_
  refine hh_cN2 dX5_become_38 lk_X5_60 mo_X11_takeOver (Nat.le_of_ble_eq_true rfl) h (fun _ σ38 h => ?_)
  refine hh_aload_n dX5_become_41 rfl ?_
  refine hh_getR dX5_become_42 kf_X5_21 rf_67_4 ?_
  refine hh_aload_n dX5_become_45 rfl ?_
  refine hh_getR dX5_become_46 kf_X5_21 rf_13_4 ?_
  refine hh_cN2 dX5_become_49 lk_X5_60 mo_X11_takeOver (Nat.le_of_ble_eq_true rfl) h (fun _ σ49 h => ?_)
  refine hh_aload_n dX5_become_52 rfl ?_
  refine hh_getR dX5_become_53 kf_X5_24 rf_67_5 ?_
  refine hh_aload_n dX5_become_56 rfl ?_
  refine hh_getR dX5_become_57 kf_X5_24 rf_13_5 ?_
  refine hh_cN2 dX5_become_60 lk_X5_60 mo_X11_takeOver (Nat.le_of_ble_eq_true rfl) h (fun _ σ60 h => ?_)
  refine hh_aload_n dX5_become_63 rfl ?_
  refine hh_getR dX5_become_64 kf_X5_27 rf_67_6 ?_
  refine hh_aload_n dX5_become_67 rfl ?_
  refine hh_getR dX5_become_68 kf_X5_27 rf_13_6 ?_
  refine hh_cN2 dX5_become_71 lk_X5_60 mo_X11_takeOver (Nat.le_of_ble_eq_true rfl) h (fun _ σ71 h => ?_)
  refine hh_aload_n dX5_become_74 rfl ?_
  refine hh_getR dX5_become_75 kf_X5_30 rf_67_7 ?_
  refine hh_aload_n dX5_become_78 rfl ?_
  refine hh_getR dX5_become_79 kf_X5_30 rf_13_7 ?_
  refine hh_cN2 dX5_become_82 lk_X5_60 mo_X11_takeOver (Nat.le_of_ble_eq_true rfl) h (fun _ σ82 h => ?_)
  refine hh_aload_n dX5_become_85 rfl ?_
  refine hh_getR dX5_become_86 kf_X5_33 rf_67_8 ?_
  refine hh_aload_n dX5_become_89 rfl ?_
  refine hh_getR dX5_become_90 kf_X5_33 rf_13_8 ?_
  refine hh_cN2 dX5_become_93 lk_X5_60 mo_X11_takeOver (Nat.le_of_ble_eq_true rfl) h (fun _ σ93 h => ?_)
  refine hh_aload_n dX5_become_96 rfl ?_
  refine hh_getR dX5_become_97 kf_X5_36 rf_67_9 ?_
  refine hh_aload_n dX5_become_100 rfl ?_
  refine hh_getR dX5_become_101 kf_X5_36 rf_13_9 ?_
  refine hh_cN2 dX5_become_104 lk_X5_60 mo_X11_takeOver (Nat.le_of_ble_eq_true rfl) h (fun _ σ104 h => ?_)
  refine hh_aload_n dX5_become_107 rfl ?_
  refine hh_getR dX5_become_108 kf_X5_39 rf_67_10 ?_
  refine hh_aload_n dX5_become_111 rfl ?_
  refine hh_getR dX5_become_112 kf_X5_39 rf_13_10 ?_
  refine hh_cN2 dX5_become_115 lk_X5_60 mo_X11_takeOver (Nat.le_of_ble_eq_true rfl) h (fun _ σ115 h => ?_)
  exact hh_vreturn dX5_become_118 rfl h
theorem wp_X5_become_i1 {d : Nat} {σ : hh_S} {Q : Int → hh_S → Prop} (h : hh_cs σ → P_X5_become_i1 d σ Q) : hh_Sp (d + 1) hm_X5_become [hh_R 13, hh_R 67] σ Q :=
  hh_entry rfl (Nat.le_of_ble_eq_true rfl) rfl (fun hs hc => w_X5_become_i1 (h hs))
def P_X6_become_i1 (d : Nat) (σ : hh_S) (Q : Int → hh_S → Prop) : Prop :=
  hh_Sp d hm_X11_takeOver [hh_R 57, hh_R 3] (hh_up σ 2 0 (σ 56 0)) (fun _ σ16 => hh_Sp d hm_X11_takeOver [hh_R 58, hh_R 4] σ16 (fun _ σ27 => hh_Sp d hm_X11_takeOver [hh_R 59, hh_R 5] σ27 (fun _ σ38 => Q 0 σ38)))
set_option maxRecDepth 20000 in
theorem w_X6_become_i1 {d : Nat} {σ : hh_S} {Q : Int → hh_S → Prop} (h : P_X6_become_i1 d σ Q) : hh_J (d + 1) hm_X6_become 0 [some (hh_R 2), some (hh_R 56)] [] σ Q := by
  unfold P_X6_become_i1 at h
  refine hh_aload_n dX6_become_0 rfl ?_
  refine hh_aload_n dX6_become_1 rfl ?_
  refine hh_getI dX6_become_2 kf_X6_21 rf_56_0 rfl ?_
  refine hh_putI dX6_become_5 kp_X6_21 rf_2_0 ?_
  refine hh_aload_n dX6_become_8 rfl ?_
  refine hh_getR dX6_become_9 kf_X6_9 rf_56_1 ?_
  refine hh_aload_n dX6_become_12 rfl ?_
  refine hh_getR dX6_become_13 kf_X6_9 rf_2_1 ?_
  refine hh_cN2 dX6_become_16 lk_X6_29 mo_X11_takeOver (Nat.le_of_ble_eq_true rfl) h (fun _ σ16 h => ?_)
  refine hh_aload_n dX6_become_19 rfl ?_
  refine hh_getR dX6_become_20 kf_X6_15 rf_56_2 ?_
  refine hh_aload_n dX6_become_23 rfl ?_
  refine hh_getR dX6_become_24 kf_X6_15 rf_2_2 ?_
  refine hh_cN2 dX6_become_27 lk_X6_29 mo_X11_takeOver (Nat.le_of_ble_eq_true rfl) h (fun _ σ27 h => ?_)
  refine hh_aload_n dX6_become_30 rfl ?_
  refine hh_getR dX6_become_31 kf_X6_18 rf_56_3 ?_
  refine hh_aload_n dX6_become_34 rfl ?_
  refine hh_getR dX6_become_35 kf_X6_18 rf_2_3 ?_
  refine hh_cN2 dX6_become_38 lk_X6_29 mo_X11_takeOver (Nat.le_of_ble_eq_true rfl) h (fun _ σ38 h => ?_)
  exact hh_vreturn dX6_become_41 rfl h
theorem wp_X6_become_i1 {d : Nat} {σ : hh_S} {Q : Int → hh_S → Prop} (h : hh_cs σ → P_X6_become_i1 d σ Q) : hh_Sp (d + 1) hm_X6_become [hh_R 2, hh_R 56] σ Q :=
  hh_entry rfl (Nat.le_of_ble_eq_true rfl) rfl (fun hs hc => w_X6_become_i1 (h hs))
def P_X9_become_i1 (d : Nat) (σ : hh_S) (Q : Int → hh_S → Prop) : Prop :=
  hh_Sp d hm_X11_takeOver [hh_R 105, hh_R 51] (hh_up σ 50 0 (σ 104 0)) (fun _ σ16 => hh_Sp d hm_X11_takeOver [hh_R 106, hh_R 52] σ16 (fun _ σ27 => hh_Sp d hm_X11_takeOver [hh_R 107, hh_R 53] σ27 (fun _ σ38 => Q 0 σ38)))
set_option maxRecDepth 20000 in
theorem w_X9_become_i1 {d : Nat} {σ : hh_S} {Q : Int → hh_S → Prop} (h : P_X9_become_i1 d σ Q) : hh_J (d + 1) hm_X9_become 0 [some (hh_R 50), some (hh_R 104)] [] σ Q := by
  unfold P_X9_become_i1 at h
  refine hh_aload_n dX9_become_0 rfl ?_
  refine hh_aload_n dX9_become_1 rfl ?_
  refine hh_getI dX9_become_2 kf_X9_21 rf_104_0 rfl ?_
  refine hh_putI dX9_become_5 kp_X9_21 rf_50_0 ?_
  refine hh_aload_n dX9_become_8 rfl ?_
  refine hh_getR dX9_become_9 kf_X9_9 rf_104_1 ?_
  refine hh_aload_n dX9_become_12 rfl ?_
  refine hh_getR dX9_become_13 kf_X9_9 rf_50_1 ?_
  refine hh_cN2 dX9_become_16 lk_X9_25 mo_X11_takeOver (Nat.le_of_ble_eq_true rfl) h (fun _ σ16 h => ?_)
  refine hh_aload_n dX9_become_19 rfl ?_
  refine hh_getR dX9_become_20 kf_X9_15 rf_104_2 ?_
  refine hh_aload_n dX9_become_23 rfl ?_
  refine hh_getR dX9_become_24 kf_X9_15 rf_50_2 ?_
  refine hh_cN2 dX9_become_27 lk_X9_25 mo_X11_takeOver (Nat.le_of_ble_eq_true rfl) h (fun _ σ27 h => ?_)
  refine hh_aload_n dX9_become_30 rfl ?_
  refine hh_getR dX9_become_31 kf_X9_18 rf_104_3 ?_
  refine hh_aload_n dX9_become_34 rfl ?_
  refine hh_getR dX9_become_35 kf_X9_18 rf_50_3 ?_
  refine hh_cN2 dX9_become_38 lk_X9_25 mo_X11_takeOver (Nat.le_of_ble_eq_true rfl) h (fun _ σ38 h => ?_)
  exact hh_vreturn dX9_become_41 rfl h
theorem wp_X9_become_i1 {d : Nat} {σ : hh_S} {Q : Int → hh_S → Prop} (h : hh_cs σ → P_X9_become_i1 d σ Q) : hh_Sp (d + 1) hm_X9_become [hh_R 50, hh_R 104] σ Q :=
  hh_entry rfl (Nat.le_of_ble_eq_true rfl) rfl (fun hs hc => w_X9_become_i1 (h hs))
def P_X4_become_i1 (d : Nat) (σ : hh_S) (Q : Int → hh_S → Prop) : Prop :=
  hh_Sp d hm_X6_become [hh_R 2, hh_R 56] σ (fun _ σ8 => hh_Sp d hm_X1_become [hh_R 6, hh_R 60] σ8 (fun _ σ19 => hh_Sp d hm_X5_become [hh_R 13, hh_R 67] σ19 (fun _ σ30 => hh_Sp d hm_X3_become [hh_R 24, hh_R 78] σ30 (fun _ σ41 => hh_Sp d hm_X2_become [hh_R 36, hh_R 90] σ41 (fun _ σ52 => hh_Sp d hm_X0_become [hh_R 42, hh_R 96] σ52 (fun _ σ63 => hh_Sp d hm_X9_become [hh_R 50, hh_R 104] σ63 (fun _ σ74 => hh_Sp d hm_X11_takeOver [hh_R 108, hh_R 54] σ74 (fun _ σ85 => Q 0 (hh_up σ85 1 8 (σ85 55 8))))))))))
set_option maxRecDepth 20000 in
theorem w_X4_become_i1 {d : Nat} {σ : hh_S} {Q : Int → hh_S → Prop} (h : P_X4_become_i1 d σ Q) : hh_J (d + 1) hm_X4_become 0 [some (hh_R 1), some (hh_R 55)] [] σ Q := by
  unfold P_X4_become_i1 at h
  refine hh_aload_n dX4_become_0 rfl ?_
  refine hh_getR dX4_become_1 kf_X4_10 rf_1_0 ?_
  refine hh_aload_n dX4_become_4 rfl ?_
  refine hh_getR dX4_become_5 kf_X4_10 rf_55_0 ?_
  refine hh_cV1 dX4_become_8 lk_X4_62 mo_X6_become rc_2 (Nat.le_of_ble_eq_true rfl) h (fun _ σ8 h => ?_)
  refine hh_aload_n dX4_become_11 rfl ?_
  refine hh_getR dX4_become_12 kf_X4_19 rf_1_1 ?_
  refine hh_aload_n dX4_become_15 rfl ?_
  refine hh_getR dX4_become_16 kf_X4_19 rf_55_1 ?_
  refine hh_cV1 dX4_become_19 lk_X4_66 mo_X1_become rc_6 (Nat.le_of_ble_eq_true rfl) h (fun _ σ19 h => ?_)
  refine hh_aload_n dX4_become_22 rfl ?_
  refine hh_getR dX4_become_23 kf_X4_26 rf_1_2 ?_
  refine hh_aload_n dX4_become_26 rfl ?_
  refine hh_getR dX4_become_27 kf_X4_26 rf_55_2 ?_
  refine hh_cV1 dX4_become_30 lk_X4_69 mo_X5_become rc_13 (Nat.le_of_ble_eq_true rfl) h (fun _ σ30 h => ?_)
  refine hh_aload_n dX4_become_33 rfl ?_
  refine hh_getR dX4_become_34 kf_X4_33 rf_1_3 ?_
  refine hh_aload_n dX4_become_37 rfl ?_
  refine hh_getR dX4_become_38 kf_X4_33 rf_55_3 ?_
  refine hh_cV1 dX4_become_41 lk_X4_72 mo_X3_become rc_24 (Nat.le_of_ble_eq_true rfl) h (fun _ σ41 h => ?_)
  refine hh_aload_n dX4_become_44 rfl ?_
  refine hh_getR dX4_become_45 kf_X4_40 rf_1_4 ?_
  refine hh_aload_n dX4_become_48 rfl ?_
  refine hh_getR dX4_become_49 kf_X4_40 rf_55_4 ?_
  refine hh_cV1 dX4_become_52 lk_X4_75 mo_X2_become rc_36 (Nat.le_of_ble_eq_true rfl) h (fun _ σ52 h => ?_)
  refine hh_aload_n dX4_become_55 rfl ?_
  refine hh_getR dX4_become_56 kf_X4_47 rf_1_5 ?_
  refine hh_aload_n dX4_become_59 rfl ?_
  refine hh_getR dX4_become_60 kf_X4_47 rf_55_5 ?_
  refine hh_cV1 dX4_become_63 lk_X4_78 mo_X0_become rc_42 (Nat.le_of_ble_eq_true rfl) h (fun _ σ63 h => ?_)
  refine hh_aload_n dX4_become_66 rfl ?_
  refine hh_getR dX4_become_67 kf_X4_54 rf_1_6 ?_
  refine hh_aload_n dX4_become_70 rfl ?_
  refine hh_getR dX4_become_71 kf_X4_54 rf_55_6 ?_
  refine hh_cV1 dX4_become_74 lk_X4_81 mo_X9_become rc_50 (Nat.le_of_ble_eq_true rfl) h (fun _ σ74 h => ?_)
  refine hh_aload_n dX4_become_77 rfl ?_
  refine hh_getR dX4_become_78 kf_X4_58 rf_55_7 ?_
  refine hh_aload_n dX4_become_81 rfl ?_
  refine hh_getR dX4_become_82 kf_X4_58 rf_1_7 ?_
  refine hh_cN2 dX4_become_85 lk_X4_84 mo_X11_takeOver (Nat.le_of_ble_eq_true rfl) h (fun _ σ85 h => ?_)
  refine hh_aload_n dX4_become_88 rfl ?_
  refine hh_aload_n dX4_become_89 rfl ?_
  refine hh_getI dX4_become_90 kf_X4_90 rf_55_8 rfl ?_
  refine hh_putI dX4_become_93 kp_X4_90 rf_1_8 ?_
  exact hh_vreturn dX4_become_96 rfl h
theorem wp_X4_become_i1 {d : Nat} {σ : hh_S} {Q : Int → hh_S → Prop} (h : hh_cs σ → P_X4_become_i1 d σ Q) : hh_Sp (d + 1) hm_X4_become [hh_R 1, hh_R 55] σ Q :=
  hh_entry rfl (Nat.le_of_ble_eq_true rfl) rfl (fun hs hc => w_X4_become_i1 (h hs))
