def B_J7_fill_53178_i0_5 (d : Nat) (Q : Int → hh_S → Prop) (k5 : Int → Int → Int → hh_S → Prop) (x1 x2 x3 : Int) (σ : hh_S) : Prop :=
  (x3 ≤ x2 → Q 0 σ) ∧ (¬ x3 ≤ x2 → ((0 ≤ x2 ∧ x2 < 240) ∧ (-2147483648 ≤ x2 + 1 ∧ x2 + 1 ≤ 2147483647)) ∧ (k5 x1 (x2 + 1) x3 (hh_up σ 125 x2 x1)))
def P_J7_fill_53178_i0 (d : Nat) (a1 : Int) (σ : hh_S) (Q : Int → hh_S → Prop) : Prop :=
  ∃ n, hh_lp3 (B_J7_fill_53178_i0_5 d Q) n a1 0 240 σ
set_option maxRecDepth 20000 in
theorem w_J7_fill_53178_i0_5 {d : Nat} {Q : Int → hh_S → Prop} {k5 : Int → Int → Int → hh_S → Prop} (hk5 : ∀ (x1 x2 x3 : Int) (σ : hh_S), k5 x1 x2 x3 σ → hh_J (d + 1) hm_J7_fill_53178 5 [some (hh_R 125), some (hh_I x1), some (hh_I x2), some (hh_I x3)] [] σ Q) (x1 x2 x3 : Int) (σ : hh_S) (h : B_J7_fill_53178_i0_5 d Q k5 x1 x2 x3 σ) : hh_J (d + 1) hm_J7_fill_53178 5 [some (hh_R 125), some (hh_I x1), some (hh_I x2), some (hh_I x3)] [] σ Q := by
  unfold B_J7_fill_53178_i0_5 at h
  refine hh_iload_n dJ7_fill_53178_5 rfl ?_
  refine hh_iload_n dJ7_fill_53178_6 rfl ?_
  refine hh_icmp_ge (tgt := 20) dJ7_fill_53178_7 (by decide) (fun c => ?_) (fun c => ?_)
  · replace h := h.1 c
    exact hh_vreturn dJ7_fill_53178_20 rfl h
  · replace h := h.2 c
    obtain ⟨⟨q1, q2⟩, h⟩ := h
    refine hh_aload_n dJ7_fill_53178_10 rfl ?_
    refine hh_iload_n dJ7_fill_53178_11 rfl ?_
    refine hh_iload_n dJ7_fill_53178_12 rfl ?_
    refine hh_iast dJ7_fill_53178_13 ra_125 q1 ?_
    refine hh_iinc dJ7_fill_53178_14 (by decide) rfl rfl q2 ?_
    refine hh_goto (tgt := 5) dJ7_fill_53178_17 (by decide) ?_
    exact hh_forget [true, true, true, true] (hk5 _ _ _ _ h)
theorem l_J7_fill_53178_i0_5 {d : Nat} {Q : Int → hh_S → Prop} : ∀ (n : Nat) (x1 x2 x3 : Int) (σ : hh_S), hh_lp3 (B_J7_fill_53178_i0_5 d Q) n x1 x2 x3 σ → hh_J (d + 1) hm_J7_fill_53178 5 [some (hh_R 125), some (hh_I x1), some (hh_I x2), some (hh_I x3)] [] σ Q := by
  intro n
  induction n with
  | zero => intro _ _ _ _ h; exact h.elim
  | succ n ih => intro x1 x2 x3 σ h; exact w_J7_fill_53178_i0_5 ih x1 x2 x3 σ h
set_option maxRecDepth 20000 in
theorem w_J7_fill_53178_i0 {d : Nat} {a1 : Int} {σ : hh_S} {Q : Int → hh_S → Prop} (h : P_J7_fill_53178_i0 d a1 σ Q) : hh_J (d + 1) hm_J7_fill_53178 0 [some (hh_R 125), some (hh_I a1), none, none] [] σ Q := by
  unfold P_J7_fill_53178_i0 at h
  refine hh_iconst dJ7_fill_53178_0 (by decide) ?_
  refine hh_istore_n dJ7_fill_53178_1 (by decide) rfl ?_
  refine hh_aload_n dJ7_fill_53178_2 rfl ?_
  refine hh_alen dJ7_fill_53178_3 ra_125 (by decide) ?_
  refine hh_istore_n dJ7_fill_53178_4 (by decide) rfl ?_
  obtain ⟨n, h⟩ := h
  exact hh_forget [true, true, true, true] (l_J7_fill_53178_i0_5 n _ _ _ _ h)
theorem wp_J7_fill_53178_i0 {d : Nat} (a1 : Int) {σ : hh_S} {Q : Int → hh_S → Prop} (h : hh_cs σ → hh_can a1 → P_J7_fill_53178_i0 d a1 σ Q) : hh_Sp (d + 1) hm_J7_fill_53178 [hh_R 125, hh_I a1] σ Q :=
  hh_entry rfl (Nat.le_of_ble_eq_true rfl) rfl (fun hs hc => w_J7_fill_53178_i0 (h hs (hc _ (List.mem_of_getElem? (i := 1) rfl))))
def B_J7_fill_53178_i1_5 (d : Nat) (Q : Int → hh_S → Prop) (k5 : Int → Int → Int → hh_S → Prop) (x1 x2 x3 : Int) (σ : hh_S) : Prop :=
  (x3 ≤ x2 → Q 0 σ) ∧ (¬ x3 ≤ x2 → ((0 ≤ x2 ∧ x2 < 240) ∧ (-2147483648 ≤ x2 + 1 ∧ x2 + 1 ≤ 2147483647)) ∧ (k5 x1 (x2 + 1) x3 (hh_up σ 126 x2 x1)))
def P_J7_fill_53178_i1 (d : Nat) (a1 : Int) (σ : hh_S) (Q : Int → hh_S → Prop) : Prop :=
  ∃ n, hh_lp3 (B_J7_fill_53178_i1_5 d Q) n a1 0 240 σ
set_option maxRecDepth 20000 in
theorem w_J7_fill_53178_i1_5 {d : Nat} {Q : Int → hh_S → Prop} {k5 : Int → Int → Int → hh_S → Prop} (hk5 : ∀ (x1 x2 x3 : Int) (σ : hh_S), k5 x1 x2 x3 σ → hh_J (d + 1) hm_J7_fill_53178 5 [some (hh_R 126), some (hh_I x1), some (hh_I x2), some (hh_I x3)] [] σ Q) (x1 x2 x3 : Int) (σ : hh_S) (h : B_J7_fill_53178_i1_5 d Q k5 x1 x2 x3 σ) : hh_J (d + 1) hm_J7_fill_53178 5 [some (hh_R 126), some (hh_I x1), some (hh_I x2), some (hh_I x3)] [] σ Q := by
  unfold B_J7_fill_53178_i1_5 at h
  refine hh_iload_n dJ7_fill_53178_5 rfl ?_
  refine hh_iload_n dJ7_fill_53178_6 rfl ?_
  refine hh_icmp_ge (tgt := 20) dJ7_fill_53178_7 (by decide) (fun c => ?_) (fun c => ?_)
  · replace h := h.1 c
    exact hh_vreturn dJ7_fill_53178_20 rfl h
  · replace h := h.2 c
    obtain ⟨⟨q1, q2⟩, h⟩ := h
    refine hh_aload_n dJ7_fill_53178_10 rfl ?_
    refine hh_iload_n dJ7_fill_53178_11 rfl ?_
    refine hh_iload_n dJ7_fill_53178_12 rfl ?_
    refine hh_iast dJ7_fill_53178_13 ra_126 q1 ?_
    refine hh_iinc dJ7_fill_53178_14 (by decide) rfl rfl q2 ?_
    refine hh_goto (tgt := 5) dJ7_fill_53178_17 (by decide) ?_
    exact hh_forget [true, true, true, true] (hk5 _ _ _ _ h)
theorem l_J7_fill_53178_i1_5 {d : Nat} {Q : Int → hh_S → Prop} : ∀ (n : Nat) (x1 x2 x3 : Int) (σ : hh_S), hh_lp3 (B_J7_fill_53178_i1_5 d Q) n x1 x2 x3 σ → hh_J (d + 1) hm_J7_fill_53178 5 [some (hh_R 126), some (hh_I x1), some (hh_I x2), some (hh_I x3)] [] σ Q := by
  intro n
  induction n with
  | zero => intro _ _ _ _ h; exact h.elim
  | succ n ih => intro x1 x2 x3 σ h; exact w_J7_fill_53178_i1_5 ih x1 x2 x3 σ h
set_option maxRecDepth 20000 in
theorem w_J7_fill_53178_i1 {d : Nat} {a1 : Int} {σ : hh_S} {Q : Int → hh_S → Prop} (h : P_J7_fill_53178_i1 d a1 σ Q) : hh_J (d + 1) hm_J7_fill_53178 0 [some (hh_R 126), some (hh_I a1), none, none] [] σ Q := by
  unfold P_J7_fill_53178_i1 at h
  refine hh_iconst dJ7_fill_53178_0 (by decide) ?_
  refine hh_istore_n dJ7_fill_53178_1 (by decide) rfl ?_
  refine hh_aload_n dJ7_fill_53178_2 rfl ?_
  refine hh_alen dJ7_fill_53178_3 ra_126 (by decide) ?_
  refine hh_istore_n dJ7_fill_53178_4 (by decide) rfl ?_
  obtain ⟨n, h⟩ := h
  exact hh_forget [true, true, true, true] (l_J7_fill_53178_i1_5 n _ _ _ _ h)
theorem wp_J7_fill_53178_i1 {d : Nat} (a1 : Int) {σ : hh_S} {Q : Int → hh_S → Prop} (h : hh_cs σ → hh_can a1 → P_J7_fill_53178_i1 d a1 σ Q) : hh_Sp (d + 1) hm_J7_fill_53178 [hh_R 126, hh_I a1] σ Q :=
  hh_entry rfl (Nat.le_of_ble_eq_true rfl) rfl (fun hs hc => w_J7_fill_53178_i1 (h hs (hc _ (List.mem_of_getElem? (i := 1) rfl))))
def P_J6_bitCount_0f7a4 (d : Nat) (a0 : Int) (σ : hh_S) (Q : Int → hh_S → Prop) : Prop :=
  Q (hh_and (hh_wr (hh_wr (hh_and (hh_wr (hh_wr (hh_and (hh_wr (a0 - (hh_and (hh_ush a0 1) 1431655765))) 858993459 + (hh_and (hh_ush (hh_wr (a0 - (hh_and (hh_ush a0 1) 1431655765))) 2) 858993459)) + (hh_ush (hh_wr (hh_and (hh_wr (a0 - (hh_and (hh_ush a0 1) 1431655765))) 858993459 + (hh_and (hh_ush (hh_wr (a0 - (hh_and (hh_ush a0 1) 1431655765))) 2) 858993459))) 4))) 252645135 + (hh_ush (hh_and (hh_wr (hh_wr (hh_and (hh_wr (a0 - (hh_and (hh_ush a0 1) 1431655765))) 858993459 + (hh_and (hh_ush (hh_wr (a0 - (hh_and (hh_ush a0 1) 1431655765))) 2) 858993459)) + (hh_ush (hh_wr (hh_and (hh_wr (a0 - (hh_and (hh_ush a0 1) 1431655765))) 858993459 + (hh_and (hh_ush (hh_wr (a0 - (hh_and (hh_ush a0 1) 1431655765))) 2) 858993459))) 4))) 252645135) 8)) + (hh_ush (hh_wr (hh_and (hh_wr (hh_wr (hh_and (hh_wr (a0 - (hh_and (hh_ush a0 1) 1431655765))) 858993459 + (hh_and (hh_ush (hh_wr (a0 - (hh_and (hh_ush a0 1) 1431655765))) 2) 858993459)) + (hh_ush (hh_wr (hh_and (hh_wr (a0 - (hh_and (hh_ush a0 1) 1431655765))) 858993459 + (hh_and (hh_ush (hh_wr (a0 - (hh_and (hh_ush a0 1) 1431655765))) 2) 858993459))) 4))) 252645135 + (hh_ush (hh_and (hh_wr (hh_wr (hh_and (hh_wr (a0 - (hh_and (hh_ush a0 1) 1431655765))) 858993459 + (hh_and (hh_ush (hh_wr (a0 - (hh_and (hh_ush a0 1) 1431655765))) 2) 858993459)) + (hh_ush (hh_wr (hh_and (hh_wr (a0 - (hh_and (hh_ush a0 1) 1431655765))) 858993459 + (hh_and (hh_ush (hh_wr (a0 - (hh_and (hh_ush a0 1) 1431655765))) 2) 858993459))) 4))) 252645135) 8))) 16))) 63) σ
set_option maxRecDepth 20000 in
theorem w_J6_bitCount_0f7a4 {d : Nat} {a0 : Int} {σ : hh_S} {Q : Int → hh_S → Prop} (h : P_J6_bitCount_0f7a4 d a0 σ Q) : hh_J (d + 1) hm_J6_bitCount_0f7a4 0 [some (hh_I a0)] [] σ Q := by
  unfold P_J6_bitCount_0f7a4 at h
  refine hh_iload_n dJ6_bitCount_0f7a4_0 rfl ?_
  refine hh_iload_n dJ6_bitCount_0f7a4_1 rfl ?_
  refine hh_iconst dJ6_bitCount_0f7a4_2 (by decide) ?_
  refine hh_iushr dJ6_bitCount_0f7a4_3 ?_
  refine hh_ldc_w (n := 1431655765) dJ6_bitCount_0f7a4_4 kc_J6_265 (by decide) ?_
  refine hh_iand dJ6_bitCount_0f7a4_7 ?_
  refine hh_isub_w dJ6_bitCount_0f7a4_8 ?_
  refine hh_istore_n dJ6_bitCount_0f7a4_9 (by decide) rfl ?_
  refine hh_iload_n dJ6_bitCount_0f7a4_10 rfl ?_
  refine hh_ldc_w (n := 858993459) dJ6_bitCount_0f7a4_11 kc_J6_266 (by decide) ?_
  refine hh_iand dJ6_bitCount_0f7a4_14 ?_
  refine hh_iload_n dJ6_bitCount_0f7a4_15 rfl ?_
  refine hh_iconst dJ6_bitCount_0f7a4_16 (by decide) ?_
  refine hh_iushr dJ6_bitCount_0f7a4_17 ?_
  refine hh_ldc_w (n := 858993459) dJ6_bitCount_0f7a4_18 kc_J6_266 (by decide) ?_
  refine hh_iand dJ6_bitCount_0f7a4_21 ?_
  refine hh_iadd_w dJ6_bitCount_0f7a4_22 ?_
  refine hh_istore_n dJ6_bitCount_0f7a4_23 (by decide) rfl ?_
  refine hh_iload_n dJ6_bitCount_0f7a4_24 rfl ?_
  refine hh_iload_n dJ6_bitCount_0f7a4_25 rfl ?_
  refine hh_iconst dJ6_bitCount_0f7a4_26 (by decide) ?_
  refine hh_iushr dJ6_bitCount_0f7a4_27 ?_
  refine hh_iadd_w dJ6_bitCount_0f7a4_28 ?_
  refine hh_ldc_w (n := 252645135) dJ6_bitCount_0f7a4_29 kc_J6_267 (by decide) ?_
  refine hh_iand dJ6_bitCount_0f7a4_32 ?_
  refine hh_istore_n dJ6_bitCount_0f7a4_33 (by decide) rfl ?_
  refine hh_iload_n dJ6_bitCount_0f7a4_34 rfl ?_
  refine hh_iload_n dJ6_bitCount_0f7a4_35 rfl ?_
  refine hh_bipush dJ6_bitCount_0f7a4_36 (by decide) ?_
  refine hh_iushr dJ6_bitCount_0f7a4_38 ?_
  refine hh_iadd_w dJ6_bitCount_0f7a4_39 ?_
  refine hh_istore_n dJ6_bitCount_0f7a4_40 (by decide) rfl ?_
  refine hh_iload_n dJ6_bitCount_0f7a4_41 rfl ?_
  refine hh_iload_n dJ6_bitCount_0f7a4_42 rfl ?_
  refine hh_bipush dJ6_bitCount_0f7a4_43 (by decide) ?_
  refine hh_iushr dJ6_bitCount_0f7a4_45 ?_
  refine hh_iadd_w dJ6_bitCount_0f7a4_46 ?_
  refine hh_istore_n dJ6_bitCount_0f7a4_47 (by decide) rfl ?_
  refine hh_iload_n dJ6_bitCount_0f7a4_48 rfl ?_
  refine hh_bipush dJ6_bitCount_0f7a4_49 (by decide) ?_
  refine hh_iand dJ6_bitCount_0f7a4_51 ?_
  exact hh_ireturn dJ6_bitCount_0f7a4_52 rfl h
theorem wp_J6_bitCount_0f7a4 {d : Nat} (a0 : Int) {σ : hh_S} {Q : Int → hh_S → Prop} (h : hh_cs σ → hh_can a0 → P_J6_bitCount_0f7a4 d a0 σ Q) : hh_Sp (d + 1) hm_J6_bitCount_0f7a4 [hh_I a0] σ Q :=
  hh_entry rfl (Nat.le_of_ble_eq_true rfl) rfl (fun hs hc => w_J6_bitCount_0f7a4 (h hs (hc _ (List.mem_of_getElem? (i := 0) rfl))))
def P_J0_isLatin1_aae02_i0 (d : Nat) (σ : hh_S) (Q : Int → hh_S → Prop) : Prop :=
  Q 1 σ
set_option maxRecDepth 20000 in
theorem w_J0_isLatin1_aae02_i0 {d : Nat} {σ : hh_S} {Q : Int → hh_S → Prop} (h : P_J0_isLatin1_aae02_i0 d σ Q) : hh_J (d + 1) hm_J0_isLatin1_aae02 0 [some (hh_R 1000)] [] σ Q := by
  unfold P_J0_isLatin1_aae02_i0 at h
  refine hh_gCS dJ0_isLatin1_aae02_0 kf_J0_38 ?_
  refine hh_if_eq (tgt := 17) dJ0_isLatin1_aae02_3 (by decide) (fun c => absurd c (by decide)) (fun _ => ?_)
  refine hh_aload_n dJ0_isLatin1_aae02_6 rfl ?_
  refine hh_getSC (i := 0) dJ0_isLatin1_aae02_7 kf_J0_15 (by decide) ?_
  refine hh_if_ne (tgt := 17) dJ0_isLatin1_aae02_10 (by decide) (fun c => absurd c (by decide)) (fun _ => ?_)
  refine hh_iconst dJ0_isLatin1_aae02_13 (by decide) ?_
  refine hh_goto (tgt := 18) dJ0_isLatin1_aae02_14 (by decide) ?_
  exact hh_zreturn dJ0_isLatin1_aae02_18 rfl (by decide) h
theorem wp_J0_isLatin1_aae02_i0 {d : Nat} {σ : hh_S} {Q : Int → hh_S → Prop} (h : hh_cs σ → P_J0_isLatin1_aae02_i0 d σ Q) : hh_Sp (d + 1) hm_J0_isLatin1_aae02 [hh_R 1000] σ Q :=
  hh_entry rfl (Nat.le_of_ble_eq_true rfl) rfl (fun hs hc => w_J0_isLatin1_aae02_i0 (h hs))
def P_J1_charAt_3b067_i0 (d : Nat) (a1 : Int) (σ : hh_S) (Q : Int → hh_S → Prop) : Prop :=
  hh_Sp d hm_J0_checkIndex_df160 [hh_I a1, hh_I 5] σ (fun _ σ3 => ((0 ≤ a1 ∧ a1 < 5) ∧ narrow .char (.int (Int32.ofInt (hh_i2c (hh_and (hh_sc 0 a1) 255)))) = .int (Int32.ofInt (hh_i2c (hh_and (hh_sc 0 a1) 255)))) ∧ (Q (hh_i2c (hh_and (hh_sc 0 a1) 255)) σ3))
set_option maxRecDepth 20000 in
theorem w_J1_charAt_3b067_i0 {d : Nat} {a1 : Int} {σ : hh_S} {Q : Int → hh_S → Prop} (h : P_J1_charAt_3b067_i0 d a1 σ Q) : hh_J (d + 1) hm_J1_charAt_3b067 0 [some (hh_R 2000), some (hh_I a1)] [] σ Q := by
  unfold P_J1_charAt_3b067_i0 at h
  refine hh_iload_n dJ1_charAt_3b067_0 rfl ?_
  refine hh_aload_n dJ1_charAt_3b067_1 rfl ?_
  refine hh_alS (i := 0) dJ1_charAt_3b067_2 (by decide) rfl ?_
  refine hh_cS2 dJ1_charAt_3b067_3 lk_J1_9 mo_J0_checkIndex_df160 (Nat.le_of_ble_eq_true rfl) h (fun _ σ3 h => ?_)
  obtain ⟨⟨q1, q2⟩, h⟩ := h
  refine hh_aload_n dJ1_charAt_3b067_6 rfl ?_
  refine hh_iload_n dJ1_charAt_3b067_7 rfl ?_
  refine hh_bals (i := 0) dJ1_charAt_3b067_8 (by decide) rfl q1 ?_
  refine hh_sipush dJ1_charAt_3b067_9 (by decide) ?_
  refine hh_iand dJ1_charAt_3b067_12 ?_
  refine hh_oi2c dJ1_charAt_3b067_13 ?_
  exact hh_nreturn dJ1_charAt_3b067_14 rfl q2 h
theorem wp_J1_charAt_3b067_i0 {d : Nat} (a1 : Int) {σ : hh_S} {Q : Int → hh_S → Prop} (h : hh_cs σ → hh_can a1 → P_J1_charAt_3b067_i0 d a1 σ Q) : hh_Sp (d + 1) hm_J1_charAt_3b067 [hh_R 2000, hh_I a1] σ Q :=
  hh_entry rfl (Nat.le_of_ble_eq_true rfl) rfl (fun hs hc => w_J1_charAt_3b067_i0 (h hs (hc _ (List.mem_of_getElem? (i := 1) rfl))))
def P_J0_charAt_5068e_i0 (d : Nat) (a1 : Int) (σ : hh_S) (Q : Int → hh_S → Prop) : Prop :=
  hh_Sp d hm_J0_isLatin1_aae02 [hh_R 1000] σ (fun r1 σ1 => (r1 = 0 → hh_Sp d hm_J2_charAt_3b067 [hh_R 2000, hh_I a1] σ1 (fun r21 σ21 => (narrow .char (.int (Int32.ofInt r21)) = .int (Int32.ofInt r21)) ∧ (Q r21 σ21))) ∧ (¬ r1 = 0 → hh_Sp d hm_J1_charAt_3b067 [hh_R 2000, hh_I a1] σ1 (fun r12 σ12 => (narrow .char (.int (Int32.ofInt r12)) = .int (Int32.ofInt r12)) ∧ (Q r12 σ12))))
set_option maxRecDepth 20000 in
theorem w_J0_charAt_5068e_i0 {d : Nat} {a1 : Int} {σ : hh_S} {Q : Int → hh_S → Prop} (h : P_J0_charAt_5068e_i0 d a1 σ Q) : hh_J (d + 1) hm_J0_charAt_5068e 0 [some (hh_R 1000), some (hh_I a1)] [] σ Q := by
  unfold P_J0_charAt_5068e_i0 at h
  refine hh_aload_n dJ0_charAt_5068e_0 rfl ?_
  refine hh_cV0 dJ0_charAt_5068e_1 lk_J0_492 mo_J0_isLatin1_aae02 rc_1000 (Nat.le_of_ble_eq_true rfl) h (fun r1 σ1 h => ?_)
  refine hh_if_eq (tgt := 16) dJ0_charAt_5068e_4 (by decide) (fun c => ?_) (fun c => ?_)
  · replace h := h.1 c
    refine hh_aload_n dJ0_charAt_5068e_16 rfl ?_
    refine hh_getSV (i := 0) dJ0_charAt_5068e_17 kf_J0_9 (by decide) ?_
    refine hh_iload_n dJ0_charAt_5068e_20 rfl ?_
    refine hh_cS2 dJ0_charAt_5068e_21 lk_J0_498 mo_J2_charAt_3b067 (Nat.le_of_ble_eq_true rfl) h (fun r21 σ21 h => ?_)
    obtain ⟨q1, h⟩ := h
    exact hh_nreturn dJ0_charAt_5068e_24 rfl q1 h
  · replace h := h.2 c
    refine hh_aload_n dJ0_charAt_5068e_7 rfl ?_
    refine hh_getSV (i := 0) dJ0_charAt_5068e_8 kf_J0_9 (by decide) ?_
    refine hh_iload_n dJ0_charAt_5068e_11 rfl ?_
    refine hh_cS2 dJ0_charAt_5068e_12 lk_J0_495 mo_J1_charAt_3b067 (Nat.le_of_ble_eq_true rfl) h (fun r12 σ12 h => ?_)
    obtain ⟨q1, h⟩ := h
    exact hh_nreturn dJ0_charAt_5068e_15 rfl q1 h
theorem wp_J0_charAt_5068e_i0 {d : Nat} (a1 : Int) {σ : hh_S} {Q : Int → hh_S → Prop} (h : hh_cs σ → hh_can a1 → P_J0_charAt_5068e_i0 d a1 σ Q) : hh_Sp (d + 1) hm_J0_charAt_5068e [hh_R 1000, hh_I a1] σ Q :=
  hh_entry rfl (Nat.le_of_ble_eq_true rfl) rfl (fun hs hc => w_J0_charAt_5068e_i0 (h hs (hc _ (List.mem_of_getElem? (i := 1) rfl))))
def P_J0_coder_7d493_i0 (d : Nat) (σ : hh_S) (Q : Int → hh_S → Prop) : Prop :=
  Q 0 σ
set_option maxRecDepth 20000 in
theorem w_J0_coder_7d493_i0 {d : Nat} {σ : hh_S} {Q : Int → hh_S → Prop} (h : P_J0_coder_7d493_i0 d σ Q) : hh_J (d + 1) hm_J0_coder_7d493 0 [some (hh_R 1000)] [] σ Q := by
  unfold P_J0_coder_7d493_i0 at h
  refine hh_gCS dJ0_coder_7d493_0 kf_J0_38 ?_
  refine hh_if_eq (tgt := 13) dJ0_coder_7d493_3 (by decide) (fun c => absurd c (by decide)) (fun _ => ?_)
  refine hh_aload_n dJ0_coder_7d493_6 rfl ?_
  refine hh_getSC (i := 0) dJ0_coder_7d493_7 kf_J0_15 (by decide) ?_
  refine hh_goto (tgt := 14) dJ0_coder_7d493_10 (by decide) ?_
  exact hh_nreturn dJ0_coder_7d493_14 rfl rfl h
theorem wp_J0_coder_7d493_i0 {d : Nat} {σ : hh_S} {Q : Int → hh_S → Prop} (h : hh_cs σ → P_J0_coder_7d493_i0 d σ Q) : hh_Sp (d + 1) hm_J0_coder_7d493 [hh_R 1000] σ Q :=
  hh_entry rfl (Nat.le_of_ble_eq_true rfl) rfl (fun hs hc => w_J0_coder_7d493_i0 (h hs))
def P_J0_length_8abf5_i0 (d : Nat) (σ : hh_S) (Q : Int → hh_S → Prop) : Prop :=
  hh_Sp d hm_J0_coder_7d493 [hh_R 1000] σ (fun r6 σ6 => Q (hh_shr 5 r6) σ6)
set_option maxRecDepth 20000 in
theorem w_J0_length_8abf5_i0 {d : Nat} {σ : hh_S} {Q : Int → hh_S → Prop} (h : P_J0_length_8abf5_i0 d σ Q) : hh_J (d + 1) hm_J0_length_8abf5 0 [some (hh_R 1000)] [] σ Q := by
  unfold P_J0_length_8abf5_i0 at h
  refine hh_aload_n dJ0_length_8abf5_0 rfl ?_
  refine hh_getSV (i := 0) dJ0_length_8abf5_1 kf_J0_9 (by decide) ?_
  refine hh_alS (i := 0) dJ0_length_8abf5_4 (by decide) rfl ?_
  refine hh_aload_n dJ0_length_8abf5_5 rfl ?_
  refine hh_cV0 dJ0_length_8abf5_6 lk_J0_335 mo_J0_coder_7d493 rc_1000 (Nat.le_of_ble_eq_true rfl) h (fun r6 σ6 h => ?_)
  refine hh_ishr dJ0_length_8abf5_9 ?_
  exact hh_ireturn dJ0_length_8abf5_10 rfl h
theorem wp_J0_length_8abf5_i0 {d : Nat} {σ : hh_S} {Q : Int → hh_S → Prop} (h : hh_cs σ → P_J0_length_8abf5_i0 d σ Q) : hh_Sp (d + 1) hm_J0_length_8abf5 [hh_R 1000] σ Q :=
  hh_entry rfl (Nat.le_of_ble_eq_true rfl) rfl (fun hs hc => w_J0_length_8abf5_i0 (h hs))
def P_J0_isLatin1_aae02_i1 (d : Nat) (σ : hh_S) (Q : Int → hh_S → Prop) : Prop :=
  Q 1 σ
set_option maxRecDepth 20000 in
theorem w_J0_isLatin1_aae02_i1 {d : Nat} {σ : hh_S} {Q : Int → hh_S → Prop} (h : P_J0_isLatin1_aae02_i1 d σ Q) : hh_J (d + 1) hm_J0_isLatin1_aae02 0 [some (hh_R 1001)] [] σ Q := by
  unfold P_J0_isLatin1_aae02_i1 at h
  refine hh_gCS dJ0_isLatin1_aae02_0 kf_J0_38 ?_
  refine hh_if_eq (tgt := 17) dJ0_isLatin1_aae02_3 (by decide) (fun c => absurd c (by decide)) (fun _ => ?_)
  refine hh_aload_n dJ0_isLatin1_aae02_6 rfl ?_
  refine hh_getSC (i := 1) dJ0_isLatin1_aae02_7 kf_J0_15 (by decide) ?_
  refine hh_if_ne (tgt := 17) dJ0_isLatin1_aae02_10 (by decide) (fun c => absurd c (by decide)) (fun _ => ?_)
  refine hh_iconst dJ0_isLatin1_aae02_13 (by decide) ?_
  refine hh_goto (tgt := 18) dJ0_isLatin1_aae02_14 (by decide) ?_
  exact hh_zreturn dJ0_isLatin1_aae02_18 rfl (by decide) h
theorem wp_J0_isLatin1_aae02_i1 {d : Nat} {σ : hh_S} {Q : Int → hh_S → Prop} (h : hh_cs σ → P_J0_isLatin1_aae02_i1 d σ Q) : hh_Sp (d + 1) hm_J0_isLatin1_aae02 [hh_R 1001] σ Q :=
  hh_entry rfl (Nat.le_of_ble_eq_true rfl) rfl (fun hs hc => w_J0_isLatin1_aae02_i1 (h hs))
def P_J1_charAt_3b067_i1 (d : Nat) (a1 : Int) (σ : hh_S) (Q : Int → hh_S → Prop) : Prop :=
  hh_Sp d hm_J0_checkIndex_df160 [hh_I a1, hh_I 4] σ (fun _ σ3 => ((0 ≤ a1 ∧ a1 < 4) ∧ narrow .char (.int (Int32.ofInt (hh_i2c (hh_and (hh_sc 1 a1) 255)))) = .int (Int32.ofInt (hh_i2c (hh_and (hh_sc 1 a1) 255)))) ∧ (Q (hh_i2c (hh_and (hh_sc 1 a1) 255)) σ3))
set_option maxRecDepth 20000 in
theorem w_J1_charAt_3b067_i1 {d : Nat} {a1 : Int} {σ : hh_S} {Q : Int → hh_S → Prop} (h : P_J1_charAt_3b067_i1 d a1 σ Q) : hh_J (d + 1) hm_J1_charAt_3b067 0 [some (hh_R 2001), some (hh_I a1)] [] σ Q := by
  unfold P_J1_charAt_3b067_i1 at h
  refine hh_iload_n dJ1_charAt_3b067_0 rfl ?_
  refine hh_aload_n dJ1_charAt_3b067_1 rfl ?_
  refine hh_alS (i := 1) dJ1_charAt_3b067_2 (by decide) rfl ?_
  refine hh_cS2 dJ1_charAt_3b067_3 lk_J1_9 mo_J0_checkIndex_df160 (Nat.le_of_ble_eq_true rfl) h (fun _ σ3 h => ?_)
  obtain ⟨⟨q1, q2⟩, h⟩ := h
  refine hh_aload_n dJ1_charAt_3b067_6 rfl ?_
  refine hh_iload_n dJ1_charAt_3b067_7 rfl ?_
  refine hh_bals (i := 1) dJ1_charAt_3b067_8 (by decide) rfl q1 ?_
  refine hh_sipush dJ1_charAt_3b067_9 (by decide) ?_
  refine hh_iand dJ1_charAt_3b067_12 ?_
  refine hh_oi2c dJ1_charAt_3b067_13 ?_
  exact hh_nreturn dJ1_charAt_3b067_14 rfl q2 h
theorem wp_J1_charAt_3b067_i1 {d : Nat} (a1 : Int) {σ : hh_S} {Q : Int → hh_S → Prop} (h : hh_cs σ → hh_can a1 → P_J1_charAt_3b067_i1 d a1 σ Q) : hh_Sp (d + 1) hm_J1_charAt_3b067 [hh_R 2001, hh_I a1] σ Q :=
  hh_entry rfl (Nat.le_of_ble_eq_true rfl) rfl (fun hs hc => w_J1_charAt_3b067_i1 (h hs (hc _ (List.mem_of_getElem? (i := 1) rfl))))
def P_J0_charAt_5068e_i1 (d : Nat) (a1 : Int) (σ : hh_S) (Q : Int → hh_S → Prop) : Prop :=
  hh_Sp d hm_J0_isLatin1_aae02 [hh_R 1001] σ (fun r1 σ1 => (r1 = 0 → hh_Sp d hm_J2_charAt_3b067 [hh_R 2001, hh_I a1] σ1 (fun r21 σ21 => (narrow .char (.int (Int32.ofInt r21)) = .int (Int32.ofInt r21)) ∧ (Q r21 σ21))) ∧ (¬ r1 = 0 → hh_Sp d hm_J1_charAt_3b067 [hh_R 2001, hh_I a1] σ1 (fun r12 σ12 => (narrow .char (.int (Int32.ofInt r12)) = .int (Int32.ofInt r12)) ∧ (Q r12 σ12))))
set_option maxRecDepth 20000 in
theorem w_J0_charAt_5068e_i1 {d : Nat} {a1 : Int} {σ : hh_S} {Q : Int → hh_S → Prop} (h : P_J0_charAt_5068e_i1 d a1 σ Q) : hh_J (d + 1) hm_J0_charAt_5068e 0 [some (hh_R 1001), some (hh_I a1)] [] σ Q := by
  unfold P_J0_charAt_5068e_i1 at h
  refine hh_aload_n dJ0_charAt_5068e_0 rfl ?_
  refine hh_cV0 dJ0_charAt_5068e_1 lk_J0_492 mo_J0_isLatin1_aae02 rc_1001 (Nat.le_of_ble_eq_true rfl) h (fun r1 σ1 h => ?_)
  refine hh_if_eq (tgt := 16) dJ0_charAt_5068e_4 (by decide) (fun c => ?_) (fun c => ?_)
  · replace h := h.1 c
    refine hh_aload_n dJ0_charAt_5068e_16 rfl ?_
    refine hh_getSV (i := 1) dJ0_charAt_5068e_17 kf_J0_9 (by decide) ?_
    refine hh_iload_n dJ0_charAt_5068e_20 rfl ?_
    refine hh_cS2 dJ0_charAt_5068e_21 lk_J0_498 mo_J2_charAt_3b067 (Nat.le_of_ble_eq_true rfl) h (fun r21 σ21 h => ?_)
    obtain ⟨q1, h⟩ := h
    exact hh_nreturn dJ0_charAt_5068e_24 rfl q1 h
  · replace h := h.2 c
    refine hh_aload_n dJ0_charAt_5068e_7 rfl ?_
    refine hh_getSV (i := 1) dJ0_charAt_5068e_8 kf_J0_9 (by decide) ?_
    refine hh_iload_n dJ0_charAt_5068e_11 rfl ?_
    refine hh_cS2 dJ0_charAt_5068e_12 lk_J0_495 mo_J1_charAt_3b067 (Nat.le_of_ble_eq_true rfl) h (fun r12 σ12 h => ?_)
    obtain ⟨q1, h⟩ := h
    exact hh_nreturn dJ0_charAt_5068e_15 rfl q1 h
theorem wp_J0_charAt_5068e_i1 {d : Nat} (a1 : Int) {σ : hh_S} {Q : Int → hh_S → Prop} (h : hh_cs σ → hh_can a1 → P_J0_charAt_5068e_i1 d a1 σ Q) : hh_Sp (d + 1) hm_J0_charAt_5068e [hh_R 1001, hh_I a1] σ Q :=
  hh_entry rfl (Nat.le_of_ble_eq_true rfl) rfl (fun hs hc => w_J0_charAt_5068e_i1 (h hs (hc _ (List.mem_of_getElem? (i := 1) rfl))))
def P_J0_coder_7d493_i1 (d : Nat) (σ : hh_S) (Q : Int → hh_S → Prop) : Prop :=
  Q 0 σ
set_option maxRecDepth 20000 in
theorem w_J0_coder_7d493_i1 {d : Nat} {σ : hh_S} {Q : Int → hh_S → Prop} (h : P_J0_coder_7d493_i1 d σ Q) : hh_J (d + 1) hm_J0_coder_7d493 0 [some (hh_R 1001)] [] σ Q := by
  unfold P_J0_coder_7d493_i1 at h
  refine hh_gCS dJ0_coder_7d493_0 kf_J0_38 ?_
  refine hh_if_eq (tgt := 13) dJ0_coder_7d493_3 (by decide) (fun c => absurd c (by decide)) (fun _ => ?_)
  refine hh_aload_n dJ0_coder_7d493_6 rfl ?_
  refine hh_getSC (i := 1) dJ0_coder_7d493_7 kf_J0_15 (by decide) ?_
  refine hh_goto (tgt := 14) dJ0_coder_7d493_10 (by decide) ?_
  exact hh_nreturn dJ0_coder_7d493_14 rfl rfl h
theorem wp_J0_coder_7d493_i1 {d : Nat} {σ : hh_S} {Q : Int → hh_S → Prop} (h : hh_cs σ → P_J0_coder_7d493_i1 d σ Q) : hh_Sp (d + 1) hm_J0_coder_7d493 [hh_R 1001] σ Q :=
  hh_entry rfl (Nat.le_of_ble_eq_true rfl) rfl (fun hs hc => w_J0_coder_7d493_i1 (h hs))
def P_J0_length_8abf5_i1 (d : Nat) (σ : hh_S) (Q : Int → hh_S → Prop) : Prop :=
  hh_Sp d hm_J0_coder_7d493 [hh_R 1001] σ (fun r6 σ6 => Q (hh_shr 4 r6) σ6)
set_option maxRecDepth 20000 in
theorem w_J0_length_8abf5_i1 {d : Nat} {σ : hh_S} {Q : Int → hh_S → Prop} (h : P_J0_length_8abf5_i1 d σ Q) : hh_J (d + 1) hm_J0_length_8abf5 0 [some (hh_R 1001)] [] σ Q := by
  unfold P_J0_length_8abf5_i1 at h
  refine hh_aload_n dJ0_length_8abf5_0 rfl ?_
  refine hh_getSV (i := 1) dJ0_length_8abf5_1 kf_J0_9 (by decide) ?_
  refine hh_alS (i := 1) dJ0_length_8abf5_4 (by decide) rfl ?_
  refine hh_aload_n dJ0_length_8abf5_5 rfl ?_
  refine hh_cV0 dJ0_length_8abf5_6 lk_J0_335 mo_J0_coder_7d493 rc_1001 (Nat.le_of_ble_eq_true rfl) h (fun r6 σ6 h => ?_)
  refine hh_ishr dJ0_length_8abf5_9 ?_
  exact hh_ireturn dJ0_length_8abf5_10 rfl h
theorem wp_J0_length_8abf5_i1 {d : Nat} {σ : hh_S} {Q : Int → hh_S → Prop} (h : hh_cs σ → P_J0_length_8abf5_i1 d σ Q) : hh_Sp (d + 1) hm_J0_length_8abf5 [hh_R 1001] σ Q :=
  hh_entry rfl (Nat.le_of_ble_eq_true rfl) rfl (fun hs hc => w_J0_length_8abf5_i1 (h hs))
def P_J0_isLatin1_aae02_i2 (d : Nat) (σ : hh_S) (Q : Int → hh_S → Prop) : Prop :=
  Q 1 σ
set_option maxRecDepth 20000 in
theorem w_J0_isLatin1_aae02_i2 {d : Nat} {σ : hh_S} {Q : Int → hh_S → Prop} (h : P_J0_isLatin1_aae02_i2 d σ Q) : hh_J (d + 1) hm_J0_isLatin1_aae02 0 [some (hh_R 1002)] [] σ Q := by
  unfold P_J0_isLatin1_aae02_i2 at h
  refine hh_gCS dJ0_isLatin1_aae02_0 kf_J0_38 ?_
  refine hh_if_eq (tgt := 17) dJ0_isLatin1_aae02_3 (by decide) (fun c => absurd c (by decide)) (fun _ => ?_)
  refine hh_aload_n dJ0_isLatin1_aae02_6 rfl ?_
  refine hh_getSC (i := 2) dJ0_isLatin1_aae02_7 kf_J0_15 (by decide) ?_
  refine hh_if_ne (tgt := 17) dJ0_isLatin1_aae02_10 (by decide) (fun c => absurd c (by decide)) (fun _ => ?_)
  refine hh_iconst dJ0_isLatin1_aae02_13 (by decide) ?_
  refine hh_goto (tgt := 18) dJ0_isLatin1_aae02_14 (by decide) ?_
  exact hh_zreturn dJ0_isLatin1_aae02_18 rfl (by decide) h
theorem wp_J0_isLatin1_aae02_i2 {d : Nat} {σ : hh_S} {Q : Int → hh_S → Prop} (h : hh_cs σ → P_J0_isLatin1_aae02_i2 d σ Q) : hh_Sp (d + 1) hm_J0_isLatin1_aae02 [hh_R 1002] σ Q :=
  hh_entry rfl (Nat.le_of_ble_eq_true rfl) rfl (fun hs hc => w_J0_isLatin1_aae02_i2 (h hs))
def P_J0_coder_7d493_i2 (d : Nat) (σ : hh_S) (Q : Int → hh_S → Prop) : Prop :=
  Q 0 σ
set_option maxRecDepth 20000 in
theorem w_J0_coder_7d493_i2 {d : Nat} {σ : hh_S} {Q : Int → hh_S → Prop} (h : P_J0_coder_7d493_i2 d σ Q) : hh_J (d + 1) hm_J0_coder_7d493 0 [some (hh_R 1002)] [] σ Q := by
  unfold P_J0_coder_7d493_i2 at h
  refine hh_gCS dJ0_coder_7d493_0 kf_J0_38 ?_
  refine hh_if_eq (tgt := 13) dJ0_coder_7d493_3 (by decide) (fun c => absurd c (by decide)) (fun _ => ?_)
  refine hh_aload_n dJ0_coder_7d493_6 rfl ?_
  refine hh_getSC (i := 2) dJ0_coder_7d493_7 kf_J0_15 (by decide) ?_
  refine hh_goto (tgt := 14) dJ0_coder_7d493_10 (by decide) ?_
  exact hh_nreturn dJ0_coder_7d493_14 rfl rfl h
theorem wp_J0_coder_7d493_i2 {d : Nat} {σ : hh_S} {Q : Int → hh_S → Prop} (h : hh_cs σ → P_J0_coder_7d493_i2 d σ Q) : hh_Sp (d + 1) hm_J0_coder_7d493 [hh_R 1002] σ Q :=
  hh_entry rfl (Nat.le_of_ble_eq_true rfl) rfl (fun hs hc => w_J0_coder_7d493_i2 (h hs))
def P_J0_length_8abf5_i2 (d : Nat) (σ : hh_S) (Q : Int → hh_S → Prop) : Prop :=
  hh_Sp d hm_J0_coder_7d493 [hh_R 1002] σ (fun r6 σ6 => Q (hh_shr 7 r6) σ6)
set_option maxRecDepth 20000 in
theorem w_J0_length_8abf5_i2 {d : Nat} {σ : hh_S} {Q : Int → hh_S → Prop} (h : P_J0_length_8abf5_i2 d σ Q) : hh_J (d + 1) hm_J0_length_8abf5 0 [some (hh_R 1002)] [] σ Q := by
  unfold P_J0_length_8abf5_i2 at h
  refine hh_aload_n dJ0_length_8abf5_0 rfl ?_
  refine hh_getSV (i := 2) dJ0_length_8abf5_1 kf_J0_9 (by decide) ?_
  refine hh_alS (i := 2) dJ0_length_8abf5_4 (by decide) rfl ?_
  refine hh_aload_n dJ0_length_8abf5_5 rfl ?_
  refine hh_cV0 dJ0_length_8abf5_6 lk_J0_335 mo_J0_coder_7d493 rc_1002 (Nat.le_of_ble_eq_true rfl) h (fun r6 σ6 h => ?_)
  refine hh_ishr dJ0_length_8abf5_9 ?_
  exact hh_ireturn dJ0_length_8abf5_10 rfl h
theorem wp_J0_length_8abf5_i2 {d : Nat} {σ : hh_S} {Q : Int → hh_S → Prop} (h : hh_cs σ → P_J0_length_8abf5_i2 d σ Q) : hh_Sp (d + 1) hm_J0_length_8abf5 [hh_R 1002] σ Q :=
  hh_entry rfl (Nat.le_of_ble_eq_true rfl) rfl (fun hs hc => w_J0_length_8abf5_i2 (h hs))
def P_J1_canEncode_9a6ad (d : Nat) (a0 : Int) (σ : hh_S) (Q : Int → hh_S → Prop) : Prop :=
  (a0 < 0 → Q 0 σ) ∧ (¬ a0 < 0 → (255 < a0 → Q 0 σ) ∧ (¬ 255 < a0 → Q 1 σ))
set_option maxRecDepth 20000 in
theorem w_J1_canEncode_9a6ad {d : Nat} {a0 : Int} {σ : hh_S} {Q : Int → hh_S → Prop} (h : P_J1_canEncode_9a6ad d a0 σ Q) : hh_J (d + 1) hm_J1_canEncode_9a6ad 0 [some (hh_I a0)] [] σ Q := by
  unfold P_J1_canEncode_9a6ad at h
  refine hh_iload_n dJ1_canEncode_9a6ad_0 rfl ?_
  refine hh_if_lt (tgt := 15) dJ1_canEncode_9a6ad_1 (by decide) (fun c => ?_) (fun c => ?_)
  · replace h := h.1 c
    refine hh_iconst dJ1_canEncode_9a6ad_15 (by decide) ?_
    exact hh_zreturn dJ1_canEncode_9a6ad_16 rfl (by decide) h
  · replace h := h.2 c
    refine hh_iload_n dJ1_canEncode_9a6ad_4 rfl ?_
    refine hh_sipush dJ1_canEncode_9a6ad_5 (by decide) ?_
    refine hh_icmp_gt (tgt := 15) dJ1_canEncode_9a6ad_8 (by decide) (fun c => ?_) (fun c => ?_)
    · replace h := h.1 c
      refine hh_iconst dJ1_canEncode_9a6ad_15 (by decide) ?_
      exact hh_zreturn dJ1_canEncode_9a6ad_16 rfl (by decide) h
    · replace h := h.2 c
      refine hh_iconst dJ1_canEncode_9a6ad_11 (by decide) ?_
      refine hh_goto (tgt := 16) dJ1_canEncode_9a6ad_12 (by decide) ?_
      exact hh_zreturn dJ1_canEncode_9a6ad_16 rfl (by decide) h
theorem wp_J1_canEncode_9a6ad {d : Nat} (a0 : Int) {σ : hh_S} {Q : Int → hh_S → Prop} (h : hh_cs σ → hh_can a0 → P_J1_canEncode_9a6ad d a0 σ Q) : hh_Sp (d + 1) hm_J1_canEncode_9a6ad [hh_I a0] σ Q :=
  hh_entry rfl (Nat.le_of_ble_eq_true rfl) rfl (fun hs hc => w_J1_canEncode_9a6ad (h hs (hc _ (List.mem_of_getElem? (i := 0) rfl))))
def B_J1_indexOfChar_4cfef_7 (d : Nat) (Q : Int → hh_S → Prop) (k7 : Int → Int → Int → hh_S → Prop) (x3 x4 x5 : Int) (σ : hh_S) : Prop :=
  (x3 ≤ x5 → Q (-1) σ) ∧ (¬ x3 ≤ x5 → ((0 ≤ x5 ∧ x5 < 7)) ∧ ((¬ hh_sc 2 x5 = x4 → ((-2147483648 ≤ x5 + 1 ∧ x5 + 1 ≤ 2147483647)) ∧ (k7 x3 x4 (x5 + 1) σ)) ∧ (hh_sc 2 x5 = x4 → Q x5 σ)))
def P_J1_indexOfChar_4cfef (d : Nat) (a1 a2 a3 : Int) (σ : hh_S) (Q : Int → hh_S → Prop) : Prop :=
  ∃ n, hh_lp3 (B_J1_indexOfChar_4cfef_7 d Q) n a3 (hh_i2b a1) a2 σ
set_option maxRecDepth 20000 in
theorem w_J1_indexOfChar_4cfef_7 {d : Nat} {Q : Int → hh_S → Prop} {k7 : Int → Int → Int → hh_S → Prop} (hk7 : ∀ (x3 x4 x5 : Int) (σ : hh_S), k7 x3 x4 x5 σ → hh_J (d + 1) hm_J1_indexOfChar_4cfef 7 [some (hh_R 2002), none, none, some (hh_I x3), some (hh_I x4), some (hh_I x5)] [] σ Q) (x3 x4 x5 : Int) (σ : hh_S) (h : B_J1_indexOfChar_4cfef_7 d Q k7 x3 x4 x5 σ) : hh_J (d + 1) hm_J1_indexOfChar_4cfef 7 [some (hh_R 2002), none, none, some (hh_I x3), some (hh_I x4), some (hh_I x5)] [] σ Q := by
  unfold B_J1_indexOfChar_4cfef_7 at h
  refine hh_iload dJ1_indexOfChar_4cfef_7 rfl ?_
  refine hh_iload_n dJ1_indexOfChar_4cfef_9 rfl ?_
  refine hh_icmp_ge (tgt := 31) dJ1_indexOfChar_4cfef_10 (by decide) (fun c => ?_) (fun c => ?_)
  · replace h := h.1 c
    refine hh_iconst dJ1_indexOfChar_4cfef_31 (by decide) ?_
    exact hh_ireturn dJ1_indexOfChar_4cfef_32 rfl h
  · replace h := h.2 c
    obtain ⟨q1, h⟩ := h
    refine hh_aload_n dJ1_indexOfChar_4cfef_13 rfl ?_
    refine hh_iload dJ1_indexOfChar_4cfef_14 rfl ?_
    refine hh_bals (i := 2) dJ1_indexOfChar_4cfef_16 (by decide) rfl q1 ?_
    refine hh_iload dJ1_indexOfChar_4cfef_17 rfl ?_
    refine hh_icmp_ne (tgt := 25) dJ1_indexOfChar_4cfef_19 (by decide) (fun c => ?_) (fun c => ?_)
    · replace h := h.1 c
      obtain ⟨q1, h⟩ := h
      refine hh_iinc dJ1_indexOfChar_4cfef_25 (by decide) rfl rfl q1 ?_
      refine hh_goto (tgt := 7) dJ1_indexOfChar_4cfef_28 (by decide) ?_
      exact hh_forget [true, false, false, true, true, true] (hk7 _ _ _ _ h)
    · replace h := h.2 c
      refine hh_iload dJ1_indexOfChar_4cfef_22 rfl ?_
      exact hh_ireturn dJ1_indexOfChar_4cfef_24 rfl h
theorem l_J1_indexOfChar_4cfef_7 {d : Nat} {Q : Int → hh_S → Prop} : ∀ (n : Nat) (x3 x4 x5 : Int) (σ : hh_S), hh_lp3 (B_J1_indexOfChar_4cfef_7 d Q) n x3 x4 x5 σ → hh_J (d + 1) hm_J1_indexOfChar_4cfef 7 [some (hh_R 2002), none, none, some (hh_I x3), some (hh_I x4), some (hh_I x5)] [] σ Q := by
  intro n
  induction n with
  | zero => intro _ _ _ _ h; exact h.elim
  | succ n ih => intro x3 x4 x5 σ h; exact w_J1_indexOfChar_4cfef_7 ih x3 x4 x5 σ h
set_option maxRecDepth 20000 in
theorem w_J1_indexOfChar_4cfef {d : Nat} {a1 a2 a3 : Int} {σ : hh_S} {Q : Int → hh_S → Prop} (h : P_J1_indexOfChar_4cfef d a1 a2 a3 σ Q) : hh_J (d + 1) hm_J1_indexOfChar_4cfef 0 [some (hh_R 2002), some (hh_I a1), some (hh_I a2), some (hh_I a3), none, none] [] σ Q := by
  unfold P_J1_indexOfChar_4cfef at h
  refine hh_iload_n dJ1_indexOfChar_4cfef_0 rfl ?_
  refine hh_oi2b dJ1_indexOfChar_4cfef_1 ?_
  refine hh_istore dJ1_indexOfChar_4cfef_2 (by decide) rfl ?_
  refine hh_iload_n dJ1_indexOfChar_4cfef_4 rfl ?_
  refine hh_istore dJ1_indexOfChar_4cfef_5 (by decide) rfl ?_
  obtain ⟨n, h⟩ := h
  exact hh_forget [true, false, false, true, true, true] (l_J1_indexOfChar_4cfef_7 n _ _ _ _ h)
theorem wp_J1_indexOfChar_4cfef {d : Nat} (a1 a2 a3 : Int) {σ : hh_S} {Q : Int → hh_S → Prop} (h : hh_cs σ → hh_can a1 → hh_can a2 → hh_can a3 → P_J1_indexOfChar_4cfef d a1 a2 a3 σ Q) : hh_Sp (d + 1) hm_J1_indexOfChar_4cfef [hh_R 2002, hh_I a1, hh_I a2, hh_I a3] σ Q :=
  hh_entry rfl (Nat.le_of_ble_eq_true rfl) rfl (fun hs hc => w_J1_indexOfChar_4cfef (h hs (hc _ (List.mem_of_getElem? (i := 1) rfl)) (hc _ (List.mem_of_getElem? (i := 2) rfl)) (hc _ (List.mem_of_getElem? (i := 3) rfl))))
def P_J1_indexOf_4cfef (d : Nat) (a1 a2 a3 : Int) (σ : hh_S) (Q : Int → hh_S → Prop) : Prop :=
  hh_Sp d hm_J1_canEncode_9a6ad [hh_I a1] σ (fun r1 σ1 => (¬ r1 = 0 → (hh_max a2 0 < hh_min a3 7 → hh_Sp d hm_J1_indexOfChar_4cfef [hh_R 2002, hh_I a1, hh_I (hh_max a2 0), hh_I (hh_min a3 7)] σ1 (fun r33 σ33 => Q r33 σ33)) ∧ (¬ hh_max a2 0 < hh_min a3 7 → Q (-1) σ1)) ∧ (r1 = 0 → Q (-1) σ1))
set_option maxRecDepth 20000 in
theorem w_J1_indexOf_4cfef {d : Nat} {a1 a2 a3 : Int} {σ : hh_S} {Q : Int → hh_S → Prop} (h : P_J1_indexOf_4cfef d a1 a2 a3 σ Q) : hh_J (d + 1) hm_J1_indexOf_4cfef 0 [some (hh_R 2002), some (hh_I a1), some (hh_I a2), some (hh_I a3)] [] σ Q := by
  unfold P_J1_indexOf_4cfef at h
  refine hh_iload_n dJ1_indexOf_4cfef_0 rfl ?_
  refine hh_cS1 dJ1_indexOf_4cfef_1 lk_J1_88 mo_J1_canEncode_9a6ad (Nat.le_of_ble_eq_true rfl) h (fun r1 σ1 h => ?_)
  refine hh_if_ne (tgt := 9) dJ1_indexOf_4cfef_4 (by decide) (fun c => ?_) (fun c => ?_)
  · replace h := h.1 c
    refine hh_iload_n dJ1_indexOf_4cfef_9 rfl ?_
    refine hh_iconst dJ1_indexOf_4cfef_10 (by decide) ?_
    refine hh_mmax dJ1_indexOf_4cfef_11 km_J1_92 (Nat.le_of_ble_eq_true rfl) ?_
    refine hh_istore_n dJ1_indexOf_4cfef_14 (by decide) rfl ?_
    refine hh_iload_n dJ1_indexOf_4cfef_15 rfl ?_
    refine hh_aload_n dJ1_indexOf_4cfef_16 rfl ?_
    refine hh_alS (i := 2) dJ1_indexOf_4cfef_17 (by decide) rfl ?_
    refine hh_mmin dJ1_indexOf_4cfef_18 km_J1_38 (Nat.le_of_ble_eq_true rfl) ?_
    refine hh_istore_n dJ1_indexOf_4cfef_21 (by decide) rfl ?_
    refine hh_iload_n dJ1_indexOf_4cfef_22 rfl ?_
    refine hh_iload_n dJ1_indexOf_4cfef_23 rfl ?_
    refine hh_icmp_lt (tgt := 29) dJ1_indexOf_4cfef_24 (by decide) (fun c => ?_) (fun c => ?_)
    · replace h := h.1 c
      refine hh_aload_n dJ1_indexOf_4cfef_29 rfl ?_
      refine hh_iload_n dJ1_indexOf_4cfef_30 rfl ?_
      refine hh_iload_n dJ1_indexOf_4cfef_31 rfl ?_
      refine hh_iload_n dJ1_indexOf_4cfef_32 rfl ?_
      refine hh_cS4 dJ1_indexOf_4cfef_33 lk_J1_95 mo_J1_indexOfChar_4cfef (Nat.le_of_ble_eq_true rfl) h (fun r33 σ33 h => ?_)
      exact hh_ireturn dJ1_indexOf_4cfef_36 rfl h
    · replace h := h.2 c
      refine hh_iconst dJ1_indexOf_4cfef_27 (by decide) ?_
      exact hh_ireturn dJ1_indexOf_4cfef_28 rfl h
  · replace h := h.2 c
    refine hh_iconst dJ1_indexOf_4cfef_7 (by decide) ?_
    exact hh_ireturn dJ1_indexOf_4cfef_8 rfl h
theorem wp_J1_indexOf_4cfef {d : Nat} (a1 a2 a3 : Int) {σ : hh_S} {Q : Int → hh_S → Prop} (h : hh_cs σ → hh_can a1 → hh_can a2 → hh_can a3 → P_J1_indexOf_4cfef d a1 a2 a3 σ Q) : hh_Sp (d + 1) hm_J1_indexOf_4cfef [hh_R 2002, hh_I a1, hh_I a2, hh_I a3] σ Q :=
  hh_entry rfl (Nat.le_of_ble_eq_true rfl) rfl (fun hs hc => w_J1_indexOf_4cfef (h hs (hc _ (List.mem_of_getElem? (i := 1) rfl)) (hc _ (List.mem_of_getElem? (i := 2) rfl)) (hc _ (List.mem_of_getElem? (i := 3) rfl))))
def P_J0_indexOf_7cf53 (d : Nat) (a1 a2 : Int) (σ : hh_S) (Q : Int → hh_S → Prop) : Prop :=
  hh_Sp d hm_J0_isLatin1_aae02 [hh_R 1002] σ (fun r1 σ1 => (r1 = 0 → hh_Sp d hm_J0_length_8abf5 [hh_R 1002] σ1 (fun r30 σ30 => hh_Sp d hm_J2_indexOf_4cfef [hh_R 2002, hh_I a1, hh_I a2, hh_I r30] σ30 (fun r33 σ33 => Q r33 σ33))) ∧ (¬ r1 = 0 → hh_Sp d hm_J0_length_8abf5 [hh_R 1002] σ1 (fun r14 σ14 => hh_Sp d hm_J1_indexOf_4cfef [hh_R 2002, hh_I a1, hh_I a2, hh_I r14] σ14 (fun r17 σ17 => Q r17 σ17))))
set_option maxRecDepth 20000 in
theorem w_J0_indexOf_7cf53 {d : Nat} {a1 a2 : Int} {σ : hh_S} {Q : Int → hh_S → Prop} (h : P_J0_indexOf_7cf53 d a1 a2 σ Q) : hh_J (d + 1) hm_J0_indexOf_7cf53 0 [some (hh_R 1002), some (hh_I a1), some (hh_I a2)] [] σ Q := by
  unfold P_J0_indexOf_7cf53 at h
  refine hh_aload_n dJ0_indexOf_7cf53_0 rfl ?_
  refine hh_cV0 dJ0_indexOf_7cf53_1 lk_J0_492 mo_J0_isLatin1_aae02 rc_1002 (Nat.le_of_ble_eq_true rfl) h (fun r1 σ1 h => ?_)
  refine hh_if_eq (tgt := 23) dJ0_indexOf_7cf53_4 (by decide) (fun c => ?_) (fun c => ?_)
  · replace h := h.1 c
    refine hh_aload_n dJ0_indexOf_7cf53_23 rfl ?_
    refine hh_getSV (i := 2) dJ0_indexOf_7cf53_24 kf_J0_9 (by decide) ?_
    refine hh_iload_n dJ0_indexOf_7cf53_27 rfl ?_
    refine hh_iload_n dJ0_indexOf_7cf53_28 rfl ?_
    refine hh_aload_n dJ0_indexOf_7cf53_29 rfl ?_
    refine hh_cV0 dJ0_indexOf_7cf53_30 lk_J0_505 mo_J0_length_8abf5 rc_1002 (Nat.le_of_ble_eq_true rfl) h (fun r30 σ30 h => ?_)
    refine hh_cS4 dJ0_indexOf_7cf53_33 lk_J0_640 mo_J2_indexOf_4cfef (Nat.le_of_ble_eq_true rfl) h (fun r33 σ33 h => ?_)
    exact hh_ireturn dJ0_indexOf_7cf53_36 rfl h
  · replace h := h.2 c
    refine hh_aload_n dJ0_indexOf_7cf53_7 rfl ?_
    refine hh_getSV (i := 2) dJ0_indexOf_7cf53_8 kf_J0_9 (by decide) ?_
    refine hh_iload_n dJ0_indexOf_7cf53_11 rfl ?_
    refine hh_iload_n dJ0_indexOf_7cf53_12 rfl ?_
    refine hh_aload_n dJ0_indexOf_7cf53_13 rfl ?_
    refine hh_cV0 dJ0_indexOf_7cf53_14 lk_J0_505 mo_J0_length_8abf5 rc_1002 (Nat.le_of_ble_eq_true rfl) h (fun r14 σ14 h => ?_)
    refine hh_cS4 dJ0_indexOf_7cf53_17 lk_J0_637 mo_J1_indexOf_4cfef (Nat.le_of_ble_eq_true rfl) h (fun r17 σ17 h => ?_)
    refine hh_goto (tgt := 36) dJ0_indexOf_7cf53_20 (by decide) ?_
    exact hh_ireturn dJ0_indexOf_7cf53_36 rfl h
theorem wp_J0_indexOf_7cf53 {d : Nat} (a1 a2 : Int) {σ : hh_S} {Q : Int → hh_S → Prop} (h : hh_cs σ → hh_can a1 → hh_can a2 → P_J0_indexOf_7cf53 d a1 a2 σ Q) : hh_Sp (d + 1) hm_J0_indexOf_7cf53 [hh_R 1002, hh_I a1, hh_I a2] σ Q :=
  hh_entry rfl (Nat.le_of_ble_eq_true rfl) rfl (fun hs hc => w_J0_indexOf_7cf53 (h hs (hc _ (List.mem_of_getElem? (i := 1) rfl)) (hc _ (List.mem_of_getElem? (i := 2) rfl))))
def P_J0_indexOf_0f7a4 (d : Nat) (a1 : Int) (σ : hh_S) (Q : Int → hh_S → Prop) : Prop :=
  hh_Sp d hm_J0_indexOf_7cf53 [hh_R 1002, hh_I a1, hh_I 0] σ (fun r3 σ3 => Q r3 σ3)
set_option maxRecDepth 20000 in
theorem w_J0_indexOf_0f7a4 {d : Nat} {a1 : Int} {σ : hh_S} {Q : Int → hh_S → Prop} (h : P_J0_indexOf_0f7a4 d a1 σ Q) : hh_J (d + 1) hm_J0_indexOf_0f7a4 0 [some (hh_R 1002), some (hh_I a1)] [] σ Q := by
  unfold P_J0_indexOf_0f7a4 at h
  refine hh_aload_n dJ0_indexOf_0f7a4_0 rfl ?_
  refine hh_iload_n dJ0_indexOf_0f7a4_1 rfl ?_
  refine hh_iconst dJ0_indexOf_0f7a4_2 (by decide) ?_
  refine hh_cV2 dJ0_indexOf_0f7a4_3 lk_J0_633 mo_J0_indexOf_7cf53 rc_1002 (Nat.le_of_ble_eq_true rfl) h (fun r3 σ3 h => ?_)
  exact hh_ireturn dJ0_indexOf_0f7a4_6 rfl h
theorem wp_J0_indexOf_0f7a4 {d : Nat} (a1 : Int) {σ : hh_S} {Q : Int → hh_S → Prop} (h : hh_cs σ → hh_can a1 → P_J0_indexOf_0f7a4 d a1 σ Q) : hh_Sp (d + 1) hm_J0_indexOf_0f7a4 [hh_R 1002, hh_I a1] σ Q :=
  hh_entry rfl (Nat.le_of_ble_eq_true rfl) rfl (fun hs hc => w_J0_indexOf_0f7a4 (h hs (hc _ (List.mem_of_getElem? (i := 1) rfl))))
def B_J7_fill_53178_i2_5 (d : Nat) (Q : Int → hh_S → Prop) (k5 : Int → Int → Int → hh_S → Prop) (x1 x2 x3 : Int) (σ : hh_S) : Prop :=
  (x3 ≤ x2 → Q 0 σ) ∧ (¬ x3 ≤ x2 → ((0 ≤ x2 ∧ x2 < 3) ∧ (-2147483648 ≤ x2 + 1 ∧ x2 + 1 ≤ 2147483647)) ∧ (k5 x1 (x2 + 1) x3 (hh_up σ 127 x2 x1)))
def P_J7_fill_53178_i2 (d : Nat) (a1 : Int) (σ : hh_S) (Q : Int → hh_S → Prop) : Prop :=
  ∃ n, hh_lp3 (B_J7_fill_53178_i2_5 d Q) n a1 0 3 σ
set_option maxRecDepth 20000 in
theorem w_J7_fill_53178_i2_5 {d : Nat} {Q : Int → hh_S → Prop} {k5 : Int → Int → Int → hh_S → Prop} (hk5 : ∀ (x1 x2 x3 : Int) (σ : hh_S), k5 x1 x2 x3 σ → hh_J (d + 1) hm_J7_fill_53178 5 [some (hh_R 127), some (hh_I x1), some (hh_I x2), some (hh_I x3)] [] σ Q) (x1 x2 x3 : Int) (σ : hh_S) (h : B_J7_fill_53178_i2_5 d Q k5 x1 x2 x3 σ) : hh_J (d + 1) hm_J7_fill_53178 5 [some (hh_R 127), some (hh_I x1), some (hh_I x2), some (hh_I x3)] [] σ Q := by
  unfold B_J7_fill_53178_i2_5 at h
  refine hh_iload_n dJ7_fill_53178_5 rfl ?_
  refine hh_iload_n dJ7_fill_53178_6 rfl ?_
  refine hh_icmp_ge (tgt := 20) dJ7_fill_53178_7 (by decide) (fun c => ?_) (fun c => ?_)
  · replace h := h.1 c
    exact hh_vreturn dJ7_fill_53178_20 rfl h
  · replace h := h.2 c
    obtain ⟨⟨q1, q2⟩, h⟩ := h
    refine hh_aload_n dJ7_fill_53178_10 rfl ?_
    refine hh_iload_n dJ7_fill_53178_11 rfl ?_
    refine hh_iload_n dJ7_fill_53178_12 rfl ?_
    refine hh_iast dJ7_fill_53178_13 ra_127 q1 ?_
    refine hh_iinc dJ7_fill_53178_14 (by decide) rfl rfl q2 ?_
    refine hh_goto (tgt := 5) dJ7_fill_53178_17 (by decide) ?_
    exact hh_forget [true, true, true, true] (hk5 _ _ _ _ h)
theorem l_J7_fill_53178_i2_5 {d : Nat} {Q : Int → hh_S → Prop} : ∀ (n : Nat) (x1 x2 x3 : Int) (σ : hh_S), hh_lp3 (B_J7_fill_53178_i2_5 d Q) n x1 x2 x3 σ → hh_J (d + 1) hm_J7_fill_53178 5 [some (hh_R 127), some (hh_I x1), some (hh_I x2), some (hh_I x3)] [] σ Q := by
  intro n
  induction n with
  | zero => intro _ _ _ _ h; exact h.elim
  | succ n ih => intro x1 x2 x3 σ h; exact w_J7_fill_53178_i2_5 ih x1 x2 x3 σ h
set_option maxRecDepth 20000 in
theorem w_J7_fill_53178_i2 {d : Nat} {a1 : Int} {σ : hh_S} {Q : Int → hh_S → Prop} (h : P_J7_fill_53178_i2 d a1 σ Q) : hh_J (d + 1) hm_J7_fill_53178 0 [some (hh_R 127), some (hh_I a1), none, none] [] σ Q := by
  unfold P_J7_fill_53178_i2 at h
  refine hh_iconst dJ7_fill_53178_0 (by decide) ?_
  refine hh_istore_n dJ7_fill_53178_1 (by decide) rfl ?_
  refine hh_aload_n dJ7_fill_53178_2 rfl ?_
  refine hh_alen dJ7_fill_53178_3 ra_127 (by decide) ?_
  refine hh_istore_n dJ7_fill_53178_4 (by decide) rfl ?_
  obtain ⟨n, h⟩ := h
  exact hh_forget [true, true, true, true] (l_J7_fill_53178_i2_5 n _ _ _ _ h)
theorem wp_J7_fill_53178_i2 {d : Nat} (a1 : Int) {σ : hh_S} {Q : Int → hh_S → Prop} (h : hh_cs σ → hh_can a1 → P_J7_fill_53178_i2 d a1 σ Q) : hh_Sp (d + 1) hm_J7_fill_53178 [hh_R 127, hh_I a1] σ Q :=
  hh_entry rfl (Nat.le_of_ble_eq_true rfl) rfl (fun hs hc => w_J7_fill_53178_i2 (h hs (hc _ (List.mem_of_getElem? (i := 1) rfl))))
