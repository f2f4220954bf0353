def B_X12_parted_0 (d : Nat) (Q : Int → hh_S → Prop) (k0 : hh_S → Prop) (σ : hh_S) : Prop :=
  (σ 128 18 ≤ 0 → Q 0 σ) ∧ (¬ σ 128 18 ≤ 0 → ((-2147483648 ≤ σ 128 18 - 1 ∧ σ 128 18 - 1 ≤ 2147483647) ∧ (0 ≤ σ 128 18 - 1 ∧ σ 128 18 - 1 < 130)) ∧ ((¬ σ 135 (σ 128 18 - 1) = 3 → Q 0 σ) ∧ (σ 135 (σ 128 18 - 1) = 3 → ((-2147483648 ≤ σ 128 18 - 1 ∧ σ 128 18 - 1 ≤ 2147483647) ∧ (-2147483648 ≤ σ 128 20 - 1 ∧ σ 128 20 - 1 ≤ 2147483647)) ∧ (hh_Sp d hm_X12_emit [hh_R 128, hh_I 3, hh_I 0] (hh_up (hh_up σ 128 18 (σ 128 18 - 1)) 128 20 (σ 128 20 - 1)) (fun _ σ45 => k0 σ45)))))
def P_X12_parted (d : Nat) (σ : hh_S) (Q : Int → hh_S → Prop) : Prop :=
  ∃ n, hh_lp0 (B_X12_parted_0 d Q) n σ
set_option maxRecDepth 20000 in
theorem w_X12_parted_0 {d : Nat} {Q : Int → hh_S → Prop} {k0 : hh_S → Prop} (hk0 : ∀ (σ : hh_S), k0 σ → hh_J (d + 1) hm_X12_parted 0 [some (hh_R 128)] [] σ Q) (σ : hh_S) (h : B_X12_parted_0 d Q k0 σ) : hh_J (d + 1) hm_X12_parted 0 [some (hh_R 128)] [] σ Q := by
  unfold B_X12_parted_0 at h
  refine hh_aload_n dX12_parted_0 rfl ?_
  refine hh_getI dX12_parted_1 kf_X12_151 rf_128_18 rfl ?_
  refine hh_if_le (tgt := 51) dX12_parted_4 (by decide) (fun c => ?_) (fun c => ?_)
  · replace h := h.1 c
    exact hh_vreturn dX12_parted_51 rfl h
  · replace h := h.2 c
    obtain ⟨⟨q1, q2⟩, h⟩ := h
    refine hh_aload_n dX12_parted_7 rfl ?_
    refine hh_getR dX12_parted_8 kf_X12_28 rf_128_17 ?_
    refine hh_aload_n dX12_parted_11 rfl ?_
    refine hh_getI dX12_parted_12 kf_X12_151 rf_128_18 rfl ?_
    refine hh_iconst dX12_parted_15 (by decide) ?_
    refine hh_isub dX12_parted_16 q1 ?_
    refine hh_iald dX12_parted_17 ra_135 q2 rfl ?_
    refine hh_iconst dX12_parted_18 (by decide) ?_
    refine hh_icmp_ne (tgt := 51) dX12_parted_19 (by decide) (fun c => ?_) (fun c => ?_)
    · replace h := h.1 c
      exact hh_vreturn dX12_parted_51 rfl h
    · replace h := h.2 c
      obtain ⟨⟨q1, q2⟩, h⟩ := h
      refine hh_aload_n dX12_parted_22 rfl ?_
      refine hh_dup dX12_parted_23 (fun _ => rfl) ?_
      refine hh_getI dX12_parted_24 kf_X12_151 rf_128_18 rfl ?_
      refine hh_iconst dX12_parted_27 (by decide) ?_
      refine hh_isub dX12_parted_28 q1 ?_
      refine hh_putI dX12_parted_29 kp_X12_151 rf_128_18 ?_
      refine hh_aload_n dX12_parted_32 rfl ?_
      refine hh_dup dX12_parted_33 (fun _ => rfl) ?_
      refine hh_getI dX12_parted_34 kf_X12_158 rf_128_20 rfl ?_
      refine hh_iconst dX12_parted_37 (by decide) ?_
      refine hh_isub dX12_parted_38 q2 ?_
      refine hh_putI dX12_parted_39 kp_X12_158 rf_128_20 ?_
      refine hh_aload_n dX12_parted_42 rfl ?_
      refine hh_iconst dX12_parted_43 (by decide) ?_
      refine hh_iconst dX12_parted_44 (by decide) ?_
      refine hh_cV2 dX12_parted_45 lk_X12_154 mo_X12_emit rc_128 (Nat.le_of_ble_eq_true rfl) h (fun _ σ45 h => ?_)
      refine hh_goto (tgt := 0) dX12_parted_48 (by decide) ?_
      exact hh_forget [true] (hk0 _ h)
theorem l_X12_parted_0 {d : Nat} {Q : Int → hh_S → Prop} : ∀ (n : Nat) (σ : hh_S), hh_lp0 (B_X12_parted_0 d Q) n σ → hh_J (d + 1) hm_X12_parted 0 [some (hh_R 128)] [] σ Q := by
  intro n
  induction n with
  | zero => intro _ h; exact h.elim
  | succ n ih => intro σ h; exact w_X12_parted_0 ih σ h
set_option maxRecDepth 20000 in
theorem w_X12_parted {d : Nat} {σ : hh_S} {Q : Int → hh_S → Prop} (h : P_X12_parted d σ Q) : hh_J (d + 1) hm_X12_parted 0 [some (hh_R 128)] [] σ Q := by
  unfold P_X12_parted at h
  obtain ⟨n, h⟩ := h
  exact hh_forget [true] (l_X12_parted_0 n _ h)
theorem wp_X12_parted {d : Nat} {σ : hh_S} {Q : Int → hh_S → Prop} (h : hh_cs σ → P_X12_parted d σ Q) : hh_Sp (d + 1) hm_X12_parted [hh_R 128] σ Q :=
  hh_entry rfl (Nat.le_of_ble_eq_true rfl) rfl (fun hs hc => w_X12_parted (h hs))
def B_X12_begins_247 (d : Nat) (Q : Int → hh_S → Prop) (σ : hh_S) : Prop :=
  ((-2147483648 ≤ σ 128 15 + 1 ∧ σ 128 15 + 1 ≤ 2147483647)) ∧ (hh_Sp d hm_X12_next [hh_R 128] (hh_up σ 128 15 (σ 128 15 + 1)) (fun _ σ258 => hh_Sp d hm_X12_parted [hh_R 128] σ258 (fun _ σ262 => Q 0 σ262)))
def B_X12_begins_241 (d : Nat) (Q : Int → hh_S → Prop) (σ : hh_S) : Prop :=
  hh_Sp d hm_X12_wrong [hh_R 128] σ (fun _ σ242 => Q 0 σ242)
def B_X12_begins_187 (d : Nat) (Q : Int → hh_S → Prop) (σ : hh_S) : Prop :=
  (¬ σ 128 10 = 1 → B_X12_begins_241 d Q σ) ∧ (σ 128 10 = 1 → ((-2147483648 ≤ σ 128 8 - (σ 128 7) ∧ σ 128 8 - (σ 128 7) ≤ 2147483647)) ∧ ((¬ σ 128 8 - (σ 128 7) = 1 → B_X12_begins_241 d Q σ) ∧ (σ 128 8 - (σ 128 7) = 1 → ((0 ≤ σ 128 7 ∧ σ 128 7 < 120)) ∧ (hh_Sp d hm_X12_isName [hh_R 128, hh_I (σ 133 (σ 128 7))] σ (fun r218 σ218 => (r218 = 0 → B_X12_begins_241 d Q σ218) ∧ (¬ r218 = 0 → ((0 ≤ σ218 128 7 ∧ σ218 128 7 < 120)) ∧ (hh_Sp d hm_X12_emit [hh_R 128, hh_I 2, hh_I (σ218 133 (σ218 128 7))] σ218 (fun _ σ235 => B_X12_begins_247 d Q σ235))))))))
def B_X12_begins_178 (d : Nat) (Q : Int → hh_S → Prop) (x1 : Int) (σ : hh_S) : Prop :=
  hh_Sp d hm_X12_emit [hh_R 128, hh_I 1, hh_I x1] σ (fun _ σ181 => B_X12_begins_247 d Q σ181)
def B_X12_begins_149 (d : Nat) (Q : Int → hh_S → Prop) (k149 : Int → Int → hh_S → Prop) (x1 x2 : Int) (σ : hh_S) : Prop :=
  (σ 128 8 ≤ x2 → B_X12_begins_178 d Q x1 σ) ∧ (¬ σ 128 8 ≤ x2 → ((-2147483648 ≤ 10 * x1 ∧ 10 * x1 ≤ 2147483647) ∧ (0 ≤ x2 ∧ x2 < 120) ∧ (-2147483648 ≤ 10 * x1 + (σ 133 x2) ∧ 10 * x1 + (σ 133 x2) ≤ 2147483647) ∧ (-2147483648 ≤ 10 * x1 + (σ 133 x2) - 48 ∧ 10 * x1 + (σ 133 x2) - 48 ≤ 2147483647) ∧ (-2147483648 ≤ x2 + 1 ∧ x2 + 1 ≤ 2147483647)) ∧ (k149 (10 * x1 + (σ 133 x2) - 48) (x2 + 1) σ))
def B_X12_begins_111 (d : Nat) (Q : Int → hh_S → Prop) (s1 s2 : Int) (σ : hh_S) : Prop :=
  ((-2147483648 ≤ s1 + s2 ∧ s1 + s2 ≤ 2147483647)) ∧ (hh_Sp d hm_X12_next [hh_R 128] (hh_up σ 128 19 (s1 + s2)) (fun _ σ116 => Q 1 σ116))
def B_X12_begins_93 (d : Nat) (Q : Int → hh_S → Prop) (x1 s1 s2 : Int) (σ : hh_S) : Prop :=
  ((-2147483648 ≤ s1 + s2 ∧ s1 + s2 ≤ 2147483647)) ∧ ((x1 = 0 → B_X12_begins_111 d Q (σ 128 19) 1 (hh_up σ 128 20 (s1 + s2))) ∧ (¬ x1 = 0 → B_X12_begins_111 d Q (σ 128 19) 0 (hh_up σ 128 20 (s1 + s2))))
def B_X12_begins_68 (d : Nat) (Q : Int → hh_S → Prop) (x1 s1 s2 : Int) (σ : hh_S) : Prop :=
  ((0 ≤ s1 ∧ s1 < 130) ∧ (-2147483648 ≤ σ 128 18 + 1 ∧ σ 128 18 + 1 ≤ 2147483647)) ∧ ((x1 = 0 → B_X12_begins_93 d Q x1 (σ 128 20) 0 (hh_up (hh_up σ 135 s1 s2) 128 18 (σ 128 18 + 1))) ∧ (¬ x1 = 0 → B_X12_begins_93 d Q x1 (σ 128 20) 1 (hh_up (hh_up σ 135 s1 s2) 128 18 (σ 128 18 + 1))))
def B_X12_begins_40 (d : Nat) (Q : Int → hh_S → Prop) (x1 s0 : Int) (σ : hh_S) : Prop :=
  (¬ s0 = 8 → (x1 = 0 → B_X12_begins_68 d Q x1 (σ 128 18) 1 σ) ∧ (¬ x1 = 0 → B_X12_begins_68 d Q x1 (σ 128 18) 3 σ)) ∧ (s0 = 8 → hh_Sp d hm_X12_wrong [hh_R 128] σ (fun _ σ46 => Q 0 σ46))
def B_X12_begins_18 (d : Nat) (Q : Int → hh_S → Prop) (σ : hh_S) : Prop :=
  hh_Sp d hm_X12_isSign [hh_R 128, hh_I 33] σ (fun r21 σ21 => (r21 = 0 → B_X12_begins_40 d Q r21 (σ21 128 19) σ21) ∧ (¬ r21 = 0 → B_X12_begins_40 d Q r21 (σ21 128 20) σ21))
def P_X12_begins (d : Nat) (σ : hh_S) (Q : Int → hh_S → Prop) : Prop :=
  hh_Sp d hm_X12_isSign [hh_R 128, hh_I 33] σ (fun r3 σ3 => (¬ r3 = 0 → B_X12_begins_18 d Q σ3) ∧ (r3 = 0 → hh_Sp d hm_X12_isSign [hh_R 128, hh_I 40] σ3 (fun r12 σ12 => (r12 = 0 → (¬ σ12 128 10 = 2 → B_X12_begins_187 d Q σ12) ∧ (σ12 128 10 = 2 → ((-2147483648 ≤ σ12 128 8 - (σ12 128 7) ∧ σ12 128 8 - (σ12 128 7) ≤ 2147483647)) ∧ ((5 < σ12 128 8 - (σ12 128 7) → B_X12_begins_187 d Q σ12) ∧ (¬ 5 < σ12 128 8 - (σ12 128 7) → ∃ n, hh_lp2 (B_X12_begins_149 d Q) n 0 (σ12 128 7) σ12)))) ∧ (¬ r12 = 0 → B_X12_begins_18 d Q σ12))))
set_option maxRecDepth 20000 in
theorem w_X12_begins_247 {d : Nat} {Q : Int → hh_S → Prop} (σ : hh_S) (h : B_X12_begins_247 d Q σ) : hh_J (d + 1) hm_X12_begins 247 [some (hh_R 128), none, none] [] σ Q := by
  unfold B_X12_begins_247 at h
  obtain ⟨q1, h⟩ := h
  refine hh_aload_n dX12_begins_247 rfl ?_
  refine hh_dup dX12_begins_248 (fun _ => rfl) ?_
  refine hh_getI dX12_begins_249 kf_X12_173 rf_128_15 rfl ?_
  refine hh_iconst dX12_begins_252 (by decide) ?_
  refine hh_iadd dX12_begins_253 q1 ?_
  refine hh_putI dX12_begins_254 kp_X12_173 rf_128_15 ?_
  refine hh_aload_n dX12_begins_257 rfl ?_
  refine hh_cV0 dX12_begins_258 lk_X12_167 mo_X12_next rc_128 (Nat.le_of_ble_eq_true rfl) h (fun _ σ258 h => ?_)
  refine hh_aload_n dX12_begins_261 rfl ?_
  refine hh_cV0 dX12_begins_262 lk_X12_176 mo_X12_parted rc_128 (Nat.le_of_ble_eq_true rfl) h (fun _ σ262 h => ?_)
  refine hh_iconst dX12_begins_265 (by decide) ?_
  exact hh_zreturn dX12_begins_266 rfl (by decide) h
set_option maxRecDepth 20000 in
theorem w_X12_begins_241 {d : Nat} {Q : Int → hh_S → Prop} (σ : hh_S) (h : B_X12_begins_241 d Q σ) : hh_J (d + 1) hm_X12_begins 241 [some (hh_R 128), none, none] [] σ Q := by
  unfold B_X12_begins_241 at h
  refine hh_aload_n dX12_begins_241 rfl ?_
  refine hh_cV0 dX12_begins_242 lk_X12_139 mo_X12_wrong rc_128 (Nat.le_of_ble_eq_true rfl) h (fun _ σ242 h => ?_)
  refine hh_iconst dX12_begins_245 (by decide) ?_
  exact hh_zreturn dX12_begins_246 rfl (by decide) h
set_option maxRecDepth 20000 in
theorem w_X12_begins_187 {d : Nat} {Q : Int → hh_S → Prop} (σ : hh_S) (h : B_X12_begins_187 d Q σ) : hh_J (d + 1) hm_X12_begins 187 [some (hh_R 128), none, none] [] σ Q := by
  unfold B_X12_begins_187 at h
  refine hh_aload_n dX12_begins_187 rfl ?_
  refine hh_getI dX12_begins_188 kf_X12_133 rf_128_10 rfl ?_
  refine hh_iconst dX12_begins_191 (by decide) ?_
  refine hh_icmp_ne (tgt := 241) dX12_begins_192 (by decide) (fun c => ?_) (fun c => ?_)
  · replace h := h.1 c
    exact hh_forget [true, false, false] (w_X12_begins_241 _ h)
  · replace h := h.2 c
    obtain ⟨q1, h⟩ := h
    refine hh_aload_n dX12_begins_195 rfl ?_
    refine hh_getI dX12_begins_196 kf_X12_127 rf_128_8 rfl ?_
    refine hh_aload_n dX12_begins_199 rfl ?_
    refine hh_getI dX12_begins_200 kf_X12_121 rf_128_7 rfl ?_
    refine hh_isub dX12_begins_203 q1 ?_
    refine hh_iconst dX12_begins_204 (by decide) ?_
    refine hh_icmp_ne (tgt := 241) dX12_begins_205 (by decide) (fun c => ?_) (fun c => ?_)
    · replace h := h.1 c
      exact hh_forget [true, false, false] (w_X12_begins_241 _ h)
    · replace h := h.2 c
      obtain ⟨q1, h⟩ := h
      refine hh_aload_n dX12_begins_208 rfl ?_
      refine hh_aload_n dX12_begins_209 rfl ?_
      refine hh_getR dX12_begins_210 kf_X12_22 rf_128_5 ?_
      refine hh_aload_n dX12_begins_213 rfl ?_
      refine hh_getI dX12_begins_214 kf_X12_121 rf_128_7 rfl ?_
      refine hh_iald dX12_begins_217 ra_133 q1 rfl ?_
      refine hh_cV1 dX12_begins_218 lk_X12_170 mo_X12_isName rc_128 (Nat.le_of_ble_eq_true rfl) h (fun r218 σ218 h => ?_)
      refine hh_if_eq (tgt := 241) dX12_begins_221 (by decide) (fun c => ?_) (fun c => ?_)
      · replace h := h.1 c
        exact hh_forget [true, false, false] (w_X12_begins_241 _ h)
      · replace h := h.2 c
        obtain ⟨q1, h⟩ := h
        refine hh_aload_n dX12_begins_224 rfl ?_
        refine hh_iconst dX12_begins_225 (by decide) ?_
        refine hh_aload_n dX12_begins_226 rfl ?_
        refine hh_getR dX12_begins_227 kf_X12_22 rf_128_5 ?_
        refine hh_aload_n dX12_begins_230 rfl ?_
        refine hh_getI dX12_begins_231 kf_X12_121 rf_128_7 rfl ?_
        refine hh_iald dX12_begins_234 ra_133 q1 rfl ?_
        refine hh_cV2 dX12_begins_235 lk_X12_154 mo_X12_emit rc_128 (Nat.le_of_ble_eq_true rfl) h (fun _ σ235 h => ?_)
        refine hh_goto (tgt := 247) dX12_begins_238 (by decide) ?_
        exact hh_forget [true, false, false] (w_X12_begins_247 _ h)
set_option maxRecDepth 20000 in
theorem w_X12_begins_178 {d : Nat} {Q : Int → hh_S → Prop} (x1 : Int) (σ : hh_S) (h : B_X12_begins_178 d Q x1 σ) : hh_J (d + 1) hm_X12_begins 178 [some (hh_R 128), some (hh_I x1), none] [] σ Q := by
  unfold B_X12_begins_178 at h
  refine hh_aload_n dX12_begins_178 rfl ?_
  refine hh_iconst dX12_begins_179 (by decide) ?_
  refine hh_iload_n dX12_begins_180 rfl ?_
  refine hh_cV2 dX12_begins_181 lk_X12_154 mo_X12_emit rc_128 (Nat.le_of_ble_eq_true rfl) h (fun _ σ181 h => ?_)
  refine hh_goto (tgt := 247) dX12_begins_184 (by decide) ?_
  exact hh_forget [true, false, false] (w_X12_begins_247 _ h)
set_option maxRecDepth 20000 in
theorem w_X12_begins_149 {d : Nat} {Q : Int → hh_S → Prop} {k149 : Int → Int → hh_S → Prop} (hk149 : ∀ (x1 x2 : Int) (σ : hh_S), k149 x1 x2 σ → hh_J (d + 1) hm_X12_begins 149 [some (hh_R 128), some (hh_I x1), some (hh_I x2)] [] σ Q) (x1 x2 : Int) (σ : hh_S) (h : B_X12_begins_149 d Q k149 x1 x2 σ) : hh_J (d + 1) hm_X12_begins 149 [some (hh_R 128), some (hh_I x1), some (hh_I x2)] [] σ Q := by
  unfold B_X12_begins_149 at h
  refine hh_iload_n dX12_begins_149 rfl ?_
  refine hh_aload_n dX12_begins_150 rfl ?_
  refine hh_getI dX12_begins_151 kf_X12_127 rf_128_8 rfl ?_
  refine hh_icmp_ge (tgt := 178) dX12_begins_154 (by decide) (fun c => ?_) (fun c => ?_)
  · replace h := h.1 c
    exact hh_forget [true, true, false] (w_X12_begins_178 _ _ h)
  · replace h := h.2 c
    obtain ⟨⟨q1, q2, q3, q4, q5⟩, h⟩ := h
    refine hh_bipush dX12_begins_157 (by decide) ?_
    refine hh_iload_n dX12_begins_159 rfl ?_
    refine hh_imul dX12_begins_160 q1 ?_
    refine hh_aload_n dX12_begins_161 rfl ?_
    refine hh_getR dX12_begins_162 kf_X12_22 rf_128_5 ?_
    refine hh_iload_n dX12_begins_165 rfl ?_
    refine hh_iald dX12_begins_166 ra_133 q2 rfl ?_
    refine hh_iadd dX12_begins_167 q3 ?_
    refine hh_bipush dX12_begins_168 (by decide) ?_
    refine hh_isub dX12_begins_170 q4 ?_
    refine hh_istore_n dX12_begins_171 (by decide) rfl ?_
    refine hh_iinc dX12_begins_172 (by decide) rfl rfl q5 ?_
    refine hh_goto (tgt := 149) dX12_begins_175 (by decide) ?_
    exact hh_forget [true, true, true] (hk149 _ _ _ h)
theorem l_X12_begins_149 {d : Nat} {Q : Int → hh_S → Prop} : ∀ (n : Nat) (x1 x2 : Int) (σ : hh_S), hh_lp2 (B_X12_begins_149 d Q) n x1 x2 σ → hh_J (d + 1) hm_X12_begins 149 [some (hh_R 128), some (hh_I x1), some (hh_I x2)] [] σ Q := by
  intro n
  induction n with
  | zero => intro _ _ _ h; exact h.elim
  | succ n ih => intro x1 x2 σ h; exact w_X12_begins_149 ih x1 x2 σ h
set_option maxRecDepth 20000 in
theorem w_X12_begins_111 {d : Nat} {Q : Int → hh_S → Prop} (s1 s2 : Int) (σ : hh_S) (h : B_X12_begins_111 d Q s1 s2 σ) : hh_J (d + 1) hm_X12_begins 111 [some (hh_R 128), none, none] [hh_I s2, hh_I s1, hh_R 128] σ Q := by
  unfold B_X12_begins_111 at h
  obtain ⟨q1, h⟩ := h
  refine hh_iadd dX12_begins_111 q1 ?_
  refine hh_putI dX12_begins_112 kp_X12_164 rf_128_19 ?_
  refine hh_aload_n dX12_begins_115 rfl ?_
  refine hh_cV0 dX12_begins_116 lk_X12_167 mo_X12_next rc_128 (Nat.le_of_ble_eq_true rfl) h (fun _ σ116 h => ?_)
  refine hh_iconst dX12_begins_119 (by decide) ?_
  exact hh_zreturn dX12_begins_120 rfl (by decide) h
set_option maxRecDepth 20000 in
theorem w_X12_begins_93 {d : Nat} {Q : Int → hh_S → Prop} (x1 s1 s2 : Int) (σ : hh_S) (h : B_X12_begins_93 d Q x1 s1 s2 σ) : hh_J (d + 1) hm_X12_begins 93 [some (hh_R 128), some (hh_I x1), none] [hh_I s2, hh_I s1, hh_R 128] σ Q := by
  unfold B_X12_begins_93 at h
  obtain ⟨q1, h⟩ := h
  refine hh_iadd dX12_begins_93 q1 ?_
  refine hh_putI dX12_begins_94 kp_X12_158 rf_128_20 ?_
  refine hh_aload_n dX12_begins_97 rfl ?_
  refine hh_dup dX12_begins_98 (fun _ => rfl) ?_
  refine hh_getI dX12_begins_99 kf_X12_164 rf_128_19 rfl ?_
  refine hh_iload_n dX12_begins_102 rfl ?_
  refine hh_if_eq (tgt := 110) dX12_begins_103 (by decide) (fun c => ?_) (fun c => ?_)
  · replace h := h.1 c
    refine hh_iconst dX12_begins_110 (by decide) ?_
    exact hh_forget [true, false, false] (w_X12_begins_111 _ _ _ h)
  · replace h := h.2 c
    refine hh_iconst dX12_begins_106 (by decide) ?_
    refine hh_goto (tgt := 111) dX12_begins_107 (by decide) ?_
    exact hh_forget [true, false, false] (w_X12_begins_111 _ _ _ h)
set_option maxRecDepth 20000 in
theorem w_X12_begins_68 {d : Nat} {Q : Int → hh_S → Prop} (x1 s1 s2 : Int) (σ : hh_S) (h : B_X12_begins_68 d Q x1 s1 s2 σ) : hh_J (d + 1) hm_X12_begins 68 [some (hh_R 128), some (hh_I x1), none] [hh_I s2, hh_I s1, hh_R 135] σ Q := by
  unfold B_X12_begins_68 at h
  obtain ⟨⟨q1, q2⟩, h⟩ := h
  refine hh_iast dX12_begins_68 ra_135 q1 ?_
  refine hh_aload_n dX12_begins_69 rfl ?_
  refine hh_dup dX12_begins_70 (fun _ => rfl) ?_
  refine hh_getI dX12_begins_71 kf_X12_151 rf_128_18 rfl ?_
  refine hh_iconst dX12_begins_74 (by decide) ?_
  refine hh_iadd dX12_begins_75 q2 ?_
  refine hh_putI dX12_begins_76 kp_X12_151 rf_128_18 ?_
  refine hh_aload_n dX12_begins_79 rfl ?_
  refine hh_dup dX12_begins_80 (fun _ => rfl) ?_
  refine hh_getI dX12_begins_81 kf_X12_158 rf_128_20 rfl ?_
  refine hh_iload_n dX12_begins_84 rfl ?_
  refine hh_if_eq (tgt := 92) dX12_begins_85 (by decide) (fun c => ?_) (fun c => ?_)
  · replace h := h.1 c
    refine hh_iconst dX12_begins_92 (by decide) ?_
    exact hh_forget [true, true, false] (w_X12_begins_93 _ _ _ _ h)
  · replace h := h.2 c
    refine hh_iconst dX12_begins_88 (by decide) ?_
    refine hh_goto (tgt := 93) dX12_begins_89 (by decide) ?_
    exact hh_forget [true, true, false] (w_X12_begins_93 _ _ _ _ h)
set_option maxRecDepth 20000 in
theorem w_X12_begins_40 {d : Nat} {Q : Int → hh_S → Prop} (x1 s0 : Int) (σ : hh_S) (h : B_X12_begins_40 d Q x1 s0 σ) : hh_J (d + 1) hm_X12_begins 40 [some (hh_R 128), some (hh_I x1), none] [hh_I s0] σ Q := by
  unfold B_X12_begins_40 at h
  refine hh_bipush dX12_begins_40 (by decide) ?_
  refine hh_icmp_ne (tgt := 51) dX12_begins_42 (by decide) (fun c => ?_) (fun c => ?_)
  · replace h := h.1 c
    refine hh_aload_n dX12_begins_51 rfl ?_
    refine hh_getR dX12_begins_52 kf_X12_28 rf_128_17 ?_
    refine hh_aload_n dX12_begins_55 rfl ?_
    refine hh_getI dX12_begins_56 kf_X12_151 rf_128_18 rfl ?_
    refine hh_iload_n dX12_begins_59 rfl ?_
    refine hh_if_eq (tgt := 67) dX12_begins_60 (by decide) (fun c => ?_) (fun c => ?_)
    · replace h := h.1 c
      refine hh_iconst dX12_begins_67 (by decide) ?_
      exact hh_forget [true, true, false] (w_X12_begins_68 _ _ _ _ h)
    · replace h := h.2 c
      refine hh_iconst dX12_begins_63 (by decide) ?_
      refine hh_goto (tgt := 68) dX12_begins_64 (by decide) ?_
      exact hh_forget [true, true, false] (w_X12_begins_68 _ _ _ _ h)
  · replace h := h.2 c
    refine hh_aload_n dX12_begins_45 rfl ?_
    refine hh_cV0 dX12_begins_46 lk_X12_139 mo_X12_wrong rc_128 (Nat.le_of_ble_eq_true rfl) h (fun _ σ46 h => ?_)
    refine hh_iconst dX12_begins_49 (by decide) ?_
    exact hh_zreturn dX12_begins_50 rfl (by decide) h
set_option maxRecDepth 20000 in
theorem w_X12_begins_18 {d : Nat} {Q : Int → hh_S → Prop} (σ : hh_S) (h : B_X12_begins_18 d Q σ) : hh_J (d + 1) hm_X12_begins 18 [some (hh_R 128), none, none] [] σ Q := by
  unfold B_X12_begins_18 at h
  refine hh_aload_n dX12_begins_18 rfl ?_
  refine hh_bipush dX12_begins_19 (by decide) ?_
  refine hh_cV1 dX12_begins_21 lk_X12_161 mo_X12_isSign rc_128 (Nat.le_of_ble_eq_true rfl) h (fun r21 σ21 h => ?_)
  refine hh_istore_n dX12_begins_24 (by decide) rfl ?_
  refine hh_iload_n dX12_begins_25 rfl ?_
  refine hh_if_eq (tgt := 36) dX12_begins_26 (by decide) (fun c => ?_) (fun c => ?_)
  · replace h := h.1 c
    refine hh_aload_n dX12_begins_36 rfl ?_
    refine hh_getI dX12_begins_37 kf_X12_164 rf_128_19 rfl ?_
    exact hh_forget [true, true, false] (w_X12_begins_40 _ _ _ h)
  · replace h := h.2 c
    refine hh_aload_n dX12_begins_29 rfl ?_
    refine hh_getI dX12_begins_30 kf_X12_158 rf_128_20 rfl ?_
    refine hh_goto (tgt := 40) dX12_begins_33 (by decide) ?_
    exact hh_forget [true, true, false] (w_X12_begins_40 _ _ _ h)
set_option maxRecDepth 20000 in
theorem w_X12_begins {d : Nat} {σ : hh_S} {Q : Int → hh_S → Prop} (h : P_X12_begins d σ Q) : hh_J (d + 1) hm_X12_begins 0 [some (hh_R 128), none, none] [] σ Q := by
  unfold P_X12_begins at h
  refine hh_aload_n dX12_begins_0 rfl ?_
  refine hh_bipush dX12_begins_1 (by decide) ?_
  refine hh_cV1 dX12_begins_3 lk_X12_161 mo_X12_isSign rc_128 (Nat.le_of_ble_eq_true rfl) h (fun r3 σ3 h => ?_)
  refine hh_if_ne (tgt := 18) dX12_begins_6 (by decide) (fun c => ?_) (fun c => ?_)
  · replace h := h.1 c
    exact hh_forget [true, false, false] (w_X12_begins_18 _ h)
  · replace h := h.2 c
    refine hh_aload_n dX12_begins_9 rfl ?_
    refine hh_bipush dX12_begins_10 (by decide) ?_
    refine hh_cV1 dX12_begins_12 lk_X12_161 mo_X12_isSign rc_128 (Nat.le_of_ble_eq_true rfl) h (fun r12 σ12 h => ?_)
    refine hh_if_eq (tgt := 121) dX12_begins_15 (by decide) (fun c => ?_) (fun c => ?_)
    · replace h := h.1 c
      refine hh_aload_n dX12_begins_121 rfl ?_
      refine hh_getI dX12_begins_122 kf_X12_133 rf_128_10 rfl ?_
      refine hh_iconst dX12_begins_125 (by decide) ?_
      refine hh_icmp_ne (tgt := 187) dX12_begins_126 (by decide) (fun c => ?_) (fun c => ?_)
      · replace h := h.1 c
        exact hh_forget [true, false, false] (w_X12_begins_187 _ h)
      · replace h := h.2 c
        obtain ⟨q1, h⟩ := h
        refine hh_aload_n dX12_begins_129 rfl ?_
        refine hh_getI dX12_begins_130 kf_X12_127 rf_128_8 rfl ?_
        refine hh_aload_n dX12_begins_133 rfl ?_
        refine hh_getI dX12_begins_134 kf_X12_121 rf_128_7 rfl ?_
        refine hh_isub dX12_begins_137 q1 ?_
        refine hh_iconst dX12_begins_138 (by decide) ?_
        refine hh_icmp_gt (tgt := 187) dX12_begins_139 (by decide) (fun c => ?_) (fun c => ?_)
        · replace h := h.1 c
          exact hh_forget [true, false, false] (w_X12_begins_187 _ h)
        · replace h := h.2 c
          refine hh_iconst dX12_begins_142 (by decide) ?_
          refine hh_istore_n dX12_begins_143 (by decide) rfl ?_
          refine hh_aload_n dX12_begins_144 rfl ?_
          refine hh_getI dX12_begins_145 kf_X12_121 rf_128_7 rfl ?_
          refine hh_istore_n dX12_begins_148 (by decide) rfl ?_
          obtain ⟨n, h⟩ := h
          exact hh_forget [true, true, true] (l_X12_begins_149 n _ _ _ h)
    · replace h := h.2 c
      exact hh_forget [true, false, false] (w_X12_begins_18 _ h)
theorem wp_X12_begins {d : Nat} {σ : hh_S} {Q : Int → hh_S → Prop} (h : hh_cs σ → P_X12_begins d σ Q) : hh_Sp (d + 1) hm_X12_begins [hh_R 128] σ Q :=
  hh_entry rfl (Nat.le_of_ble_eq_true rfl) rfl (fun hs hc => w_X12_begins (h hs))
def P_X12_signHere (d : Nat) (σ : hh_S) (Q : Int → hh_S → Prop) : Prop :=
  (σ 128 10 = 3 → ((0 ≤ σ 128 7 ∧ σ 128 7 < 120)) ∧ ((σ 133 (σ 128 7) = 38 → Q 20 σ) ∧ (σ 133 (σ 128 7) = 42 → Q 50 σ) ∧ (σ 133 (σ 128 7) = 43 → Q 40 σ) ∧ (σ 133 (σ 128 7) = 45 → Q 41 σ) ∧ (σ 133 (σ 128 7) = 47 → Q 51 σ) ∧ (σ 133 (σ 128 7) = 60 → Q 30 σ) ∧ (σ 133 (σ 128 7) = 61 → Q 31 σ) ∧ (σ 133 (σ 128 7) = 62 → Q 32 σ) ∧ (σ 133 (σ 128 7) = 124 → Q 10 σ) ∧ (σ 133 (σ 128 7) ≠ 38 ∧ σ 133 (σ 128 7) ≠ 42 ∧ σ 133 (σ 128 7) ≠ 43 ∧ σ 133 (σ 128 7) ≠ 45 ∧ σ 133 (σ 128 7) ≠ 47 ∧ σ 133 (σ 128 7) ≠ 60 ∧ σ 133 (σ 128 7) ≠ 61 ∧ σ 133 (σ 128 7) ≠ 62 ∧ σ 133 (σ 128 7) ≠ 124 → Q 0 σ))) ∧ (¬ σ 128 10 = 3 → Q 0 σ)
set_option maxRecDepth 20000 in
theorem w_X12_signHere {d : Nat} {σ : hh_S} {Q : Int → hh_S → Prop} (h : P_X12_signHere d σ Q) : hh_J (d + 1) hm_X12_signHere 0 [some (hh_R 128)] [] σ Q := by
  unfold P_X12_signHere at h
  refine hh_aload_n dX12_signHere_0 rfl ?_
  refine hh_getI dX12_signHere_1 kf_X12_133 rf_128_10 rfl ?_
  refine hh_iconst dX12_signHere_4 (by decide) ?_
  refine hh_icmp_eq (tgt := 10) dX12_signHere_5 (by decide) (fun c => ?_) (fun c => ?_)
  · replace h := h.1 c
    obtain ⟨q1, h⟩ := h
    refine hh_aload_n dX12_signHere_10 rfl ?_
    refine hh_getR dX12_signHere_11 kf_X12_22 rf_128_5 ?_
    refine hh_aload_n dX12_signHere_14 rfl ?_
    refine hh_getI dX12_signHere_15 kf_X12_121 rf_128_7 rfl ?_
    refine hh_iald dX12_signHere_18 ra_133 q1 rfl ?_
    refine hh_lookup dX12_signHere_19 (by decide) ?_
    by_cases c0 : σ 133 (σ 128 7) = 38
    · refine ⟨84, 103, by rw [c0]; rfl, by decide, ?_⟩
      replace h := h.1 c0
      refine hh_bipush dX12_signHere_103 (by decide) ?_
      exact hh_ireturn dX12_signHere_105 rfl h
    by_cases c1 : σ 133 (σ 128 7) = 42
    · refine ⟨102, 121, by rw [c1]; rfl, by decide, ?_⟩
      replace h := h.2.1 c1
      refine hh_bipush dX12_signHere_121 (by decide) ?_
      exact hh_ireturn dX12_signHere_123 rfl h
    by_cases c2 : σ 133 (σ 128 7) = 43
    · refine ⟨96, 115, by rw [c2]; rfl, by decide, ?_⟩
      replace h := h.2.2.1 c2
      refine hh_bipush dX12_signHere_115 (by decide) ?_
      exact hh_ireturn dX12_signHere_117 rfl h
    by_cases c3 : σ 133 (σ 128 7) = 45
    · refine ⟨99, 118, by rw [c3]; rfl, by decide, ?_⟩
      replace h := h.2.2.2.1 c3
      refine hh_bipush dX12_signHere_118 (by decide) ?_
      exact hh_ireturn dX12_signHere_120 rfl h
    by_cases c4 : σ 133 (σ 128 7) = 47
    · refine ⟨105, 124, by rw [c4]; rfl, by decide, ?_⟩
      replace h := h.2.2.2.2.1 c4
      refine hh_bipush dX12_signHere_124 (by decide) ?_
      exact hh_ireturn dX12_signHere_126 rfl h
    by_cases c5 : σ 133 (σ 128 7) = 60
    · refine ⟨87, 106, by rw [c5]; rfl, by decide, ?_⟩
      replace h := h.2.2.2.2.2.1 c5
      refine hh_bipush dX12_signHere_106 (by decide) ?_
      exact hh_ireturn dX12_signHere_108 rfl h
    by_cases c6 : σ 133 (σ 128 7) = 61
    · refine ⟨90, 109, by rw [c6]; rfl, by decide, ?_⟩
      replace h := h.2.2.2.2.2.2.1 c6
      refine hh_bipush dX12_signHere_109 (by decide) ?_
      exact hh_ireturn dX12_signHere_111 rfl h
    by_cases c7 : σ 133 (σ 128 7) = 62
    · refine ⟨93, 112, by rw [c7]; rfl, by decide, ?_⟩
      replace h := h.2.2.2.2.2.2.2.1 c7
      refine hh_bipush dX12_signHere_112 (by decide) ?_
      exact hh_ireturn dX12_signHere_114 rfl h
    by_cases c8 : σ 133 (σ 128 7) = 124
    · refine ⟨81, 100, by rw [c8]; rfl, by decide, ?_⟩
      replace h := h.2.2.2.2.2.2.2.2.1 c8
      refine hh_bipush dX12_signHere_100 (by decide) ?_
      exact hh_ireturn dX12_signHere_102 rfl h
    refine ⟨108, 127, by simp [Op.lookupswitch.offset, Ne.symm c0, Ne.symm c1, Ne.symm c2, Ne.symm c3, Ne.symm c4, Ne.symm c5, Ne.symm c6, Ne.symm c7, Ne.symm c8], by decide, ?_⟩
    replace h := h.2.2.2.2.2.2.2.2.2 ⟨c0, c1, c2, c3, c4, c5, c6, c7, c8⟩
    refine hh_iconst dX12_signHere_127 (by decide) ?_
    exact hh_ireturn dX12_signHere_128 rfl h
  · replace h := h.2 c
    refine hh_iconst dX12_signHere_8 (by decide) ?_
    exact hh_ireturn dX12_signHere_9 rfl h
theorem wp_X12_signHere {d : Nat} {σ : hh_S} {Q : Int → hh_S → Prop} (h : hh_cs σ → P_X12_signHere d σ Q) : hh_Sp (d + 1) hm_X12_signHere [hh_R 128] σ Q :=
  hh_entry rfl (Nat.le_of_ble_eq_true rfl) rfl (fun hs hc => w_X12_signHere (h hs))
def B_X12_works_0 (d : Nat) (Q : Int → hh_S → Prop) (k0 : Int → hh_S → Prop) (x1 : Int) (σ : hh_S) : Prop :=
  (σ 128 18 ≤ 0 → Q 0 σ) ∧ (¬ σ 128 18 ≤ 0 → ((-2147483648 ≤ σ 128 18 - 1 ∧ σ 128 18 - 1 ≤ 2147483647) ∧ (0 ≤ σ 128 18 - 1 ∧ σ 128 18 - 1 < 130)) ∧ ((σ 135 (σ 128 18 - 1) < 10 → Q 0 σ) ∧ (¬ σ 135 (σ 128 18 - 1) < 10 → ((-2147483648 ≤ σ 128 18 - 1 ∧ σ 128 18 - 1 ≤ 2147483647) ∧ (0 ≤ σ 128 18 - 1 ∧ σ 128 18 - 1 < 130) ∧ 0 ≤ σ 135 (σ 128 18 - 1)) ∧ (((σ 135 (σ 128 18 - 1)) / 10 < x1 → Q 0 σ) ∧ (¬ (σ 135 (σ 128 18 - 1)) / 10 < x1 → ((-2147483648 ≤ σ 128 18 - 1 ∧ σ 128 18 - 1 ≤ 2147483647) ∧ (0 ≤ σ 128 18 - 1 ∧ σ 128 18 - 1 < 130)) ∧ (hh_Sp d hm_X12_emit [hh_R 128, hh_I (σ 135 (σ 128 18 - 1)), hh_I 0] (hh_up σ 128 18 (σ 128 18 - 1)) (fun _ σ62 => k0 x1 σ62)))))))
def P_X12_works (d : Nat) (a1 : Int) (σ : hh_S) (Q : Int → hh_S → Prop) : Prop :=
  ∃ n, hh_lp1 (B_X12_works_0 d Q) n a1 σ
set_option maxRecDepth 20000 in
theorem w_X12_works_0 {d : Nat} {Q : Int → hh_S → Prop} {k0 : Int → hh_S → Prop} (hk0 : ∀ (x1 : Int) (σ : hh_S), k0 x1 σ → hh_J (d + 1) hm_X12_works 0 [some (hh_R 128), some (hh_I x1)] [] σ Q) (x1 : Int) (σ : hh_S) (h : B_X12_works_0 d Q k0 x1 σ) : hh_J (d + 1) hm_X12_works 0 [some (hh_R 128), some (hh_I x1)] [] σ Q := by
  unfold B_X12_works_0 at h
  refine hh_aload_n dX12_works_0 rfl ?_
  refine hh_getI dX12_works_1 kf_X12_151 rf_128_18 rfl ?_
  refine hh_if_le (tgt := 68) dX12_works_4 (by decide) (fun c => ?_) (fun c => ?_)
  · replace h := h.1 c
    exact hh_vreturn dX12_works_68 rfl h
  · replace h := h.2 c
    obtain ⟨⟨q1, q2⟩, h⟩ := h
    refine hh_aload_n dX12_works_7 rfl ?_
    refine hh_getR dX12_works_8 kf_X12_28 rf_128_17 ?_
    refine hh_aload_n dX12_works_11 rfl ?_
    refine hh_getI dX12_works_12 kf_X12_151 rf_128_18 rfl ?_
    refine hh_iconst dX12_works_15 (by decide) ?_
    refine hh_isub dX12_works_16 q1 ?_
    refine hh_iald dX12_works_17 ra_135 q2 rfl ?_
    refine hh_bipush dX12_works_18 (by decide) ?_
    refine hh_icmp_lt (tgt := 68) dX12_works_20 (by decide) (fun c => ?_) (fun c => ?_)
    · replace h := h.1 c
      exact hh_vreturn dX12_works_68 rfl h
    · replace h := h.2 c
      obtain ⟨⟨q1, q2, q3⟩, h⟩ := h
      refine hh_aload_n dX12_works_23 rfl ?_
      refine hh_getR dX12_works_24 kf_X12_28 rf_128_17 ?_
      refine hh_aload_n dX12_works_27 rfl ?_
      refine hh_getI dX12_works_28 kf_X12_151 rf_128_18 rfl ?_
      refine hh_iconst dX12_works_31 (by decide) ?_
      refine hh_isub dX12_works_32 q1 ?_
      refine hh_iald dX12_works_33 ra_135 q2 rfl ?_
      refine hh_bipush dX12_works_34 (by decide) ?_
      refine hh_idiv dX12_works_36 q3 (by decide) ?_
      refine hh_iload_n dX12_works_37 rfl ?_
      refine hh_icmp_lt (tgt := 68) dX12_works_38 (by decide) (fun c => ?_) (fun c => ?_)
      · replace h := h.1 c
        exact hh_vreturn dX12_works_68 rfl h
      · replace h := h.2 c
        obtain ⟨⟨q1, q2⟩, h⟩ := h
        refine hh_aload_n dX12_works_41 rfl ?_
        refine hh_dup dX12_works_42 (fun _ => rfl) ?_
        refine hh_getI dX12_works_43 kf_X12_151 rf_128_18 rfl ?_
        refine hh_iconst dX12_works_46 (by decide) ?_
        refine hh_isub dX12_works_47 q1 ?_
        refine hh_putI dX12_works_48 kp_X12_151 rf_128_18 ?_
        refine hh_aload_n dX12_works_51 rfl ?_
        refine hh_aload_n dX12_works_52 rfl ?_
        refine hh_getR dX12_works_53 kf_X12_28 rf_128_17 ?_
        refine hh_aload_n dX12_works_56 rfl ?_
        refine hh_getI dX12_works_57 kf_X12_151 rf_128_18 rfl ?_
        refine hh_iald dX12_works_60 ra_135 q2 rfl ?_
        refine hh_iconst dX12_works_61 (by decide) ?_
        refine hh_cV2 dX12_works_62 lk_X12_154 mo_X12_emit rc_128 (Nat.le_of_ble_eq_true rfl) h (fun _ σ62 h => ?_)
        refine hh_goto (tgt := 0) dX12_works_65 (by decide) ?_
        exact hh_forget [true, true] (hk0 _ _ h)
theorem l_X12_works_0 {d : Nat} {Q : Int → hh_S → Prop} : ∀ (n : Nat) (x1 : Int) (σ : hh_S), hh_lp1 (B_X12_works_0 d Q) n x1 σ → hh_J (d + 1) hm_X12_works 0 [some (hh_R 128), some (hh_I x1)] [] σ Q := by
  intro n
  induction n with
  | zero => intro _ _ h; exact h.elim
  | succ n ih => intro x1 σ h; exact w_X12_works_0 ih x1 σ h
set_option maxRecDepth 20000 in
theorem w_X12_works {d : Nat} {a1 : Int} {σ : hh_S} {Q : Int → hh_S → Prop} (h : P_X12_works d a1 σ Q) : hh_J (d + 1) hm_X12_works 0 [some (hh_R 128), some (hh_I a1)] [] σ Q := by
  unfold P_X12_works at h
  obtain ⟨n, h⟩ := h
  exact hh_forget [true, true] (l_X12_works_0 n _ _ h)
theorem wp_X12_works {d : Nat} (a1 : Int) {σ : hh_S} {Q : Int → hh_S → Prop} (h : hh_cs σ → hh_can a1 → P_X12_works d a1 σ Q) : hh_Sp (d + 1) hm_X12_works [hh_R 128, hh_I a1] σ Q :=
  hh_entry rfl (Nat.le_of_ble_eq_true rfl) rfl (fun hs hc => w_X12_works (h hs (hc _ (List.mem_of_getElem? (i := 1) rfl))))
def B_X12_expression_208 (d : Nat) (Q : Int → hh_S → Prop) (σ : hh_S) : Prop :=
  (¬ σ 128 12 = 0 → Q 0 σ) ∧ (σ 128 12 = 0 → hh_Sp d hm_X12_works [hh_R 128, hh_I 1] σ (fun _ σ217 => Q 0 σ217))
def B_X12_expression_205 (d : Nat) (Q : Int → hh_S → Prop) (k19 : Int → Int → hh_S → Prop) (x1 x2 : Int) (σ : hh_S) : Prop :=
  k19 x1 x2 σ
def B_X12_expression_192 (d : Nat) (Q : Int → hh_S → Prop) (k19 : Int → Int → hh_S → Prop) (x1 : Int) (σ : hh_S) : Prop :=
  (σ 128 19 ≤ 0 → B_X12_expression_205 d Q k19 x1 0 σ) ∧ (¬ σ 128 19 ≤ 0 → hh_Sp d hm_X12_wrong [hh_R 128] σ (fun _ σ202 => B_X12_expression_205 d Q k19 x1 0 σ202))
def B_X12_expression_111 (d : Nat) (Q : Int → hh_S → Prop) (k19 : Int → Int → hh_S → Prop) (x2 x3 : Int) (σ : hh_S) : Prop :=
  ((0 ≤ σ 128 18 ∧ σ 128 18 < 130) ∧ (-2147483648 ≤ σ 128 18 + 1 ∧ σ 128 18 + 1 ≤ 2147483647)) ∧ (hh_Sp d hm_X12_next [hh_R 128] (hh_up (hh_up σ 135 (σ 128 18) x3) 128 18 (σ 128 18 + 1)) (fun _ σ134 => B_X12_expression_205 d Q k19 1 x2 σ134))
def B_X12_expression_68 (d : Nat) (Q : Int → hh_S → Prop) (k19 : Int → Int → hh_S → Prop) (x1 x2 x3 s1 : Int) (σ : hh_S) : Prop :=
  hh_Sp d hm_X12_works [hh_R 128, hh_I s1] σ (fun _ σ68 => (0 ≤ x3) ∧ ((¬ x3 / 10 = 3 → B_X12_expression_111 d Q k19 x2 x3 σ68) ∧ (x3 / 10 = 3 → (σ68 128 18 ≤ 0 → B_X12_expression_111 d Q k19 x2 x3 σ68) ∧ (¬ σ68 128 18 ≤ 0 → ((-2147483648 ≤ σ68 128 18 - 1 ∧ σ68 128 18 - 1 ≤ 2147483647) ∧ (0 ≤ σ68 128 18 - 1 ∧ σ68 128 18 - 1 < 130) ∧ 0 ≤ σ68 135 (σ68 128 18 - 1)) ∧ ((¬ (σ68 135 (σ68 128 18 - 1)) / 10 = 3 → B_X12_expression_111 d Q k19 x2 x3 σ68) ∧ ((σ68 135 (σ68 128 18 - 1)) / 10 = 3 → hh_Sp d hm_X12_wrong [hh_R 128] σ68 (fun _ σ105 => B_X12_expression_205 d Q k19 x1 x2 σ105)))))))
def B_X12_expression_19 (d : Nat) (Q : Int → hh_S → Prop) (k19 : Int → Int → hh_S → Prop) (x1 x2 : Int) (σ : hh_S) : Prop :=
  (x2 = 0 → B_X12_expression_208 d Q σ) ∧ (¬ x2 = 0 → (¬ σ 128 12 = 0 → B_X12_expression_208 d Q σ) ∧ (σ 128 12 = 0 → (x1 = 0 → hh_Sp d hm_X12_signHere [hh_R 128] σ (fun r43 σ43 => (r43 = 0 → hh_Sp d hm_X12_isSign [hh_R 128, hh_I 41] σ43 (fun r143 σ143 => (r143 = 0 → B_X12_expression_192 d Q k19 x1 σ143) ∧ (¬ r143 = 0 → (σ143 128 19 ≤ 0 → B_X12_expression_192 d Q k19 x1 σ143) ∧ (¬ σ143 128 19 ≤ 0 → hh_Sp d hm_X12_works [hh_R 128, hh_I 1] σ143 (fun _ σ158 => ((-2147483648 ≤ σ158 128 18 - 1 ∧ σ158 128 18 - 1 ≤ 2147483647) ∧ (-2147483648 ≤ σ158 128 19 - 1 ∧ σ158 128 19 - 1 ≤ 2147483647)) ∧ (hh_Sp d hm_X12_next [hh_R 128] (hh_up (hh_up σ158 128 18 (σ158 128 18 - 1)) 128 19 (σ158 128 19 - 1)) (fun _ σ182 => hh_Sp d hm_X12_parted [hh_R 128] σ182 (fun _ σ186 => B_X12_expression_205 d Q k19 x1 x2 σ186)))))))) ∧ (¬ r43 = 0 → (0 ≤ r43) ∧ ((¬ r43 / 10 = 3 → (0 ≤ r43) ∧ (B_X12_expression_68 d Q k19 x1 x2 r43 (r43 / 10) σ43)) ∧ (r43 / 10 = 3 → B_X12_expression_68 d Q k19 x1 x2 r43 4 σ43))))) ∧ (¬ x1 = 0 → hh_Sp d hm_X12_begins [hh_R 128] σ (fun r35 σ35 => k19 r35 x2 σ35))))
def P_X12_expression (d : Nat) (σ : hh_S) (Q : Int → hh_S → Prop) : Prop :=
  ∃ n, hh_lp2 (B_X12_expression_19 d Q) n 1 1 (hh_up (hh_up (hh_up σ 128 18 0) 128 19 0) 128 20 0)
set_option maxRecDepth 20000 in
theorem w_X12_expression_208 {d : Nat} {Q : Int → hh_S → Prop} (σ : hh_S) (h : B_X12_expression_208 d Q σ) : hh_J (d + 1) hm_X12_expression 208 [some (hh_R 128), none, none, none] [] σ Q := by
  unfold B_X12_expression_208 at h
  refine hh_aload_n dX12_expression_208 rfl ?_
  refine hh_getI dX12_expression_209 kf_X12_117 rf_128_12 rfl ?_
  refine hh_if_ne (tgt := 220) dX12_expression_212 (by decide) (fun c => ?_) (fun c => ?_)
  · replace h := h.1 c
    exact hh_vreturn dX12_expression_220 rfl h
  · replace h := h.2 c
    refine hh_aload_n dX12_expression_215 rfl ?_
    refine hh_iconst dX12_expression_216 (by decide) ?_
    refine hh_cV1 dX12_expression_217 lk_X12_187 mo_X12_works rc_128 (Nat.le_of_ble_eq_true rfl) h (fun _ σ217 h => ?_)
    exact hh_vreturn dX12_expression_220 rfl h
set_option maxRecDepth 20000 in
theorem w_X12_expression_205 {d : Nat} {Q : Int → hh_S → Prop} {k19 : Int → Int → hh_S → Prop} (hk19 : ∀ (x1 x2 : Int) (σ : hh_S), k19 x1 x2 σ → hh_J (d + 1) hm_X12_expression 19 [some (hh_R 128), some (hh_I x1), some (hh_I x2), none] [] σ Q) (x1 x2 : Int) (σ : hh_S) (h : B_X12_expression_205 d Q k19 x1 x2 σ) : hh_J (d + 1) hm_X12_expression 205 [some (hh_R 128), some (hh_I x1), some (hh_I x2), none] [] σ Q := by
  unfold B_X12_expression_205 at h
  refine hh_goto (tgt := 19) dX12_expression_205 (by decide) ?_
  exact hh_forget [true, true, true, false] (hk19 _ _ _ h)
set_option maxRecDepth 20000 in
theorem w_X12_expression_192 {d : Nat} {Q : Int → hh_S → Prop} {k19 : Int → Int → hh_S → Prop} (hk19 : ∀ (x1 x2 : Int) (σ : hh_S), k19 x1 x2 σ → hh_J (d + 1) hm_X12_expression 19 [some (hh_R 128), some (hh_I x1), some (hh_I x2), none] [] σ Q) (x1 : Int) (σ : hh_S) (h : B_X12_expression_192 d Q k19 x1 σ) : hh_J (d + 1) hm_X12_expression 192 [some (hh_R 128), some (hh_I x1), none, none] [] σ Q := by
  unfold B_X12_expression_192 at h
  refine hh_iconst dX12_expression_192 (by decide) ?_
  refine hh_istore_n dX12_expression_193 (by decide) rfl ?_
  refine hh_aload_n dX12_expression_194 rfl ?_
  refine hh_getI dX12_expression_195 kf_X12_164 rf_128_19 rfl ?_
  refine hh_if_le (tgt := 205) dX12_expression_198 (by decide) (fun c => ?_) (fun c => ?_)
  · replace h := h.1 c
    exact hh_forget [true, true, true, false] (w_X12_expression_205 hk19 _ _ _ h)
  · replace h := h.2 c
    refine hh_aload_n dX12_expression_201 rfl ?_
    refine hh_cV0 dX12_expression_202 lk_X12_139 mo_X12_wrong rc_128 (Nat.le_of_ble_eq_true rfl) h (fun _ σ202 h => ?_)
    exact hh_forget [true, true, true, false] (w_X12_expression_205 hk19 _ _ _ h)
set_option maxRecDepth 20000 in
theorem w_X12_expression_111 {d : Nat} {Q : Int → hh_S → Prop} {k19 : Int → Int → hh_S → Prop} (hk19 : ∀ (x1 x2 : Int) (σ : hh_S), k19 x1 x2 σ → hh_J (d + 1) hm_X12_expression 19 [some (hh_R 128), some (hh_I x1), some (hh_I x2), none] [] σ Q) (x2 x3 : Int) (σ : hh_S) (h : B_X12_expression_111 d Q k19 x2 x3 σ) : hh_J (d + 1) hm_X12_expression 111 [some (hh_R 128), none, some (hh_I x2), some (hh_I x3)] [] σ Q := by
  unfold B_X12_expression_111 at h
  obtain ⟨⟨q1, q2⟩, h⟩ := h
  refine hh_aload_n dX12_expression_111 rfl ?_
  refine hh_getR dX12_expression_112 kf_X12_28 rf_128_17 ?_
  refine hh_aload_n dX12_expression_115 rfl ?_
  refine hh_getI dX12_expression_116 kf_X12_151 rf_128_18 rfl ?_
  refine hh_iload_n dX12_expression_119 rfl ?_
  refine hh_iast dX12_expression_120 ra_135 q1 ?_
  refine hh_aload_n dX12_expression_121 rfl ?_
  refine hh_dup dX12_expression_122 (fun _ => rfl) ?_
  refine hh_getI dX12_expression_123 kf_X12_151 rf_128_18 rfl ?_
  refine hh_iconst dX12_expression_126 (by decide) ?_
  refine hh_iadd dX12_expression_127 q2 ?_
  refine hh_putI dX12_expression_128 kp_X12_151 rf_128_18 ?_
  refine hh_iconst dX12_expression_131 (by decide) ?_
  refine hh_istore_n dX12_expression_132 (by decide) rfl ?_
  refine hh_aload_n dX12_expression_133 rfl ?_
  refine hh_cV0 dX12_expression_134 lk_X12_167 mo_X12_next rc_128 (Nat.le_of_ble_eq_true rfl) h (fun _ σ134 h => ?_)
  refine hh_goto (tgt := 205) dX12_expression_137 (by decide) ?_
  exact hh_forget [true, true, true, false] (w_X12_expression_205 hk19 _ _ _ h)
set_option maxRecDepth 20000 in
theorem w_X12_expression_68 {d : Nat} {Q : Int → hh_S → Prop} {k19 : Int → Int → hh_S → Prop} (hk19 : ∀ (x1 x2 : Int) (σ : hh_S), k19 x1 x2 σ → hh_J (d + 1) hm_X12_expression 19 [some (hh_R 128), some (hh_I x1), some (hh_I x2), none] [] σ Q) (x1 x2 x3 s1 : Int) (σ : hh_S) (h : B_X12_expression_68 d Q k19 x1 x2 x3 s1 σ) : hh_J (d + 1) hm_X12_expression 68 [some (hh_R 128), some (hh_I x1), some (hh_I x2), some (hh_I x3)] [hh_I s1, hh_R 128] σ Q := by
  unfold B_X12_expression_68 at h
  refine hh_cV1 dX12_expression_68 lk_X12_187 mo_X12_works rc_128 (Nat.le_of_ble_eq_true rfl) h (fun _ σ68 h => ?_)
  obtain ⟨q1, h⟩ := h
  refine hh_iload_n dX12_expression_71 rfl ?_
  refine hh_bipush dX12_expression_72 (by decide) ?_
  refine hh_idiv dX12_expression_74 q1 (by decide) ?_
  refine hh_iconst dX12_expression_75 (by decide) ?_
  refine hh_icmp_ne (tgt := 111) dX12_expression_76 (by decide) (fun c => ?_) (fun c => ?_)
  · replace h := h.1 c
    exact hh_forget [true, false, true, true] (w_X12_expression_111 hk19 _ _ _ h)
  · replace h := h.2 c
    refine hh_aload_n dX12_expression_79 rfl ?_
    refine hh_getI dX12_expression_80 kf_X12_151 rf_128_18 rfl ?_
    refine hh_if_le (tgt := 111) dX12_expression_83 (by decide) (fun c => ?_) (fun c => ?_)
    · replace h := h.1 c
      exact hh_forget [true, false, true, true] (w_X12_expression_111 hk19 _ _ _ h)
    · replace h := h.2 c
      obtain ⟨⟨q1, q2, q3⟩, h⟩ := h
      refine hh_aload_n dX12_expression_86 rfl ?_
      refine hh_getR dX12_expression_87 kf_X12_28 rf_128_17 ?_
      refine hh_aload_n dX12_expression_90 rfl ?_
      refine hh_getI dX12_expression_91 kf_X12_151 rf_128_18 rfl ?_
      refine hh_iconst dX12_expression_94 (by decide) ?_
      refine hh_isub dX12_expression_95 q1 ?_
      refine hh_iald dX12_expression_96 ra_135 q2 rfl ?_
      refine hh_bipush dX12_expression_97 (by decide) ?_
      refine hh_idiv dX12_expression_99 q3 (by decide) ?_
      refine hh_iconst dX12_expression_100 (by decide) ?_
      refine hh_icmp_ne (tgt := 111) dX12_expression_101 (by decide) (fun c => ?_) (fun c => ?_)
      · replace h := h.1 c
        exact hh_forget [true, false, true, true] (w_X12_expression_111 hk19 _ _ _ h)
      · replace h := h.2 c
        refine hh_aload_n dX12_expression_104 rfl ?_
        refine hh_cV0 dX12_expression_105 lk_X12_139 mo_X12_wrong rc_128 (Nat.le_of_ble_eq_true rfl) h (fun _ σ105 h => ?_)
        refine hh_goto (tgt := 205) dX12_expression_108 (by decide) ?_
        exact hh_forget [true, true, true, false] (w_X12_expression_205 hk19 _ _ _ h)
set_option maxRecDepth 20000 in
theorem w_X12_expression_19 {d : Nat} {Q : Int → hh_S → Prop} {k19 : Int → Int → hh_S → Prop} (hk19 : ∀ (x1 x2 : Int) (σ : hh_S), k19 x1 x2 σ → hh_J (d + 1) hm_X12_expression 19 [some (hh_R 128), some (hh_I x1), some (hh_I x2), none] [] σ Q) (x1 x2 : Int) (σ : hh_S) (h : B_X12_expression_19 d Q k19 x1 x2 σ) : hh_J (d + 1) hm_X12_expression 19 [some (hh_R 128), some (hh_I x1), some (hh_I x2), none] [] σ Q := by
  unfold B_X12_expression_19 at h
  refine hh_iload_n dX12_expression_19 rfl ?_
  refine hh_if_eq (tgt := 208) dX12_expression_20 (by decide) (fun c => ?_) (fun c => ?_)
  · replace h := h.1 c
    exact hh_forget [true, false, false, false] (w_X12_expression_208 _ h)
  · replace h := h.2 c
    refine hh_aload_n dX12_expression_23 rfl ?_
    refine hh_getI dX12_expression_24 kf_X12_117 rf_128_12 rfl ?_
    refine hh_if_ne (tgt := 208) dX12_expression_27 (by decide) (fun c => ?_) (fun c => ?_)
    · replace h := h.1 c
      exact hh_forget [true, false, false, false] (w_X12_expression_208 _ h)
    · replace h := h.2 c
      refine hh_iload_n dX12_expression_30 rfl ?_
      refine hh_if_eq (tgt := 42) dX12_expression_31 (by decide) (fun c => ?_) (fun c => ?_)
      · replace h := h.1 c
        refine hh_aload_n dX12_expression_42 rfl ?_
        refine hh_cV0 dX12_expression_43 lk_X12_183 mo_X12_signHere rc_128 (Nat.le_of_ble_eq_true rfl) h (fun r43 σ43 h => ?_)
        refine hh_istore_n dX12_expression_46 (by decide) rfl ?_
        refine hh_iload_n dX12_expression_47 rfl ?_
        refine hh_if_eq (tgt := 140) dX12_expression_48 (by decide) (fun c => ?_) (fun c => ?_)
        · replace h := h.1 c
          refine hh_aload_n dX12_expression_140 rfl ?_
          refine hh_bipush dX12_expression_141 (by decide) ?_
          refine hh_cV1 dX12_expression_143 lk_X12_161 mo_X12_isSign rc_128 (Nat.le_of_ble_eq_true rfl) h (fun r143 σ143 h => ?_)
          refine hh_if_eq (tgt := 192) dX12_expression_146 (by decide) (fun c => ?_) (fun c => ?_)
          · replace h := h.1 c
            exact hh_forget [true, true, false, false] (w_X12_expression_192 hk19 _ _ h)
          · replace h := h.2 c
            refine hh_aload_n dX12_expression_149 rfl ?_
            refine hh_getI dX12_expression_150 kf_X12_164 rf_128_19 rfl ?_
            refine hh_if_le (tgt := 192) dX12_expression_153 (by decide) (fun c => ?_) (fun c => ?_)
            · replace h := h.1 c
              exact hh_forget [true, true, false, false] (w_X12_expression_192 hk19 _ _ h)
            · replace h := h.2 c
              refine hh_aload_n dX12_expression_156 rfl ?_
              refine hh_iconst dX12_expression_157 (by decide) ?_
              refine hh_cV1 dX12_expression_158 lk_X12_187 mo_X12_works rc_128 (Nat.le_of_ble_eq_true rfl) h (fun _ σ158 h => ?_)
              obtain ⟨⟨q1, q2⟩, h⟩ := h
              refine hh_aload_n dX12_expression_161 rfl ?_
              refine hh_dup dX12_expression_162 (fun _ => rfl) ?_
              refine hh_getI dX12_expression_163 kf_X12_151 rf_128_18 rfl ?_
              refine hh_iconst dX12_expression_166 (by decide) ?_
              refine hh_isub dX12_expression_167 q1 ?_
              refine hh_putI dX12_expression_168 kp_X12_151 rf_128_18 ?_
              refine hh_aload_n dX12_expression_171 rfl ?_
              refine hh_dup dX12_expression_172 (fun _ => rfl) ?_
              refine hh_getI dX12_expression_173 kf_X12_164 rf_128_19 rfl ?_
              refine hh_iconst dX12_expression_176 (by decide) ?_
              refine hh_isub dX12_expression_177 q2 ?_
              refine hh_putI dX12_expression_178 kp_X12_164 rf_128_19 ?_
              refine hh_aload_n dX12_expression_181 rfl ?_
              refine hh_cV0 dX12_expression_182 lk_X12_167 mo_X12_next rc_128 (Nat.le_of_ble_eq_true rfl) h (fun _ σ182 h => ?_)
              refine hh_aload_n dX12_expression_185 rfl ?_
              refine hh_cV0 dX12_expression_186 lk_X12_176 mo_X12_parted rc_128 (Nat.le_of_ble_eq_true rfl) h (fun _ σ186 h => ?_)
              refine hh_goto (tgt := 205) dX12_expression_189 (by decide) ?_
              exact hh_forget [true, true, true, false] (w_X12_expression_205 hk19 _ _ _ h)
        · replace h := h.2 c
          obtain ⟨q1, h⟩ := h
          refine hh_aload_n dX12_expression_51 rfl ?_
          refine hh_iload_n dX12_expression_52 rfl ?_
          refine hh_bipush dX12_expression_53 (by decide) ?_
          refine hh_idiv dX12_expression_55 q1 (by decide) ?_
          refine hh_iconst dX12_expression_56 (by decide) ?_
          refine hh_icmp_ne (tgt := 64) dX12_expression_57 (by decide) (fun c => ?_) (fun c => ?_)
          · replace h := h.1 c
            obtain ⟨q1, h⟩ := h
            refine hh_iload_n dX12_expression_64 rfl ?_
            refine hh_bipush dX12_expression_65 (by decide) ?_
            refine hh_idiv dX12_expression_67 q1 (by decide) ?_
            exact hh_forget [true, true, true, true] (w_X12_expression_68 hk19 _ _ _ _ _ h)
          · replace h := h.2 c
            refine hh_iconst dX12_expression_60 (by decide) ?_
            refine hh_goto (tgt := 68) dX12_expression_61 (by decide) ?_
            exact hh_forget [true, true, true, true] (w_X12_expression_68 hk19 _ _ _ _ _ h)
      · replace h := h.2 c
        refine hh_aload_n dX12_expression_34 rfl ?_
        refine hh_cV0 dX12_expression_35 lk_X12_179 mo_X12_begins rc_128 (Nat.le_of_ble_eq_true rfl) h (fun r35 σ35 h => ?_)
        refine hh_istore_n dX12_expression_38 (by decide) rfl ?_
        refine hh_goto (tgt := 19) dX12_expression_39 (by decide) ?_
        exact hh_forget [true, true, true, false] (hk19 _ _ _ h)
theorem l_X12_expression_19 {d : Nat} {Q : Int → hh_S → Prop} : ∀ (n : Nat) (x1 x2 : Int) (σ : hh_S), hh_lp2 (B_X12_expression_19 d Q) n x1 x2 σ → hh_J (d + 1) hm_X12_expression 19 [some (hh_R 128), some (hh_I x1), some (hh_I x2), none] [] σ Q := by
  intro n
  induction n with
  | zero => intro _ _ _ h; exact h.elim
  | succ n ih => intro x1 x2 σ h; exact w_X12_expression_19 ih x1 x2 σ h
set_option maxRecDepth 20000 in
theorem w_X12_expression {d : Nat} {σ : hh_S} {Q : Int → hh_S → Prop} (h : P_X12_expression d σ Q) : hh_J (d + 1) hm_X12_expression 0 [some (hh_R 128), none, none, none] [] σ Q := by
  unfold P_X12_expression at h
  refine hh_aload_n dX12_expression_0 rfl ?_
  refine hh_iconst dX12_expression_1 (by decide) ?_
  refine hh_putI dX12_expression_2 kp_X12_151 rf_128_18 ?_
  refine hh_aload_n dX12_expression_5 rfl ?_
  refine hh_iconst dX12_expression_6 (by decide) ?_
  refine hh_putI dX12_expression_7 kp_X12_164 rf_128_19 ?_
  refine hh_aload_n dX12_expression_10 rfl ?_
  refine hh_iconst dX12_expression_11 (by decide) ?_
  refine hh_putI dX12_expression_12 kp_X12_158 rf_128_20 ?_
  refine hh_iconst dX12_expression_15 (by decide) ?_
  refine hh_istore_n dX12_expression_16 (by decide) rfl ?_
  refine hh_iconst dX12_expression_17 (by decide) ?_
  refine hh_istore_n dX12_expression_18 (by decide) rfl ?_
  obtain ⟨n, h⟩ := h
  exact hh_forget [true, true, true, false] (l_X12_expression_19 n _ _ _ h)
theorem wp_X12_expression {d : Nat} {σ : hh_S} {Q : Int → hh_S → Prop} (h : hh_cs σ → P_X12_expression d σ Q) : hh_Sp (d + 1) hm_X12_expression [hh_R 128] σ Q :=
  hh_entry rfl (Nat.le_of_ble_eq_true rfl) rfl (fun hs hc => w_X12_expression (h hs))
def B_X12_reads_26 (d : Nat) (Q : Int → hh_S → Prop) (x1 : Int) (σ : hh_S) : Prop :=
  hh_Sp d hm_X12_next [hh_R 128] σ (fun _ σ27 => hh_Sp d hm_X12_expression [hh_R 128] σ27 (fun _ σ31 => ((-2147483648 ≤ 241 * x1 ∧ 241 * x1 ≤ 2147483647) ∧ (0 ≤ 241 * x1 ∧ 241 * x1 < 482)) ∧ (Q 0 (hh_up σ31 134 (241 * x1) (σ31 128 14)))))
def P_X12_reads (d : Nat) (a1 a2 : Int) (σ : hh_S) (Q : Int → hh_S → Prop) : Prop :=
  (σ 128 12 = 0 → (¬ a2 = 0 → B_X12_reads_26 d Q a1 (hh_up (hh_up σ 128 13 a1) 128 14 0)) ∧ (a2 = 0 → hh_Sp d hm_X12_wrong [hh_R 128] (hh_up (hh_up σ 128 13 a1) 128 14 0) (fun _ σ23 => B_X12_reads_26 d Q a1 σ23))) ∧ (¬ σ 128 12 = 0 → Q 0 σ)
set_option maxRecDepth 20000 in
theorem w_X12_reads_26 {d : Nat} {Q : Int → hh_S → Prop} (x1 : Int) (σ : hh_S) (h : B_X12_reads_26 d Q x1 σ) : hh_J (d + 1) hm_X12_reads 26 [some (hh_R 128), some (hh_I x1), none] [] σ Q := by
  unfold B_X12_reads_26 at h
  refine hh_aload_n dX12_reads_26 rfl ?_
  refine hh_cV0 dX12_reads_27 lk_X12_167 mo_X12_next rc_128 (Nat.le_of_ble_eq_true rfl) h (fun _ σ27 h => ?_)
  refine hh_aload_n dX12_reads_30 rfl ?_
  refine hh_cV0 dX12_reads_31 lk_X12_191 mo_X12_expression rc_128 (Nat.le_of_ble_eq_true rfl) h (fun _ σ31 h => ?_)
  obtain ⟨⟨q1, q2⟩, h⟩ := h
  refine hh_aload_n dX12_reads_34 rfl ?_
  refine hh_getR dX12_reads_35 kf_X12_25 rf_128_16 ?_
  refine hh_sipush dX12_reads_38 (by decide) ?_
  refine hh_iload_n dX12_reads_41 rfl ?_
  refine hh_imul dX12_reads_42 q1 ?_
  refine hh_aload_n dX12_reads_43 rfl ?_
  refine hh_getI dX12_reads_44 kf_X12_148 rf_128_14 rfl ?_
  refine hh_iast dX12_reads_47 ra_134 q2 ?_
  exact hh_vreturn dX12_reads_48 rfl h
set_option maxRecDepth 20000 in
theorem w_X12_reads {d : Nat} {a1 a2 : Int} {σ : hh_S} {Q : Int → hh_S → Prop} (h : P_X12_reads d a1 a2 σ Q) : hh_J (d + 1) hm_X12_reads 0 [some (hh_R 128), some (hh_I a1), some (hh_I a2)] [] σ Q := by
  unfold P_X12_reads at h
  refine hh_aload_n dX12_reads_0 rfl ?_
  refine hh_getI dX12_reads_1 kf_X12_117 rf_128_12 rfl ?_
  refine hh_if_eq (tgt := 8) dX12_reads_4 (by decide) (fun c => ?_) (fun c => ?_)
  · replace h := h.1 c
    refine hh_aload_n dX12_reads_8 rfl ?_
    refine hh_iload_n dX12_reads_9 rfl ?_
    refine hh_putI dX12_reads_10 kp_X12_145 rf_128_13 ?_
    refine hh_aload_n dX12_reads_13 rfl ?_
    refine hh_iconst dX12_reads_14 (by decide) ?_
    refine hh_putI dX12_reads_15 kp_X12_148 rf_128_14 ?_
    refine hh_iload_n dX12_reads_18 rfl ?_
    refine hh_if_ne (tgt := 26) dX12_reads_19 (by decide) (fun c => ?_) (fun c => ?_)
    · replace h := h.1 c
      exact hh_forget [true, true, false] (w_X12_reads_26 _ _ h)
    · replace h := h.2 c
      refine hh_aload_n dX12_reads_22 rfl ?_
      refine hh_cV0 dX12_reads_23 lk_X12_139 mo_X12_wrong rc_128 (Nat.le_of_ble_eq_true rfl) h (fun _ σ23 h => ?_)
      exact hh_forget [true, true, false] (w_X12_reads_26 _ _ h)
  · replace h := h.2 c
    exact hh_vreturn dX12_reads_7 rfl h
theorem wp_X12_reads {d : Nat} (a1 a2 : Int) {σ : hh_S} {Q : Int → hh_S → Prop} (h : hh_cs σ → hh_can a1 → hh_can a2 → P_X12_reads d a1 a2 σ Q) : hh_Sp (d + 1) hm_X12_reads [hh_R 128, hh_I a1, hh_I a2] σ Q :=
  hh_entry rfl (Nat.le_of_ble_eq_true rfl) rfl (fun hs hc => w_X12_reads (h hs (hc _ (List.mem_of_getElem? (i := 1) rfl)) (hc _ (List.mem_of_getElem? (i := 2) rfl))))
def B_X12_termsOf_39 (d : Nat) (Q : Int → hh_S → Prop) (k4 : Int → Int → Int → hh_S → Prop) (x1 x3 s0 s1 : Int) (σ : hh_S) : Prop :=
  ((-2147483648 ≤ s0 + s1 ∧ s0 + s1 ≤ 2147483647) ∧ (-2147483648 ≤ x3 + 1 ∧ x3 + 1 ≤ 2147483647)) ∧ (k4 x1 (s0 + s1) (x3 + 1) σ)
def B_X12_termsOf_4 (d : Nat) (Q : Int → hh_S → Prop) (k4 : Int → Int → Int → hh_S → Prop) (x1 x2 x3 : Int) (σ : hh_S) : Prop :=
  (σ 129 9 ≤ x3 → Q x2 σ) ∧ (¬ σ 129 9 ≤ x3 → ((-2147483648 ≤ 484 * x3 ∧ 484 * x3 ≤ 2147483647) ∧ (-2147483648 ≤ 1840 + 484 * x3 ∧ 1840 + 484 * x3 ≤ 2147483647) ∧ (0 ≤ 1840 + 484 * x3 ∧ 1840 + 484 * x3 < 9100)) ∧ ((¬ σ 129 (1840 + 484 * x3) = x1 → B_X12_termsOf_39 d Q k4 x1 x3 x2 0 σ) ∧ (σ 129 (1840 + 484 * x3) = x1 → B_X12_termsOf_39 d Q k4 x1 x3 x2 1 σ)))
def P_X12_termsOf (d : Nat) (a1 : Int) (σ : hh_S) (Q : Int → hh_S → Prop) : Prop :=
  ∃ n, hh_lp3 (B_X12_termsOf_4 d Q) n a1 0 0 σ
set_option maxRecDepth 20000 in
theorem w_X12_termsOf_39 {d : Nat} {Q : Int → hh_S → Prop} {k4 : Int → Int → Int → hh_S → Prop} (hk4 : ∀ (x1 x2 x3 : Int) (σ : hh_S), k4 x1 x2 x3 σ → hh_J (d + 1) hm_X12_termsOf 4 [some (hh_R 128), some (hh_I x1), some (hh_I x2), some (hh_I x3)] [] σ Q) (x1 x3 s0 s1 : Int) (σ : hh_S) (h : B_X12_termsOf_39 d Q k4 x1 x3 s0 s1 σ) : hh_J (d + 1) hm_X12_termsOf 39 [some (hh_R 128), some (hh_I x1), none, some (hh_I x3)] [hh_I s1, hh_I s0] σ Q := by
  unfold B_X12_termsOf_39 at h
  obtain ⟨⟨q1, q2⟩, h⟩ := h
  refine hh_iadd dX12_termsOf_39 q1 ?_
  refine hh_istore_n dX12_termsOf_40 (by decide) rfl ?_
  refine hh_iinc dX12_termsOf_41 (by decide) rfl rfl q2 ?_
  refine hh_goto (tgt := 4) dX12_termsOf_44 (by decide) ?_
  exact hh_forget [true, true, true, true] (hk4 _ _ _ _ h)
set_option maxRecDepth 20000 in
theorem w_X12_termsOf_4 {d : Nat} {Q : Int → hh_S → Prop} {k4 : Int → Int → Int → hh_S → Prop} (hk4 : ∀ (x1 x2 x3 : Int) (σ : hh_S), k4 x1 x2 x3 σ → hh_J (d + 1) hm_X12_termsOf 4 [some (hh_R 128), some (hh_I x1), some (hh_I x2), some (hh_I x3)] [] σ Q) (x1 x2 x3 : Int) (σ : hh_S) (h : B_X12_termsOf_4 d Q k4 x1 x2 x3 σ) : hh_J (d + 1) hm_X12_termsOf 4 [some (hh_R 128), some (hh_I x1), some (hh_I x2), some (hh_I x3)] [] σ Q := by
  unfold B_X12_termsOf_4 at h
  refine hh_iload_n dX12_termsOf_4 rfl ?_
  refine hh_aload_n dX12_termsOf_5 rfl ?_
  refine hh_getR dX12_termsOf_6 kf_X12_7 rf_128_0 ?_
  refine hh_bipush dX12_termsOf_9 (by decide) ?_
  refine hh_iald dX12_termsOf_11 ra_129 (by decide) rfl ?_
  refine hh_icmp_ge (tgt := 47) dX12_termsOf_12 (by decide) (fun c => ?_) (fun c => ?_)
  · replace h := h.1 c
    refine hh_iload_n dX12_termsOf_47 rfl ?_
    exact hh_ireturn dX12_termsOf_48 rfl h
  · replace h := h.2 c
    obtain ⟨⟨q1, q2, q3⟩, h⟩ := h
    refine hh_iload_n dX12_termsOf_15 rfl ?_
    refine hh_aload_n dX12_termsOf_16 rfl ?_
    refine hh_getR dX12_termsOf_17 kf_X12_7 rf_128_0 ?_
    refine hh_sipush dX12_termsOf_20 (by decide) ?_
    refine hh_sipush dX12_termsOf_23 (by decide) ?_
    refine hh_iload_n dX12_termsOf_26 rfl ?_
    refine hh_imul dX12_termsOf_27 q1 ?_
    refine hh_iadd dX12_termsOf_28 q2 ?_
    refine hh_iald dX12_termsOf_29 ra_129 q3 rfl ?_
    refine hh_iload_n dX12_termsOf_30 rfl ?_
    refine hh_icmp_ne (tgt := 38) dX12_termsOf_31 (by decide) (fun c => ?_) (fun c => ?_)
    · replace h := h.1 c
      refine hh_iconst dX12_termsOf_38 (by decide) ?_
      exact hh_forget [true, true, false, true] (w_X12_termsOf_39 hk4 _ _ _ _ _ h)
    · replace h := h.2 c
      refine hh_iconst dX12_termsOf_34 (by decide) ?_
      refine hh_goto (tgt := 39) dX12_termsOf_35 (by decide) ?_
      exact hh_forget [true, true, false, true] (w_X12_termsOf_39 hk4 _ _ _ _ _ h)
theorem l_X12_termsOf_4 {d : Nat} {Q : Int → hh_S → Prop} : ∀ (n : Nat) (x1 x2 x3 : Int) (σ : hh_S), hh_lp3 (B_X12_termsOf_4 d Q) n x1 x2 x3 σ → hh_J (d + 1) hm_X12_termsOf 4 [some (hh_R 128), some (hh_I x1), some (hh_I x2), some (hh_I x3)] [] σ Q := by
  intro n
  induction n with
  | zero => intro _ _ _ _ h; exact h.elim
  | succ n ih => intro x1 x2 x3 σ h; exact w_X12_termsOf_4 ih x1 x2 x3 σ h
set_option maxRecDepth 20000 in
theorem w_X12_termsOf {d : Nat} {a1 : Int} {σ : hh_S} {Q : Int → hh_S → Prop} (h : P_X12_termsOf d a1 σ Q) : hh_J (d + 1) hm_X12_termsOf 0 [some (hh_R 128), some (hh_I a1), none, none] [] σ Q := by
  unfold P_X12_termsOf at h
  refine hh_iconst dX12_termsOf_0 (by decide) ?_
  refine hh_istore_n dX12_termsOf_1 (by decide) rfl ?_
  refine hh_iconst dX12_termsOf_2 (by decide) ?_
  refine hh_istore_n dX12_termsOf_3 (by decide) rfl ?_
  obtain ⟨n, h⟩ := h
  exact hh_forget [true, true, true, true] (l_X12_termsOf_4 n _ _ _ _ h)
theorem wp_X12_termsOf {d : Nat} (a1 : Int) {σ : hh_S} {Q : Int → hh_S → Prop} (h : hh_cs σ → hh_can a1 → P_X12_termsOf d a1 σ Q) : hh_Sp (d + 1) hm_X12_termsOf [hh_R 128, hh_I a1] σ Q :=
  hh_entry rfl (Nat.le_of_ble_eq_true rfl) rfl (fun hs hc => w_X12_termsOf (h hs (hc _ (List.mem_of_getElem? (i := 1) rfl))))
def B_X12_terms_208 (d : Nat) (Q : Int → hh_S → Prop) (σ : hh_S) : Prop :=
  ((-2147483648 ≤ σ 129 9 + 1 ∧ σ 129 9 + 1 ≤ 2147483647)) ∧ (Q (σ 128 15) (hh_up σ 129 9 (σ 129 9 + 1)))
def B_X12_terms_176 (d : Nat) (Q : Int → hh_S → Prop) (k176 : Int → Int → hh_S → Prop) (x3 x4 : Int) (σ : hh_S) : Prop :=
  (482 ≤ x4 → B_X12_terms_208 d Q σ) ∧ (¬ 482 ≤ x4 → ((-2147483648 ≤ x3 + 2 ∧ x3 + 2 ≤ 2147483647) ∧ (-2147483648 ≤ x3 + 2 + x4 ∧ x3 + 2 + x4 ≤ 2147483647) ∧ (0 ≤ x4 ∧ x4 < 482) ∧ (0 ≤ x3 + 2 + x4 ∧ x3 + 2 + x4 < 9100) ∧ (-2147483648 ≤ x4 + 1 ∧ x4 + 1 ≤ 2147483647)) ∧ (k176 x3 (x4 + 1) (hh_up σ 129 (x3 + 2 + x4) (σ 134 x4))))
def B_X12_terms_114 (d : Nat) (Q : Int → hh_S → Prop) (x1 x2 : Int) (σ : hh_S) : Prop :=
  (σ 128 12 = 0 → hh_Sp d hm_X12_termsOf [hh_R 128, hh_I x1] σ (fun r131 σ131 => (¬ r131 = 3 → ((-2147483648 ≤ 484 * (σ131 129 9) ∧ 484 * (σ131 129 9) ≤ 2147483647) ∧ (-2147483648 ≤ 1840 + (484 * (σ131 129 9)) ∧ 1840 + (484 * (σ131 129 9)) ≤ 2147483647) ∧ (0 ≤ 1840 + (484 * (σ131 129 9)) ∧ 1840 + (484 * (σ131 129 9)) < 9100) ∧ (-2147483648 ≤ 1840 + (484 * (σ131 129 9)) + 1 ∧ 1840 + (484 * (σ131 129 9)) + 1 ≤ 2147483647) ∧ (0 ≤ 1840 + (484 * (σ131 129 9)) + 1 ∧ 1840 + (484 * (σ131 129 9)) + 1 < 9100)) ∧ (∃ n, hh_lp2 (B_X12_terms_176 d Q) n (1840 + (484 * (σ131 129 9))) 0 (hh_up (hh_up σ131 129 (1840 + (484 * (σ131 129 9))) x1) 129 (1840 + (484 * (σ131 129 9)) + 1) x2))) ∧ (r131 = 3 → Q (-1000000003) σ131))) ∧ (¬ σ 128 12 = 0 → ((-2147483648 ≤ (-100) - (σ 128 11) ∧ (-100) - (σ 128 11) ≤ 2147483647)) ∧ (Q ((-100) - (σ 128 11)) σ))
def P_X12_terms (d : Nat) (a1 a2 : Int) (σ : hh_S) (Q : Int → hh_S → Prop) : Prop :=
  hh_Sp d hm_X12_isClient [hh_R 128, hh_I a1] (hh_up (hh_up σ 128 9 (σ 128 6)) 128 6 0) (fun r15 σ15 => (r15 = 0 → Q (-1000000001) σ15) ∧ (¬ r15 = 0 → hh_Sp d hm_X12_in [hh_I a2, hh_I 0, hh_I 900] σ15 (fun r26 σ26 => (¬ r26 = 0 → hh_Sp d hm_X12_next [hh_R 128] (hh_up (hh_up (hh_up (hh_up σ26 128 8 0) 128 10 0) 128 12 0) 128 15 0) (fun _ σ56 => hh_Sp d hm_X12_isWord [hh_R 128, hh_I 112, hh_I 97, hh_I 114, hh_I 116, hh_I 115] σ56 (fun r72 σ72 => hh_Sp d hm_X12_reads [hh_R 128, hh_I 0, hh_I r72] σ72 (fun _ σ75 => hh_Sp d hm_X12_isWord [hh_R 128, hh_I 114, hh_I 97, hh_I 116, hh_I 101, hh_I 0] σ75 (fun r90 σ90 => hh_Sp d hm_X12_reads [hh_R 128, hh_I 1, hh_I r90] σ90 (fun _ σ93 => (¬ σ93 128 12 = 0 → B_X12_terms_114 d Q a1 a2 σ93) ∧ (σ93 128 12 = 0 → (σ93 128 10 = 0 → B_X12_terms_114 d Q a1 a2 σ93) ∧ (¬ σ93 128 10 = 0 → hh_Sp d hm_X12_wrong [hh_R 128] σ93 (fun _ σ111 => B_X12_terms_114 d Q a1 a2 σ111))))))))) ∧ (r26 = 0 → Q (-1000000001) σ26))))
set_option maxRecDepth 20000 in
theorem w_X12_terms_208 {d : Nat} {Q : Int → hh_S → Prop} (σ : hh_S) (h : B_X12_terms_208 d Q σ) : hh_J (d + 1) hm_X12_terms 208 [some (hh_R 128), none, none, none, none] [] σ Q := by
  unfold B_X12_terms_208 at h
  obtain ⟨q1, h⟩ := h
  refine hh_aload_n dX12_terms_208 rfl ?_
  refine hh_getR dX12_terms_209 kf_X12_7 rf_128_0 ?_
  refine hh_bipush dX12_terms_212 (by decide) ?_
  refine hh_dup2 dX12_terms_214 (fun _ => rfl) (fun _ => rfl) ?_
  refine hh_iald dX12_terms_215 ra_129 (by decide) rfl ?_
  refine hh_iconst dX12_terms_216 (by decide) ?_
  refine hh_iadd dX12_terms_217 q1 ?_
  refine hh_iast dX12_terms_218 ra_129 (by decide) ?_
  refine hh_aload_n dX12_terms_219 rfl ?_
  refine hh_getI dX12_terms_220 kf_X12_173 rf_128_15 rfl ?_
  exact hh_ireturn dX12_terms_223 rfl h
set_option maxRecDepth 20000 in
theorem w_X12_terms_176 {d : Nat} {Q : Int → hh_S → Prop} {k176 : Int → Int → hh_S → Prop} (hk176 : ∀ (x3 x4 : Int) (σ : hh_S), k176 x3 x4 σ → hh_J (d + 1) hm_X12_terms 176 [some (hh_R 128), none, none, some (hh_I x3), some (hh_I x4)] [] σ Q) (x3 x4 : Int) (σ : hh_S) (h : B_X12_terms_176 d Q k176 x3 x4 σ) : hh_J (d + 1) hm_X12_terms 176 [some (hh_R 128), none, none, some (hh_I x3), some (hh_I x4)] [] σ Q := by
  unfold B_X12_terms_176 at h
  refine hh_iload dX12_terms_176 rfl ?_
  refine hh_sipush dX12_terms_178 (by decide) ?_
  refine hh_icmp_ge (tgt := 208) dX12_terms_181 (by decide) (fun c => ?_) (fun c => ?_)
  · replace h := h.1 c
    exact hh_forget [true, false, false, false, false] (w_X12_terms_208 _ h)
  · replace h := h.2 c
    obtain ⟨⟨q1, q2, q3, q4, q5⟩, h⟩ := h
    refine hh_aload_n dX12_terms_184 rfl ?_
    refine hh_getR dX12_terms_185 kf_X12_7 rf_128_0 ?_
    refine hh_iload_n dX12_terms_188 rfl ?_
    refine hh_iconst dX12_terms_189 (by decide) ?_
    refine hh_iadd dX12_terms_190 q1 ?_
    refine hh_iload dX12_terms_191 rfl ?_
    refine hh_iadd dX12_terms_193 q2 ?_
    refine hh_aload_n dX12_terms_194 rfl ?_
    refine hh_getR dX12_terms_195 kf_X12_25 rf_128_16 ?_
    refine hh_iload dX12_terms_198 rfl ?_
    refine hh_iald dX12_terms_200 ra_134 q3 rfl ?_
    refine hh_iast dX12_terms_201 ra_129 q4 ?_
    refine hh_iinc dX12_terms_202 (by decide) rfl rfl q5 ?_
    refine hh_goto (tgt := 176) dX12_terms_205 (by decide) ?_
    exact hh_forget [true, false, false, true, true] (hk176 _ _ _ h)
theorem l_X12_terms_176 {d : Nat} {Q : Int → hh_S → Prop} : ∀ (n : Nat) (x3 x4 : Int) (σ : hh_S), hh_lp2 (B_X12_terms_176 d Q) n x3 x4 σ → hh_J (d + 1) hm_X12_terms 176 [some (hh_R 128), none, none, some (hh_I x3), some (hh_I x4)] [] σ Q := by
  intro n
  induction n with
  | zero => intro _ _ _ h; exact h.elim
  | succ n ih => intro x3 x4 σ h; exact w_X12_terms_176 ih x3 x4 σ h
set_option maxRecDepth 20000 in
theorem w_X12_terms_114 {d : Nat} {Q : Int → hh_S → Prop} (x1 x2 : Int) (σ : hh_S) (h : B_X12_terms_114 d Q x1 x2 σ) : hh_J (d + 1) hm_X12_terms 114 [some (hh_R 128), some (hh_I x1), some (hh_I x2), none, none] [] σ Q := by
  unfold B_X12_terms_114 at h
  refine hh_aload_n dX12_terms_114 rfl ?_
  refine hh_getI dX12_terms_115 kf_X12_117 rf_128_12 rfl ?_
  refine hh_if_eq (tgt := 129) dX12_terms_118 (by decide) (fun c => ?_) (fun c => ?_)
  · replace h := h.1 c
    refine hh_aload_n dX12_terms_129 rfl ?_
    refine hh_iload_n dX12_terms_130 rfl ?_
    refine hh_cV1 dX12_terms_131 lk_X12_202 mo_X12_termsOf rc_128 (Nat.le_of_ble_eq_true rfl) h (fun r131 σ131 h => ?_)
    refine hh_iconst dX12_terms_134 (by decide) ?_
    refine hh_icmp_ne (tgt := 141) dX12_terms_135 (by decide) (fun c => ?_) (fun c => ?_)
    · replace h := h.1 c
      obtain ⟨⟨q1, q2, q3, q4, q5⟩, h⟩ := h
      refine hh_sipush dX12_terms_141 (by decide) ?_
      refine hh_sipush dX12_terms_144 (by decide) ?_
      refine hh_aload_n dX12_terms_147 rfl ?_
      refine hh_getR dX12_terms_148 kf_X12_7 rf_128_0 ?_
      refine hh_bipush dX12_terms_151 (by decide) ?_
      refine hh_iald dX12_terms_153 ra_129 (by decide) rfl ?_
      refine hh_imul dX12_terms_154 q1 ?_
      refine hh_iadd dX12_terms_155 q2 ?_
      refine hh_istore_n dX12_terms_156 (by decide) rfl ?_
      refine hh_aload_n dX12_terms_157 rfl ?_
      refine hh_getR dX12_terms_158 kf_X12_7 rf_128_0 ?_
      refine hh_iload_n dX12_terms_161 rfl ?_
      refine hh_iload_n dX12_terms_162 rfl ?_
      refine hh_iast dX12_terms_163 ra_129 q3 ?_
      refine hh_aload_n dX12_terms_164 rfl ?_
      refine hh_getR dX12_terms_165 kf_X12_7 rf_128_0 ?_
      refine hh_iload_n dX12_terms_168 rfl ?_
      refine hh_iconst dX12_terms_169 (by decide) ?_
      refine hh_iadd dX12_terms_170 q4 ?_
      refine hh_iload_n dX12_terms_171 rfl ?_
      refine hh_iast dX12_terms_172 ra_129 q5 ?_
      refine hh_iconst dX12_terms_173 (by decide) ?_
      refine hh_istore dX12_terms_174 (by decide) rfl ?_
      obtain ⟨n, h⟩ := h
      exact hh_forget [true, false, false, true, true] (l_X12_terms_176 n _ _ _ h)
    · replace h := h.2 c
      refine hh_ldc (n := -1000000003) dX12_terms_138 kc_X12_73 (by decide) ?_
      exact hh_ireturn dX12_terms_140 rfl h
  · replace h := h.2 c
    obtain ⟨q1, h⟩ := h
    refine hh_bipush dX12_terms_121 (by decide) ?_
    refine hh_aload_n dX12_terms_123 rfl ?_
    refine hh_getI dX12_terms_124 kf_X12_124 rf_128_11 rfl ?_
    refine hh_isub dX12_terms_127 q1 ?_
    exact hh_ireturn dX12_terms_128 rfl h
set_option maxRecDepth 20000 in
theorem w_X12_terms {d : Nat} {a1 a2 : Int} {σ : hh_S} {Q : Int → hh_S → Prop} (h : P_X12_terms d a1 a2 σ Q) : hh_J (d + 1) hm_X12_terms 0 [some (hh_R 128), some (hh_I a1), some (hh_I a2), none, none] [] σ Q := by
  unfold P_X12_terms at h
  refine hh_aload_n dX12_terms_0 rfl ?_
  refine hh_aload_n dX12_terms_1 rfl ?_
  refine hh_getI dX12_terms_2 kf_X12_113 rf_128_6 rfl ?_
  refine hh_putI dX12_terms_5 kp_X12_130 rf_128_9 ?_
  refine hh_aload_n dX12_terms_8 rfl ?_
  refine hh_iconst dX12_terms_9 (by decide) ?_
  refine hh_putI dX12_terms_10 kp_X12_113 rf_128_6 ?_
  refine hh_aload_n dX12_terms_13 rfl ?_
  refine hh_iload_n dX12_terms_14 rfl ?_
  refine hh_cV1 dX12_terms_15 lk_X12_78 mo_X12_isClient rc_128 (Nat.le_of_ble_eq_true rfl) h (fun r15 σ15 h => ?_)
  refine hh_if_eq (tgt := 32) dX12_terms_18 (by decide) (fun c => ?_) (fun c => ?_)
  · replace h := h.1 c
    refine hh_ldc (n := -1000000001) dX12_terms_32 kc_X12_72 (by decide) ?_
    exact hh_ireturn dX12_terms_34 rfl h
  · replace h := h.2 c
    refine hh_iload_n dX12_terms_21 rfl ?_
    refine hh_iconst dX12_terms_22 (by decide) ?_
    refine hh_sipush dX12_terms_23 (by decide) ?_
    refine hh_cS3 dX12_terms_26 lk_X12_68 mo_X12_in (Nat.le_of_ble_eq_true rfl) h (fun r26 σ26 h => ?_)
    refine hh_if_ne (tgt := 35) dX12_terms_29 (by decide) (fun c => ?_) (fun c => ?_)
    · replace h := h.1 c
      refine hh_aload_n dX12_terms_35 rfl ?_
      refine hh_iconst dX12_terms_36 (by decide) ?_
      refine hh_putI dX12_terms_37 kp_X12_127 rf_128_8 ?_
      refine hh_aload_n dX12_terms_40 rfl ?_
      refine hh_iconst dX12_terms_41 (by decide) ?_
      refine hh_putI dX12_terms_42 kp_X12_133 rf_128_10 ?_
      refine hh_aload_n dX12_terms_45 rfl ?_
      refine hh_iconst dX12_terms_46 (by decide) ?_
      refine hh_putZ dX12_terms_47 kp_X12_117 rf_128_12 (by decide) ?_
      refine hh_aload_n dX12_terms_50 rfl ?_
      refine hh_iconst dX12_terms_51 (by decide) ?_
      refine hh_putI dX12_terms_52 kp_X12_173 rf_128_15 ?_
      refine hh_aload_n dX12_terms_55 rfl ?_
      refine hh_cV0 dX12_terms_56 lk_X12_167 mo_X12_next rc_128 (Nat.le_of_ble_eq_true rfl) h (fun _ σ56 h => ?_)
      refine hh_aload_n dX12_terms_59 rfl ?_
      refine hh_iconst dX12_terms_60 (by decide) ?_
      refine hh_aload_n dX12_terms_61 rfl ?_
      refine hh_bipush dX12_terms_62 (by decide) ?_
      refine hh_bipush dX12_terms_64 (by decide) ?_
      refine hh_bipush dX12_terms_66 (by decide) ?_
      refine hh_bipush dX12_terms_68 (by decide) ?_
      refine hh_bipush dX12_terms_70 (by decide) ?_
      refine hh_cV5 dX12_terms_72 lk_X12_194 mo_X12_isWord rc_128 (Nat.le_of_ble_eq_true rfl) h (fun r72 σ72 h => ?_)
      refine hh_cV2 dX12_terms_75 lk_X12_198 mo_X12_reads rc_128 (Nat.le_of_ble_eq_true rfl) h (fun _ σ75 h => ?_)
      refine hh_aload_n dX12_terms_78 rfl ?_
      refine hh_iconst dX12_terms_79 (by decide) ?_
      refine hh_aload_n dX12_terms_80 rfl ?_
      refine hh_bipush dX12_terms_81 (by decide) ?_
      refine hh_bipush dX12_terms_83 (by decide) ?_
      refine hh_bipush dX12_terms_85 (by decide) ?_
      refine hh_bipush dX12_terms_87 (by decide) ?_
      refine hh_iconst dX12_terms_89 (by decide) ?_
      refine hh_cV5 dX12_terms_90 lk_X12_194 mo_X12_isWord rc_128 (Nat.le_of_ble_eq_true rfl) h (fun r90 σ90 h => ?_)
      refine hh_cV2 dX12_terms_93 lk_X12_198 mo_X12_reads rc_128 (Nat.le_of_ble_eq_true rfl) h (fun _ σ93 h => ?_)
      refine hh_aload_n dX12_terms_96 rfl ?_
      refine hh_getI dX12_terms_97 kf_X12_117 rf_128_12 rfl ?_
      refine hh_if_ne (tgt := 114) dX12_terms_100 (by decide) (fun c => ?_) (fun c => ?_)
      · replace h := h.1 c
        exact hh_forget [true, true, true, false, false] (w_X12_terms_114 _ _ _ h)
      · replace h := h.2 c
        refine hh_aload_n dX12_terms_103 rfl ?_
        refine hh_getI dX12_terms_104 kf_X12_133 rf_128_10 rfl ?_
        refine hh_if_eq (tgt := 114) dX12_terms_107 (by decide) (fun c => ?_) (fun c => ?_)
        · replace h := h.1 c
          exact hh_forget [true, true, true, false, false] (w_X12_terms_114 _ _ _ h)
        · replace h := h.2 c
          refine hh_aload_n dX12_terms_110 rfl ?_
          refine hh_cV0 dX12_terms_111 lk_X12_139 mo_X12_wrong rc_128 (Nat.le_of_ble_eq_true rfl) h (fun _ σ111 h => ?_)
          exact hh_forget [true, true, true, false, false] (w_X12_terms_114 _ _ _ h)
    · replace h := h.2 c
      refine hh_ldc (n := -1000000001) dX12_terms_32 kc_X12_72 (by decide) ?_
      exact hh_ireturn dX12_terms_34 rfl h
theorem wp_X12_terms {d : Nat} (a1 a2 : Int) {σ : hh_S} {Q : Int → hh_S → Prop} (h : hh_cs σ → hh_can a1 → hh_can a2 → P_X12_terms d a1 a2 σ Q) : hh_Sp (d + 1) hm_X12_terms [hh_R 128, hh_I a1, hh_I a2] σ Q :=
  hh_entry rfl (Nat.le_of_ble_eq_true rfl) rfl (fun hs hc => w_X12_terms (h hs (hc _ (List.mem_of_getElem? (i := 1) rfl)) (hc _ (List.mem_of_getElem? (i := 2) rfl))))
def B_X12_split_117 (d : Nat) (Q : Int → hh_S → Prop) (k117 : Int → Int → Int → hh_S → Prop) (x4 x6 x7 : Int) (σ : hh_S) : Prop :=
  (x4 ≤ x7 → Q 0 σ) ∧ (¬ x4 ≤ x7 → (x6 ≤ 0 → Q 0 σ) ∧ (¬ x6 ≤ 0 → ((0 ≤ x7 ∧ x7 < 3) ∧ (-2147483648 ≤ σ 138 x7 + 1 ∧ σ 138 x7 + 1 ≤ 2147483647) ∧ (-2147483648 ≤ x6 + (-1) ∧ x6 + (-1) ≤ 2147483647) ∧ (-2147483648 ≤ x7 + 1 ∧ x7 + 1 ≤ 2147483647)) ∧ (k117 x4 (x6 + (-1)) (x7 + 1) (hh_up σ 138 x7 (σ 138 x7 + 1)))))
def B_X12_split_114 (d : Nat) (Q : Int → hh_S → Prop) (x4 x6 : Int) (σ : hh_S) : Prop :=
  ∃ n, hh_lp3 (B_X12_split_117 d Q) n x4 x6 0 σ
def B_X12_split_61 (d : Nat) (Q : Int → hh_S → Prop) (k61 : Int → Int → Int → Int → Int → Int → hh_S → Prop) (x2 x3 x4 x5 x6 x7 : Int) (σ : hh_S) : Prop :=
  (x4 ≤ x7 → B_X12_split_114 d Q x4 x6 σ) ∧ (¬ x4 ≤ x7 → ((-2147483648 ≤ x3 + 14 ∧ x3 + 14 ≤ 2147483647) ∧ (-2147483648 ≤ x3 + 14 + x7 ∧ x3 + 14 + x7 ≤ 2147483647) ∧ (0 ≤ x3 + 14 + x7 ∧ x3 + 14 + x7 < 9100) ∧ (-9223372036854775808 ≤ x2 * (σ 129 (x3 + 14 + x7)) ∧ x2 * (σ 129 (x3 + 14 + x7)) ≤ 9223372036854775807) ∧ 0 ≤ x2 * (σ 129 (x3 + 14 + x7)) ∧ 0 < x5 ∧ (-2147483648 ≤ (x2 * (σ 129 (x3 + 14 + x7))) / x5 ∧ (x2 * (σ 129 (x3 + 14 + x7))) / x5 ≤ 2147483647) ∧ (0 ≤ x7 ∧ x7 < 3) ∧ (-2147483648 ≤ x6 - ((x2 * (σ 129 (x3 + 14 + x7))) / x5) ∧ x6 - ((x2 * (σ 129 (x3 + 14 + x7))) / x5) ≤ 2147483647) ∧ (-2147483648 ≤ x7 + 1 ∧ x7 + 1 ≤ 2147483647)) ∧ (k61 x2 x3 x4 x5 (x6 - ((x2 * (σ 129 (x3 + 14 + x7))) / x5)) (x7 + 1) (hh_up σ 138 x7 ((x2 * (σ 129 (x3 + 14 + x7))) / x5))))
def B_X12_split_55 (d : Nat) (Q : Int → hh_S → Prop) (x2 x3 x4 x5 : Int) (σ : hh_S) : Prop :=
  ∃ n, hh_lp6 (B_X12_split_61 d Q) n x2 x3 x4 x5 x2 0 σ
def B_X12_split_25 (d : Nat) (Q : Int → hh_S → Prop) (k25 : Int → Int → Int → Int → Int → hh_S → Prop) (x2 x3 x4 x5 x6 : Int) (σ : hh_S) : Prop :=
  (x4 ≤ x6 → B_X12_split_55 d Q x2 x3 x4 x5 σ) ∧ (¬ x4 ≤ x6 → ((-2147483648 ≤ x3 + 14 ∧ x3 + 14 ≤ 2147483647) ∧ (-2147483648 ≤ x3 + 14 + x6 ∧ x3 + 14 + x6 ≤ 2147483647) ∧ (0 ≤ x3 + 14 + x6 ∧ x3 + 14 + x6 < 9100) ∧ (-2147483648 ≤ x5 + (σ 129 (x3 + 14 + x6)) ∧ x5 + (σ 129 (x3 + 14 + x6)) ≤ 2147483647) ∧ (-2147483648 ≤ x6 + 1 ∧ x6 + 1 ≤ 2147483647)) ∧ (k25 x2 x3 x4 (x5 + (σ 129 (x3 + 14 + x6))) (x6 + 1) σ))
def P_X12_split (d : Nat) (a1 a2 : Int) (σ : hh_S) (Q : Int → hh_S → Prop) : Prop :=
  ((-2147483648 ≤ 20 * a1 ∧ 20 * a1 ≤ 2147483647) ∧ (-2147483648 ≤ 50 + 20 * a1 ∧ 50 + 20 * a1 ≤ 2147483647) ∧ (-2147483648 ≤ 50 + 20 * a1 + 10 ∧ 50 + 20 * a1 + 10 ≤ 2147483647) ∧ (0 ≤ 50 + 20 * a1 + 10 ∧ 50 + 20 * a1 + 10 < 9100)) ∧ (∃ n, hh_lp5 (B_X12_split_25 d Q) n a2 (50 + 20 * a1) (σ 129 (50 + 20 * a1 + 10)) 0 0 σ)
set_option maxRecDepth 20000 in
theorem w_X12_split_117 {d : Nat} {Q : Int → hh_S → Prop} {k117 : Int → Int → Int → hh_S → Prop} (hk117 : ∀ (x4 x6 x7 : Int) (σ : hh_S), k117 x4 x6 x7 σ → hh_J (d + 1) hm_X12_split 117 [some (hh_R 128), none, none, none, some (hh_I x4), none, some (hh_I x6), some (hh_I x7)] [] σ Q) (x4 x6 x7 : Int) (σ : hh_S) (h : B_X12_split_117 d Q k117 x4 x6 x7 σ) : hh_J (d + 1) hm_X12_split 117 [some (hh_R 128), none, none, none, some (hh_I x4), none, some (hh_I x6), some (hh_I x7)] [] σ Q := by
  unfold B_X12_split_117 at h
  refine hh_iload dX12_split_117 rfl ?_
  refine hh_iload dX12_split_119 rfl ?_
  refine hh_icmp_ge (tgt := 149) dX12_split_121 (by decide) (fun c => ?_) (fun c => ?_)
  · replace h := h.1 c
    exact hh_vreturn dX12_split_149 rfl h
  · replace h := h.2 c
    refine hh_iload dX12_split_124 rfl ?_
    refine hh_if_le (tgt := 149) dX12_split_126 (by decide) (fun c => ?_) (fun c => ?_)
    · replace h := h.1 c
      exact hh_vreturn dX12_split_149 rfl h
    · replace h := h.2 c
      obtain ⟨⟨q1, q2, q3, q4⟩, h⟩ := h
      refine hh_aload_n dX12_split_129 rfl ?_
      refine hh_getR dX12_split_130 kf_X12_37 rf_128_23 ?_
      refine hh_iload dX12_split_133 rfl ?_
      refine hh_dup2 dX12_split_135 (fun _ => rfl) (fun _ => rfl) ?_
      refine hh_iald dX12_split_136 ra_138 q1 rfl ?_
      refine hh_iconst dX12_split_137 (by decide) ?_
      refine hh_iadd dX12_split_138 q2 ?_
      refine hh_iast dX12_split_139 ra_138 q1 ?_
      refine hh_iinc dX12_split_140 (by decide) rfl rfl q3 ?_
      refine hh_iinc dX12_split_143 (by decide) rfl rfl q4 ?_
      refine hh_goto (tgt := 117) dX12_split_146 (by decide) ?_
      exact hh_forget [true, false, false, false, true, false, true, true] (hk117 _ _ _ _ h)
theorem l_X12_split_117 {d : Nat} {Q : Int → hh_S → Prop} : ∀ (n : Nat) (x4 x6 x7 : Int) (σ : hh_S), hh_lp3 (B_X12_split_117 d Q) n x4 x6 x7 σ → hh_J (d + 1) hm_X12_split 117 [some (hh_R 128), none, none, none, some (hh_I x4), none, some (hh_I x6), some (hh_I x7)] [] σ Q := by
  intro n
  induction n with
  | zero => intro _ _ _ _ h; exact h.elim
  | succ n ih => intro x4 x6 x7 σ h; exact w_X12_split_117 ih x4 x6 x7 σ h
set_option maxRecDepth 20000 in
theorem w_X12_split_114 {d : Nat} {Q : Int → hh_S → Prop} (x4 x6 : Int) (σ : hh_S) (h : B_X12_split_114 d Q x4 x6 σ) : hh_J (d + 1) hm_X12_split 114 [some (hh_R 128), none, none, none, some (hh_I x4), none, some (hh_I x6), none] [] σ Q := by
  unfold B_X12_split_114 at h
  refine hh_iconst dX12_split_114 (by decide) ?_
  refine hh_istore dX12_split_115 (by decide) rfl ?_
  obtain ⟨n, h⟩ := h
  exact hh_forget [true, false, false, false, true, false, true, true] (l_X12_split_117 n _ _ _ _ h)
set_option maxRecDepth 20000 in
theorem w_X12_split_61 {d : Nat} {Q : Int → hh_S → Prop} {k61 : Int → Int → Int → Int → Int → Int → hh_S → Prop} (hk61 : ∀ (x2 x3 x4 x5 x6 x7 : Int) (σ : hh_S), k61 x2 x3 x4 x5 x6 x7 σ → hh_J (d + 1) hm_X12_split 61 [some (hh_R 128), none, some (hh_I x2), some (hh_I x3), some (hh_I x4), some (hh_I x5), some (hh_I x6), some (hh_I x7)] [] σ Q) (x2 x3 x4 x5 x6 x7 : Int) (σ : hh_S) (h : B_X12_split_61 d Q k61 x2 x3 x4 x5 x6 x7 σ) : hh_J (d + 1) hm_X12_split 61 [some (hh_R 128), none, some (hh_I x2), some (hh_I x3), some (hh_I x4), some (hh_I x5), some (hh_I x6), some (hh_I x7)] [] σ Q := by
  unfold B_X12_split_61 at h
  refine hh_iload dX12_split_61 rfl ?_
  refine hh_iload dX12_split_63 rfl ?_
  refine hh_icmp_ge (tgt := 114) dX12_split_65 (by decide) (fun c => ?_) (fun c => ?_)
  · replace h := h.1 c
    exact hh_forget [true, false, false, false, true, false, true, false] (w_X12_split_114 _ _ _ h)
  · replace h := h.2 c
    obtain ⟨⟨q1, q2, q3, q4, q5, q6, q7, q8, q9, q10⟩, h⟩ := h
    refine hh_aload_n dX12_split_68 rfl ?_
    refine hh_getR dX12_split_69 kf_X12_37 rf_128_23 ?_
    refine hh_iload dX12_split_72 rfl ?_
    refine hh_iload_n dX12_split_74 rfl ?_
    refine hh_i2l dX12_split_75 ?_
    refine hh_aload_n dX12_split_76 rfl ?_
    refine hh_getR dX12_split_77 kf_X12_7 rf_128_0 ?_
    refine hh_iload_n dX12_split_80 rfl ?_
    refine hh_bipush dX12_split_81 (by decide) ?_
    refine hh_iadd dX12_split_83 q1 ?_
    refine hh_iload dX12_split_84 rfl ?_
    refine hh_iadd dX12_split_86 q2 ?_
    refine hh_iald dX12_split_87 ra_129 q3 rfl ?_
    refine hh_i2l dX12_split_88 ?_
    refine hh_lmul dX12_split_89 q4 ?_
    refine hh_iload dX12_split_90 rfl ?_
    refine hh_i2l dX12_split_92 ?_
    refine hh_ldiv dX12_split_93 q5 q6 ?_
    refine hh_l2i dX12_split_94 q7 ?_
    refine hh_iast dX12_split_95 ra_138 q8 ?_
    refine hh_iload dX12_split_96 rfl ?_
    refine hh_aload_n dX12_split_98 rfl ?_
    refine hh_getR dX12_split_99 kf_X12_37 rf_128_23 ?_
    refine hh_iload dX12_split_102 rfl ?_
    refine hh_iald dX12_split_104 ra_138 q8 (hh_up_at σ 138 x7 ((x2 * (σ 129 (x3 + 14 + x7))) / x5)) ?_
    refine hh_isub dX12_split_105 q9 ?_
    refine hh_istore dX12_split_106 (by decide) rfl ?_
    refine hh_iinc dX12_split_108 (by decide) rfl rfl q10 ?_
    refine hh_goto (tgt := 61) dX12_split_111 (by decide) ?_
    exact hh_forget [true, false, true, true, true, true, true, true] (hk61 _ _ _ _ _ _ _ h)
theorem l_X12_split_61 {d : Nat} {Q : Int → hh_S → Prop} : ∀ (n : Nat) (x2 x3 x4 x5 x6 x7 : Int) (σ : hh_S), hh_lp6 (B_X12_split_61 d Q) n x2 x3 x4 x5 x6 x7 σ → hh_J (d + 1) hm_X12_split 61 [some (hh_R 128), none, some (hh_I x2), some (hh_I x3), some (hh_I x4), some (hh_I x5), some (hh_I x6), some (hh_I x7)] [] σ Q := by
  intro n
  induction n with
  | zero => intro _ _ _ _ _ _ _ h; exact h.elim
  | succ n ih => intro x2 x3 x4 x5 x6 x7 σ h; exact w_X12_split_61 ih x2 x3 x4 x5 x6 x7 σ h
set_option maxRecDepth 20000 in
theorem w_X12_split_55 {d : Nat} {Q : Int → hh_S → Prop} (x2 x3 x4 x5 : Int) (σ : hh_S) (h : B_X12_split_55 d Q x2 x3 x4 x5 σ) : hh_J (d + 1) hm_X12_split 55 [some (hh_R 128), none, some (hh_I x2), some (hh_I x3), some (hh_I x4), some (hh_I x5), none, none] [] σ Q := by
  unfold B_X12_split_55 at h
  refine hh_iload_n dX12_split_55 rfl ?_
  refine hh_istore dX12_split_56 (by decide) rfl ?_
  refine hh_iconst dX12_split_58 (by decide) ?_
  refine hh_istore dX12_split_59 (by decide) rfl ?_
  obtain ⟨n, h⟩ := h
  exact hh_forget [true, false, true, true, true, true, true, true] (l_X12_split_61 n _ _ _ _ _ _ _ h)
set_option maxRecDepth 20000 in
theorem w_X12_split_25 {d : Nat} {Q : Int → hh_S → Prop} {k25 : Int → Int → Int → Int → Int → hh_S → Prop} (hk25 : ∀ (x2 x3 x4 x5 x6 : Int) (σ : hh_S), k25 x2 x3 x4 x5 x6 σ → hh_J (d + 1) hm_X12_split 25 [some (hh_R 128), none, some (hh_I x2), some (hh_I x3), some (hh_I x4), some (hh_I x5), some (hh_I x6), none] [] σ Q) (x2 x3 x4 x5 x6 : Int) (σ : hh_S) (h : B_X12_split_25 d Q k25 x2 x3 x4 x5 x6 σ) : hh_J (d + 1) hm_X12_split 25 [some (hh_R 128), none, some (hh_I x2), some (hh_I x3), some (hh_I x4), some (hh_I x5), some (hh_I x6), none] [] σ Q := by
  unfold B_X12_split_25 at h
  refine hh_iload dX12_split_25 rfl ?_
  refine hh_iload dX12_split_27 rfl ?_
  refine hh_icmp_ge (tgt := 55) dX12_split_29 (by decide) (fun c => ?_) (fun c => ?_)
  · replace h := h.1 c
    exact hh_forget [true, false, true, true, true, true, false, false] (w_X12_split_55 _ _ _ _ _ h)
  · replace h := h.2 c
    obtain ⟨⟨q1, q2, q3, q4, q5⟩, h⟩ := h
    refine hh_iload dX12_split_32 rfl ?_
    refine hh_aload_n dX12_split_34 rfl ?_
    refine hh_getR dX12_split_35 kf_X12_7 rf_128_0 ?_
    refine hh_iload_n dX12_split_38 rfl ?_
    refine hh_bipush dX12_split_39 (by decide) ?_
    refine hh_iadd dX12_split_41 q1 ?_
    refine hh_iload dX12_split_42 rfl ?_
    refine hh_iadd dX12_split_44 q2 ?_
    refine hh_iald dX12_split_45 ra_129 q3 rfl ?_
    refine hh_iadd dX12_split_46 q4 ?_
    refine hh_istore dX12_split_47 (by decide) rfl ?_
    refine hh_iinc dX12_split_49 (by decide) rfl rfl q5 ?_
    refine hh_goto (tgt := 25) dX12_split_52 (by decide) ?_
    exact hh_forget [true, false, true, true, true, true, true, false] (hk25 _ _ _ _ _ _ h)
theorem l_X12_split_25 {d : Nat} {Q : Int → hh_S → Prop} : ∀ (n : Nat) (x2 x3 x4 x5 x6 : Int) (σ : hh_S), hh_lp5 (B_X12_split_25 d Q) n x2 x3 x4 x5 x6 σ → hh_J (d + 1) hm_X12_split 25 [some (hh_R 128), none, some (hh_I x2), some (hh_I x3), some (hh_I x4), some (hh_I x5), some (hh_I x6), none] [] σ Q := by
  intro n
  induction n with
  | zero => intro _ _ _ _ _ _ h; exact h.elim
  | succ n ih => intro x2 x3 x4 x5 x6 σ h; exact w_X12_split_25 ih x2 x3 x4 x5 x6 σ h
set_option maxRecDepth 20000 in
theorem w_X12_split {d : Nat} {a1 a2 : Int} {σ : hh_S} {Q : Int → hh_S → Prop} (h : P_X12_split d a1 a2 σ Q) : hh_J (d + 1) hm_X12_split 0 [some (hh_R 128), some (hh_I a1), some (hh_I a2), none, none, none, none, none] [] σ Q := by
  unfold P_X12_split at h
  obtain ⟨⟨q1, q2, q3, q4⟩, h⟩ := h
  refine hh_bipush dX12_split_0 (by decide) ?_
  refine hh_bipush dX12_split_2 (by decide) ?_
  refine hh_iload_n dX12_split_4 rfl ?_
  refine hh_imul dX12_split_5 q1 ?_
  refine hh_iadd dX12_split_6 q2 ?_
  refine hh_istore_n dX12_split_7 (by decide) rfl ?_
  refine hh_aload_n dX12_split_8 rfl ?_
  refine hh_getR dX12_split_9 kf_X12_7 rf_128_0 ?_
  refine hh_iload_n dX12_split_12 rfl ?_
  refine hh_bipush dX12_split_13 (by decide) ?_
  refine hh_iadd dX12_split_15 q3 ?_
  refine hh_iald dX12_split_16 ra_129 q4 rfl ?_
  refine hh_istore dX12_split_17 (by decide) rfl ?_
  refine hh_iconst dX12_split_19 (by decide) ?_
  refine hh_istore dX12_split_20 (by decide) rfl ?_
  refine hh_iconst dX12_split_22 (by decide) ?_
  refine hh_istore dX12_split_23 (by decide) rfl ?_
  obtain ⟨n, h⟩ := h
  exact hh_forget [true, false, true, true, true, true, true, false] (l_X12_split_25 n _ _ _ _ _ _ h)
theorem wp_X12_split {d : Nat} (a1 a2 : Int) {σ : hh_S} {Q : Int → hh_S → Prop} (h : hh_cs σ → hh_can a1 → hh_can a2 → P_X12_split d a1 a2 σ Q) : hh_Sp (d + 1) hm_X12_split [hh_R 128, hh_I a1, hh_I a2] σ Q :=
  hh_entry rfl (Nat.le_of_ble_eq_true rfl) rfl (fun hs hc => w_X12_split (h hs (hc _ (List.mem_of_getElem? (i := 1) rfl)) (hc _ (List.mem_of_getElem? (i := 2) rfl))))
def B_X12_bill_474 (d : Nat) (Q : Int → hh_S → Prop) (σ : hh_S) : Prop :=
  ((-2147483648 ≤ σ 129 10 + 1 ∧ σ 129 10 + 1 ≤ 2147483647) ∧ (-2147483648 ≤ σ 129 10 + 1 - 1 ∧ σ 129 10 + 1 - 1 ≤ 2147483647)) ∧ (Q (σ 129 10 + 1 - 1) (hh_up σ 129 10 (σ 129 10 + 1)))
def B_X12_bill_422 (d : Nat) (Q : Int → hh_S → Prop) (k422 : Int → Int → Int → hh_S → Prop) (x4 x6 x7 : Int) (σ : hh_S) : Prop :=
  ((-2147483648 ≤ x4 + 10 ∧ x4 + 10 ≤ 2147483647) ∧ (0 ≤ x4 + 10 ∧ x4 + 10 < 9100)) ∧ ((σ 129 (x4 + 10) ≤ x7 → B_X12_bill_474 d Q σ) ∧ (¬ σ 129 (x4 + 10) ≤ x7 → ((-2147483648 ≤ x6 + 6 ∧ x6 + 6 ≤ 2147483647) ∧ (-2147483648 ≤ x4 + 11 ∧ x4 + 11 ≤ 2147483647) ∧ (-2147483648 ≤ x4 + 11 + x7 ∧ x4 + 11 + x7 ≤ 2147483647) ∧ (0 ≤ x4 + 11 + x7 ∧ x4 + 11 + x7 < 9100) ∧ (-2147483648 ≤ x6 + 6 + (σ 129 (x4 + 11 + x7)) ∧ x6 + 6 + (σ 129 (x4 + 11 + x7)) ≤ 2147483647) ∧ (0 ≤ x7 ∧ x7 < 3) ∧ (0 ≤ x6 + 6 + (σ 129 (x4 + 11 + x7)) ∧ x6 + 6 + (σ 129 (x4 + 11 + x7)) < 9100) ∧ (-2147483648 ≤ x7 + 1 ∧ x7 + 1 ≤ 2147483647)) ∧ (k422 x4 x6 (x7 + 1) (hh_up σ 129 (x6 + 6 + (σ 129 (x4 + 11 + x7))) (σ 138 x7)))))
def B_X12_bill_287 (d : Nat) (Q : Int → hh_S → Prop) (x1 x3 x4 x5 x6 : Int) (σ : hh_S) : Prop :=
  ((0 ≤ x6 ∧ x6 < 9100) ∧ (-2147483648 ≤ x6 + 1 ∧ x6 + 1 ≤ 2147483647)) ∧ (∀ τ308 : hh_S, τ308 = (hh_up σ 129 x6 x1) → ((0 ≤ x6 + 1 ∧ x6 + 1 < 9100) ∧ (-2147483648 ≤ x6 + 2 ∧ x6 + 2 ≤ 2147483647) ∧ (0 ≤ x6 + 2 ∧ x6 + 2 < 9100) ∧ (-2147483648 ≤ x6 + 3 ∧ x6 + 3 ≤ 2147483647) ∧ (-9223372036854775808 ≤ x5 * x3 ∧ x5 * x3 ≤ 9223372036854775807) ∧ 0 ≤ x5 * x3 ∧ (-2147483648 ≤ (x5 * x3) / 100 ∧ (x5 * x3) / 100 ≤ 2147483647) ∧ (-2147483648 ≤ x5 - ((x5 * x3) / 100) ∧ x5 - ((x5 * x3) / 100) ≤ 2147483647) ∧ (0 ≤ x6 + 3 ∧ x6 + 3 < 9100) ∧ (-2147483648 ≤ x6 + 4 ∧ x6 + 4 ≤ 2147483647) ∧ (-2147483648 ≤ x4 + 3 ∧ x4 + 3 ≤ 2147483647)) ∧ (∀ τ360 : hh_S, τ360 = (hh_up (hh_up (hh_up τ308 129 (x6 + 1) (τ308 129 0)) 129 (x6 + 2) x5) 129 (x6 + 3) (x5 - ((x5 * x3) / 100))) → ((0 ≤ x4 + 3 ∧ x4 + 3 < 9100) ∧ (-2147483648 ≤ x6 + 3 ∧ x6 + 3 ≤ 2147483647) ∧ (0 ≤ x6 + 3 ∧ x6 + 3 < 9100)) ∧ (hh_Sp d hm_X12_less [hh_I (τ360 129 (x4 + 3)), hh_I (τ360 129 (x6 + 3))] τ360 (fun r370 σ370 => ((0 ≤ x6 + 4 ∧ x6 + 4 < 9100) ∧ (-2147483648 ≤ x4 + 3 ∧ x4 + 3 ≤ 2147483647)) ∧ (∀ τ383 : hh_S, τ383 = (hh_up σ370 129 (x6 + 4) r370) → ((0 ≤ x4 + 3 ∧ x4 + 3 < 9100) ∧ (-2147483648 ≤ x6 + 4 ∧ x6 + 4 ≤ 2147483647) ∧ (0 ≤ x6 + 4 ∧ x6 + 4 < 9100) ∧ (-2147483648 ≤ τ383 129 (x4 + 3) - (τ383 129 (x6 + 4)) ∧ τ383 129 (x4 + 3) - (τ383 129 (x6 + 4)) ≤ 2147483647) ∧ (-2147483648 ≤ x6 + 3 ∧ x6 + 3 ≤ 2147483647)) ∧ (∀ τ405 : hh_S, τ405 = (hh_up τ383 129 (x4 + 3) (τ383 129 (x4 + 3) - (τ383 129 (x6 + 4)))) → ((0 ≤ x6 + 3 ∧ x6 + 3 < 9100) ∧ (-2147483648 ≤ x6 + 4 ∧ x6 + 4 ≤ 2147483647) ∧ (0 ≤ x6 + 4 ∧ x6 + 4 < 9100) ∧ (-2147483648 ≤ τ405 129 (x6 + 3) - (τ405 129 (x6 + 4)) ∧ τ405 129 (x6 + 3) - (τ405 129 (x6 + 4)) ≤ 2147483647)) ∧ (hh_Sp d hm_X12_split [hh_R 128, hh_I x1, hh_I (τ405 129 (x6 + 3) - (τ405 129 (x6 + 4)))] τ405 (fun _ σ416 => ∃ n, hh_lp3 (B_X12_bill_422 d Q) n x4 x6 0 σ416))))))))
def B_X12_bill_281 (d : Nat) (Q : Int → hh_S → Prop) (k133 : Int → Int → Int → Int → Int → Int → Int → hh_S → Prop) (x1 x2 x3 x4 x5 x6 x7 : Int) (σ : hh_S) : Prop :=
  ((-2147483648 ≤ x7 + 1 ∧ x7 + 1 ≤ 2147483647)) ∧ (k133 x1 x2 x3 x4 x5 x6 (x7 + 1) σ)
def B_X12_bill_133 (d : Nat) (Q : Int → hh_S → Prop) (k133 : Int → Int → Int → Int → Int → Int → Int → hh_S → Prop) (x1 x2 x3 x4 x5 x6 x7 : Int) (σ : hh_S) : Prop :=
  (σ 129 7 ≤ x7 → B_X12_bill_287 d Q x1 x3 x4 x5 x6 σ) ∧ (¬ σ 129 7 ≤ x7 → ((-2147483648 ≤ 12 * x7 ∧ 12 * x7 ≤ 2147483647) ∧ (-2147483648 ≤ 250 + 12 * x7 ∧ 250 + 12 * x7 ≤ 2147483647) ∧ (-2147483648 ≤ 250 + 12 * x7 + 1 ∧ 250 + 12 * x7 + 1 ≤ 2147483647) ∧ (0 ≤ 250 + 12 * x7 + 1 ∧ 250 + 12 * x7 + 1 < 9100)) ∧ ((¬ σ 129 (250 + 12 * x7 + 1) = x1 → B_X12_bill_281 d Q k133 x1 x2 x3 x4 x5 x6 x7 σ) ∧ (σ 129 (250 + 12 * x7 + 1) = x1 → ((-2147483648 ≤ 250 + 12 * x7 + 2 ∧ 250 + 12 * x7 + 2 ≤ 2147483647) ∧ (0 ≤ 250 + 12 * x7 + 2 ∧ 250 + 12 * x7 + 2 < 9100)) ∧ ((x2 < σ 129 (250 + 12 * x7 + 2) → B_X12_bill_281 d Q k133 x1 x2 x3 x4 x5 x6 x7 σ) ∧ (¬ x2 < σ 129 (250 + 12 * x7 + 2) → ((-2147483648 ≤ 250 + 12 * x7 + 8 ∧ 250 + 12 * x7 + 8 ≤ 2147483647) ∧ (0 ≤ 250 + 12 * x7 + 8 ∧ 250 + 12 * x7 + 8 < 9100)) ∧ ((¬ σ 129 (250 + 12 * x7 + 8) = (-1) → B_X12_bill_281 d Q k133 x1 x2 x3 x4 x5 x6 x7 σ) ∧ (σ 129 (250 + 12 * x7 + 8) = (-1) → hh_Sp d hm_X12_isKnown [hh_R 128, hh_I x7, hh_I (σ 129 0)] σ (fun r205 σ205 => (¬ r205 = 0 → ((-2147483648 ≤ 250 + 12 * x7 + 8 ∧ 250 + 12 * x7 + 8 ≤ 2147483647) ∧ (0 ≤ 250 + 12 * x7 + 8 ∧ 250 + 12 * x7 + 8 < 9100) ∧ (-2147483648 ≤ 250 + 12 * x7 + 9 ∧ 250 + 12 * x7 + 9 ≤ 2147483647)) ∧ (∀ τ248 : hh_S, τ248 = (hh_up σ205 129 (250 + 12 * x7 + 8) (σ205 129 10)) → hh_Sp d hm_X12_chargedOf [hh_R 128, hh_I x7, hh_I (τ248 129 0)] τ248 (fun r249 σ249 => ((0 ≤ 250 + 12 * x7 + 9 ∧ 250 + 12 * x7 + 9 < 9100) ∧ (-2147483648 ≤ 250 + 12 * x7 + 9 ∧ 250 + 12 * x7 + 9 ≤ 2147483647) ∧ (-2147483648 ≤ x5 + r249 ∧ x5 + r249 ≤ 2147483647) ∧ (-2147483648 ≤ x6 + 5 ∧ x6 + 5 ≤ 2147483647)) ∧ (∀ τ277 : hh_S, τ277 = (hh_up σ249 129 (250 + 12 * x7 + 9) r249) → ((0 ≤ x6 + 5 ∧ x6 + 5 < 9100) ∧ (-2147483648 ≤ τ277 129 (x6 + 5) + 1 ∧ τ277 129 (x6 + 5) + 1 ≤ 2147483647)) ∧ (B_X12_bill_281 d Q k133 x1 x2 x3 x4 (x5 + r249) x6 x7 (hh_up τ277 129 (x6 + 5) (τ277 129 (x6 + 5) + 1))))))) ∧ (r205 = 0 → B_X12_bill_281 d Q k133 x1 x2 x3 x4 x5 x6 x7 σ205)))))))))
def B_X12_bill_130 (d : Nat) (Q : Int → hh_S → Prop) (x1 x2 x3 x4 x5 x6 : Int) (σ : hh_S) : Prop :=
  ∃ n, hh_lp7 (B_X12_bill_133 d Q) n x1 x2 x3 x4 x5 x6 0 σ
def B_X12_bill_106 (d : Nat) (Q : Int → hh_S → Prop) (k106 : Int → Int → Int → Int → Int → Int → Int → hh_S → Prop) (x1 x2 x3 x4 x5 x6 x7 : Int) (σ : hh_S) : Prop :=
  (12 ≤ x7 → B_X12_bill_130 d Q x1 x2 x3 x4 x5 x6 σ) ∧ (¬ 12 ≤ x7 → ((-2147483648 ≤ x6 + x7 ∧ x6 + x7 ≤ 2147483647) ∧ (0 ≤ x6 + x7 ∧ x6 + x7 < 9100) ∧ (-2147483648 ≤ x7 + 1 ∧ x7 + 1 ≤ 2147483647)) ∧ (k106 x1 x2 x3 x4 x5 x6 (x7 + 1) (hh_up σ 129 (x6 + x7) 0)))
def B_X12_bill_85 (d : Nat) (Q : Int → hh_S → Prop) (x1 x2 x3 x4 s0 : Int) (σ : hh_S) : Prop :=
  ((-2147483648 ≤ 12 * (σ 129 10) ∧ 12 * (σ 129 10) ≤ 2147483647) ∧ (-2147483648 ≤ 1630 + (12 * (σ 129 10)) ∧ 1630 + (12 * (σ 129 10)) ≤ 2147483647)) ∧ (∃ n, hh_lp7 (B_X12_bill_106 d Q) n x1 x2 x3 x4 s0 (1630 + (12 * (σ 129 10))) 0 σ)
def B_X12_bill_84 (d : Nat) (Q : Int → hh_S → Prop) (x1 x2 x3 x4 : Int) (σ : hh_S) : Prop :=
  B_X12_bill_85 d Q x1 x2 x3 x4 0 σ
def P_X12_bill (d : Nat) (a1 a2 a3 : Int) (σ : hh_S) (Q : Int → hh_S → Prop) : Prop :=
  hh_Sp d hm_X12_isMatter [hh_R 128, hh_I a1] σ (fun r2 σ2 => (r2 = 0 → Q (-1000000001) σ2) ∧ (¬ r2 = 0 → hh_Sp d hm_X12_isPast [hh_R 128, hh_I a2] σ2 (fun r10 σ10 => (r10 = 0 → Q (-1000000001) σ10) ∧ (¬ r10 = 0 → hh_Sp d hm_X12_in [hh_I a3, hh_I 0, hh_I 100] σ10 (fun r20 σ20 => (¬ r20 = 0 → (¬ σ20 129 10 = 16 → ((-2147483648 ≤ 20 * a1 ∧ 20 * a1 ≤ 2147483647) ∧ (-2147483648 ≤ 50 + 20 * a1 ∧ 50 + 20 * a1 ≤ 2147483647) ∧ (0 ≤ 50 + 20 * a1 ∧ 50 + 20 * a1 < 9100)) ∧ ((¬ σ20 129 (50 + 20 * a1) = 1 → B_X12_bill_84 d Q a1 a2 a3 (50 + 20 * a1) σ20) ∧ (σ20 129 (50 + 20 * a1) = 1 → hh_Sp d hm_X12_isBilled [hh_R 128, hh_I a1] σ20 (fun r66 σ66 => (¬ r66 = 0 → B_X12_bill_84 d Q a1 a2 a3 (50 + 20 * a1) σ66) ∧ (r66 = 0 → ((-2147483648 ≤ 50 + 20 * a1 + 2 ∧ 50 + 20 * a1 + 2 ≤ 2147483647) ∧ (0 ≤ 50 + 20 * a1 + 2 ∧ 50 + 20 * a1 + 2 < 9100)) ∧ (B_X12_bill_85 d Q a1 a2 a3 (50 + 20 * a1) (σ66 129 (50 + 20 * a1 + 2)) σ66)))))) ∧ (σ20 129 10 = 16 → Q (-1000000003) σ20)) ∧ (r20 = 0 → Q (-1000000001) σ20))))))
set_option maxRecDepth 20000 in
theorem w_X12_bill_474 {d : Nat} {Q : Int → hh_S → Prop} (σ : hh_S) (h : B_X12_bill_474 d Q σ) : hh_J (d + 1) hm_X12_bill 474 [some (hh_R 128), none, none, none, none, none, none, none, none] [] σ Q := by
  unfold B_X12_bill_474 at h
  obtain ⟨⟨q1, q2⟩, h⟩ := h
  refine hh_aload_n dX12_bill_474 rfl ?_
  refine hh_getR dX12_bill_475 kf_X12_7 rf_128_0 ?_
  refine hh_bipush dX12_bill_478 (by decide) ?_
  refine hh_dup2 dX12_bill_480 (fun _ => rfl) (fun _ => rfl) ?_
  refine hh_iald dX12_bill_481 ra_129 (by decide) rfl ?_
  refine hh_iconst dX12_bill_482 (by decide) ?_
  refine hh_iadd dX12_bill_483 q1 ?_
  refine hh_iast dX12_bill_484 ra_129 (by decide) ?_
  refine hh_aload_n dX12_bill_485 rfl ?_
  refine hh_getR dX12_bill_486 kf_X12_7 rf_128_0 ?_
  refine hh_bipush dX12_bill_489 (by decide) ?_
  refine hh_iald dX12_bill_491 ra_129 (by decide) rfl ?_
  refine hh_iconst dX12_bill_492 (by decide) ?_
  refine hh_isub dX12_bill_493 q2 ?_
  exact hh_ireturn dX12_bill_494 rfl h
set_option maxRecDepth 20000 in
theorem w_X12_bill_422 {d : Nat} {Q : Int → hh_S → Prop} {k422 : Int → Int → Int → hh_S → Prop} (hk422 : ∀ (x4 x6 x7 : Int) (σ : hh_S), k422 x4 x6 x7 σ → hh_J (d + 1) hm_X12_bill 422 [some (hh_R 128), none, none, none, some (hh_I x4), none, some (hh_I x6), some (hh_I x7), none] [] σ Q) (x4 x6 x7 : Int) (σ : hh_S) (h : B_X12_bill_422 d Q k422 x4 x6 x7 σ) : hh_J (d + 1) hm_X12_bill 422 [some (hh_R 128), none, none, none, some (hh_I x4), none, some (hh_I x6), some (hh_I x7), none] [] σ Q := by
  unfold B_X12_bill_422 at h
  obtain ⟨⟨q1, q2⟩, h⟩ := h
  refine hh_iload dX12_bill_422 rfl ?_
  refine hh_aload_n dX12_bill_424 rfl ?_
  refine hh_getR dX12_bill_425 kf_X12_7 rf_128_0 ?_
  refine hh_iload dX12_bill_428 rfl ?_
  refine hh_bipush dX12_bill_430 (by decide) ?_
  refine hh_iadd dX12_bill_432 q1 ?_
  refine hh_iald dX12_bill_433 ra_129 q2 rfl ?_
  refine hh_icmp_ge (tgt := 474) dX12_bill_434 (by decide) (fun c => ?_) (fun c => ?_)
  · replace h := h.1 c
    exact hh_forget [true, false, false, false, false, false, false, false, false] (w_X12_bill_474 _ h)
  · replace h := h.2 c
    obtain ⟨⟨q1, q2, q3, q4, q5, q6, q7, q8⟩, h⟩ := h
    refine hh_aload_n dX12_bill_437 rfl ?_
    refine hh_getR dX12_bill_438 kf_X12_7 rf_128_0 ?_
    refine hh_iload dX12_bill_441 rfl ?_
    refine hh_bipush dX12_bill_443 (by decide) ?_
    refine hh_iadd dX12_bill_445 q1 ?_
    refine hh_aload_n dX12_bill_446 rfl ?_
    refine hh_getR dX12_bill_447 kf_X12_7 rf_128_0 ?_
    refine hh_iload dX12_bill_450 rfl ?_
    refine hh_bipush dX12_bill_452 (by decide) ?_
    refine hh_iadd dX12_bill_454 q2 ?_
    refine hh_iload dX12_bill_455 rfl ?_
    refine hh_iadd dX12_bill_457 q3 ?_
    refine hh_iald dX12_bill_458 ra_129 q4 rfl ?_
    refine hh_iadd dX12_bill_459 q5 ?_
    refine hh_aload_n dX12_bill_460 rfl ?_
    refine hh_getR dX12_bill_461 kf_X12_37 rf_128_23 ?_
    refine hh_iload dX12_bill_464 rfl ?_
    refine hh_iald dX12_bill_466 ra_138 q6 rfl ?_
    refine hh_iast dX12_bill_467 ra_129 q7 ?_
    refine hh_iinc dX12_bill_468 (by decide) rfl rfl q8 ?_
    refine hh_goto (tgt := 422) dX12_bill_471 (by decide) ?_
    exact hh_forget [true, false, false, false, true, false, true, true, false] (hk422 _ _ _ _ h)
theorem l_X12_bill_422 {d : Nat} {Q : Int → hh_S → Prop} : ∀ (n : Nat) (x4 x6 x7 : Int) (σ : hh_S), hh_lp3 (B_X12_bill_422 d Q) n x4 x6 x7 σ → hh_J (d + 1) hm_X12_bill 422 [some (hh_R 128), none, none, none, some (hh_I x4), none, some (hh_I x6), some (hh_I x7), none] [] σ Q := by
  intro n
  induction n with
  | zero => intro _ _ _ _ h; exact h.elim
  | succ n ih => intro x4 x6 x7 σ h; exact w_X12_bill_422 ih x4 x6 x7 σ h
set_option maxRecDepth 20000 in
theorem w_X12_bill_287 {d : Nat} {Q : Int → hh_S → Prop} (x1 x3 x4 x5 x6 : Int) (σ : hh_S) (h : B_X12_bill_287 d Q x1 x3 x4 x5 x6 σ) : hh_J (d + 1) hm_X12_bill 287 [some (hh_R 128), some (hh_I x1), none, some (hh_I x3), some (hh_I x4), some (hh_I x5), some (hh_I x6), none, none] [] σ Q := by
  unfold B_X12_bill_287 at h
  obtain ⟨⟨q1, q2⟩, h⟩ := h
  refine hh_aload_n dX12_bill_287 rfl ?_
  refine hh_getR dX12_bill_288 kf_X12_7 rf_128_0 ?_
  refine hh_iload dX12_bill_291 rfl ?_
  refine hh_iload_n dX12_bill_293 rfl ?_
  refine hh_iast dX12_bill_294 ra_129 q1 ?_
  refine hh_aload_n dX12_bill_295 rfl ?_
  refine hh_getR dX12_bill_296 kf_X12_7 rf_128_0 ?_
  refine hh_iload dX12_bill_299 rfl ?_
  refine hh_iconst dX12_bill_301 (by decide) ?_
  refine hh_iadd dX12_bill_302 q2 ?_
  refine hh_aload_n dX12_bill_303 rfl ?_
  refine hh_getR dX12_bill_304 kf_X12_7 rf_128_0 ?_
  refine hh_iconst dX12_bill_307 (by decide) ?_
  replace h := h _ rfl
  obtain ⟨⟨q1, q2, q3, q4, q5, q6, q7, q8, q9, q10, q11⟩, h⟩ := h
  refine hh_iald dX12_bill_308 ra_129 (by decide) rfl ?_
  refine hh_iast dX12_bill_309 ra_129 q1 ?_
  refine hh_aload_n dX12_bill_310 rfl ?_
  refine hh_getR dX12_bill_311 kf_X12_7 rf_128_0 ?_
  refine hh_iload dX12_bill_314 rfl ?_
  refine hh_iconst dX12_bill_316 (by decide) ?_
  refine hh_iadd dX12_bill_317 q2 ?_
  refine hh_iload dX12_bill_318 rfl ?_
  refine hh_iast dX12_bill_320 ra_129 q3 ?_
  refine hh_aload_n dX12_bill_321 rfl ?_
  refine hh_getR dX12_bill_322 kf_X12_7 rf_128_0 ?_
  refine hh_iload dX12_bill_325 rfl ?_
  refine hh_iconst dX12_bill_327 (by decide) ?_
  refine hh_iadd dX12_bill_328 q4 ?_
  refine hh_iload dX12_bill_329 rfl ?_
  refine hh_iload dX12_bill_331 rfl ?_
  refine hh_i2l dX12_bill_333 ?_
  refine hh_iload_n dX12_bill_334 rfl ?_
  refine hh_i2l dX12_bill_335 ?_
  refine hh_lmul dX12_bill_336 q5 ?_
  refine hh_ldc2 (n := 100) dX12_bill_337 kc_X12_230 (by decide) ?_
  refine hh_ldiv dX12_bill_340 q6 (by decide) ?_
  refine hh_l2i dX12_bill_341 q7 ?_
  refine hh_isub dX12_bill_342 q8 ?_
  refine hh_iast dX12_bill_343 ra_129 q9 ?_
  refine hh_aload_n dX12_bill_344 rfl ?_
  refine hh_getR dX12_bill_345 kf_X12_7 rf_128_0 ?_
  refine hh_iload dX12_bill_348 rfl ?_
  refine hh_iconst dX12_bill_350 (by decide) ?_
  refine hh_iadd dX12_bill_351 q10 ?_
  refine hh_aload_n dX12_bill_352 rfl ?_
  refine hh_getR dX12_bill_353 kf_X12_7 rf_128_0 ?_
  refine hh_iload dX12_bill_356 rfl ?_
  refine hh_iconst dX12_bill_358 (by decide) ?_
  refine hh_iadd dX12_bill_359 q11 ?_
  replace h := h _ rfl
  obtain ⟨⟨q1, q2, q3⟩, h⟩ := h
  refine hh_iald dX12_bill_360 ra_129 q1 rfl ?_
  refine hh_aload_n dX12_bill_361 rfl ?_
  refine hh_getR dX12_bill_362 kf_X12_7 rf_128_0 ?_
  refine hh_iload dX12_bill_365 rfl ?_
  refine hh_iconst dX12_bill_367 (by decide) ?_
  refine hh_iadd dX12_bill_368 q2 ?_
  refine hh_iald dX12_bill_369 ra_129 q3 rfl ?_
  refine hh_cS2 dX12_bill_370 lk_X12_218 mo_X12_less (Nat.le_of_ble_eq_true rfl) h (fun r370 σ370 h => ?_)
  obtain ⟨⟨q1, q2⟩, h⟩ := h
  refine hh_iast dX12_bill_373 ra_129 q1 ?_
  refine hh_aload_n dX12_bill_374 rfl ?_
  refine hh_getR dX12_bill_375 kf_X12_7 rf_128_0 ?_
  refine hh_iload dX12_bill_378 rfl ?_
  refine hh_iconst dX12_bill_380 (by decide) ?_
  refine hh_iadd dX12_bill_381 q2 ?_
  refine hh_dup2 dX12_bill_382 (fun _ => rfl) (fun _ => rfl) ?_
  replace h := h _ rfl
  obtain ⟨⟨q1, q2, q3, q4, q5⟩, h⟩ := h
  refine hh_iald dX12_bill_383 ra_129 q1 rfl ?_
  refine hh_aload_n dX12_bill_384 rfl ?_
  refine hh_getR dX12_bill_385 kf_X12_7 rf_128_0 ?_
  refine hh_iload dX12_bill_388 rfl ?_
  refine hh_iconst dX12_bill_390 (by decide) ?_
  refine hh_iadd dX12_bill_391 q2 ?_
  refine hh_iald dX12_bill_392 ra_129 q3 rfl ?_
  refine hh_isub dX12_bill_393 q4 ?_
  refine hh_iast dX12_bill_394 ra_129 q1 ?_
  refine hh_aload_n dX12_bill_395 rfl ?_
  refine hh_iload_n dX12_bill_396 rfl ?_
  refine hh_aload_n dX12_bill_397 rfl ?_
  refine hh_getR dX12_bill_398 kf_X12_7 rf_128_0 ?_
  refine hh_iload dX12_bill_401 rfl ?_
  refine hh_iconst dX12_bill_403 (by decide) ?_
  refine hh_iadd dX12_bill_404 q5 ?_
  replace h := h _ rfl
  obtain ⟨⟨q1, q2, q3, q4⟩, h⟩ := h
  refine hh_iald dX12_bill_405 ra_129 q1 rfl ?_
  refine hh_aload_n dX12_bill_406 rfl ?_
  refine hh_getR dX12_bill_407 kf_X12_7 rf_128_0 ?_
  refine hh_iload dX12_bill_410 rfl ?_
  refine hh_iconst dX12_bill_412 (by decide) ?_
  refine hh_iadd dX12_bill_413 q2 ?_
  refine hh_iald dX12_bill_414 ra_129 q3 rfl ?_
  refine hh_isub dX12_bill_415 q4 ?_
  refine hh_cV2 dX12_bill_416 lk_X12_232 mo_X12_split rc_128 (Nat.le_of_ble_eq_true rfl) h (fun _ σ416 h => ?_)
  refine hh_iconst dX12_bill_419 (by decide) ?_
  refine hh_istore dX12_bill_420 (by decide) rfl ?_
  obtain ⟨n, h⟩ := h
  exact hh_forget [true, false, false, false, true, false, true, true, false] (l_X12_bill_422 n _ _ _ _ h)
set_option maxRecDepth 20000 in
theorem w_X12_bill_281 {d : Nat} {Q : Int → hh_S → Prop} {k133 : Int → Int → Int → Int → Int → Int → Int → hh_S → Prop} (hk133 : ∀ (x1 x2 x3 x4 x5 x6 x7 : Int) (σ : hh_S), k133 x1 x2 x3 x4 x5 x6 x7 σ → hh_J (d + 1) hm_X12_bill 133 [some (hh_R 128), some (hh_I x1), some (hh_I x2), some (hh_I x3), some (hh_I x4), some (hh_I x5), some (hh_I x6), some (hh_I x7), none] [] σ Q) (x1 x2 x3 x4 x5 x6 x7 : Int) (σ : hh_S) (h : B_X12_bill_281 d Q k133 x1 x2 x3 x4 x5 x6 x7 σ) : hh_J (d + 1) hm_X12_bill 281 [some (hh_R 128), some (hh_I x1), some (hh_I x2), some (hh_I x3), some (hh_I x4), some (hh_I x5), some (hh_I x6), some (hh_I x7), none] [] σ Q := by
  unfold B_X12_bill_281 at h
  obtain ⟨q1, h⟩ := h
  refine hh_iinc dX12_bill_281 (by decide) rfl rfl q1 ?_
  refine hh_goto (tgt := 133) dX12_bill_284 (by decide) ?_
  exact hh_forget [true, true, true, true, true, true, true, true, false] (hk133 _ _ _ _ _ _ _ _ h)
set_option maxRecDepth 20000 in
theorem w_X12_bill_133 {d : Nat} {Q : Int → hh_S → Prop} {k133 : Int → Int → Int → Int → Int → Int → Int → hh_S → Prop} (hk133 : ∀ (x1 x2 x3 x4 x5 x6 x7 : Int) (σ : hh_S), k133 x1 x2 x3 x4 x5 x6 x7 σ → hh_J (d + 1) hm_X12_bill 133 [some (hh_R 128), some (hh_I x1), some (hh_I x2), some (hh_I x3), some (hh_I x4), some (hh_I x5), some (hh_I x6), some (hh_I x7), none] [] σ Q) (x1 x2 x3 x4 x5 x6 x7 : Int) (σ : hh_S) (h : B_X12_bill_133 d Q k133 x1 x2 x3 x4 x5 x6 x7 σ) : hh_J (d + 1) hm_X12_bill 133 [some (hh_R 128), some (hh_I x1), some (hh_I x2), some (hh_I x3), some (hh_I x4), some (hh_I x5), some (hh_I x6), some (hh_I x7), none] [] σ Q := by
  unfold B_X12_bill_133 at h
  refine hh_iload dX12_bill_133 rfl ?_
  refine hh_aload_n dX12_bill_135 rfl ?_
  refine hh_getR dX12_bill_136 kf_X12_7 rf_128_0 ?_
  refine hh_bipush dX12_bill_139 (by decide) ?_
  refine hh_iald dX12_bill_141 ra_129 (by decide) rfl ?_
  refine hh_icmp_ge (tgt := 287) dX12_bill_142 (by decide) (fun c => ?_) (fun c => ?_)
  · replace h := h.1 c
    exact hh_forget [true, true, false, true, true, true, true, false, false] (w_X12_bill_287 _ _ _ _ _ _ h)
  · replace h := h.2 c
    obtain ⟨⟨q1, q2, q3, q4⟩, h⟩ := h
    refine hh_sipush dX12_bill_145 (by decide) ?_
    refine hh_bipush dX12_bill_148 (by decide) ?_
    refine hh_iload dX12_bill_150 rfl ?_
    refine hh_imul dX12_bill_152 q1 ?_
    refine hh_iadd dX12_bill_153 q2 ?_
    refine hh_istore dX12_bill_154 (by decide) rfl ?_
    refine hh_aload_n dX12_bill_156 rfl ?_
    refine hh_getR dX12_bill_157 kf_X12_7 rf_128_0 ?_
    refine hh_iload dX12_bill_160 rfl ?_
    refine hh_iconst dX12_bill_162 (by decide) ?_
    refine hh_iadd dX12_bill_163 q3 ?_
    refine hh_iald dX12_bill_164 ra_129 q4 rfl ?_
    refine hh_iload_n dX12_bill_165 rfl ?_
    refine hh_icmp_ne (tgt := 281) dX12_bill_166 (by decide) (fun c => ?_) (fun c => ?_)
    · replace h := h.1 c
      exact hh_forget [true, true, true, true, true, true, true, true, false] (w_X12_bill_281 hk133 _ _ _ _ _ _ _ _ h)
    · replace h := h.2 c
      obtain ⟨⟨q1, q2⟩, h⟩ := h
      refine hh_aload_n dX12_bill_169 rfl ?_
      refine hh_getR dX12_bill_170 kf_X12_7 rf_128_0 ?_
      refine hh_iload dX12_bill_173 rfl ?_
      refine hh_iconst dX12_bill_175 (by decide) ?_
      refine hh_iadd dX12_bill_176 q1 ?_
      refine hh_iald dX12_bill_177 ra_129 q2 rfl ?_
      refine hh_iload_n dX12_bill_178 rfl ?_
      refine hh_icmp_gt (tgt := 281) dX12_bill_179 (by decide) (fun c => ?_) (fun c => ?_)
      · replace h := h.1 c
        exact hh_forget [true, true, true, true, true, true, true, true, false] (w_X12_bill_281 hk133 _ _ _ _ _ _ _ _ h)
      · replace h := h.2 c
        obtain ⟨⟨q1, q2⟩, h⟩ := h
        refine hh_aload_n dX12_bill_182 rfl ?_
        refine hh_getR dX12_bill_183 kf_X12_7 rf_128_0 ?_
        refine hh_iload dX12_bill_186 rfl ?_
        refine hh_bipush dX12_bill_188 (by decide) ?_
        refine hh_iadd dX12_bill_190 q1 ?_
        refine hh_iald dX12_bill_191 ra_129 q2 rfl ?_
        refine hh_iconst dX12_bill_192 (by decide) ?_
        refine hh_icmp_ne (tgt := 281) dX12_bill_193 (by decide) (fun c => ?_) (fun c => ?_)
        · replace h := h.1 c
          exact hh_forget [true, true, true, true, true, true, true, true, false] (w_X12_bill_281 hk133 _ _ _ _ _ _ _ _ h)
        · replace h := h.2 c
          refine hh_aload_n dX12_bill_196 rfl ?_
          refine hh_iload dX12_bill_197 rfl ?_
          refine hh_aload_n dX12_bill_199 rfl ?_
          refine hh_getR dX12_bill_200 kf_X12_7 rf_128_0 ?_
          refine hh_iconst dX12_bill_203 (by decide) ?_
          refine hh_iald dX12_bill_204 ra_129 (by decide) rfl ?_
          refine hh_cV2 dX12_bill_205 lk_X12_101 mo_X12_isKnown rc_128 (Nat.le_of_ble_eq_true rfl) h (fun r205 σ205 h => ?_)
          refine hh_if_ne (tgt := 214) dX12_bill_208 (by decide) (fun c => ?_) (fun c => ?_)
          · replace h := h.1 c
            obtain ⟨⟨q1, q2, q3⟩, h⟩ := h
            refine hh_aload_n dX12_bill_214 rfl ?_
            refine hh_getR dX12_bill_215 kf_X12_7 rf_128_0 ?_
            refine hh_iload dX12_bill_218 rfl ?_
            refine hh_bipush dX12_bill_220 (by decide) ?_
            refine hh_iadd dX12_bill_222 q1 ?_
            refine hh_aload_n dX12_bill_223 rfl ?_
            refine hh_getR dX12_bill_224 kf_X12_7 rf_128_0 ?_
            refine hh_bipush dX12_bill_227 (by decide) ?_
            refine hh_iald dX12_bill_229 ra_129 (by decide) rfl ?_
            refine hh_iast dX12_bill_230 ra_129 q2 ?_
            refine hh_aload_n dX12_bill_231 rfl ?_
            refine hh_getR dX12_bill_232 kf_X12_7 rf_128_0 ?_
            refine hh_iload dX12_bill_235 rfl ?_
            refine hh_bipush dX12_bill_237 (by decide) ?_
            refine hh_iadd dX12_bill_239 q3 ?_
            refine hh_aload_n dX12_bill_240 rfl ?_
            refine hh_iload dX12_bill_241 rfl ?_
            refine hh_aload_n dX12_bill_243 rfl ?_
            refine hh_getR dX12_bill_244 kf_X12_7 rf_128_0 ?_
            refine hh_iconst dX12_bill_247 (by decide) ?_
            replace h := h _ rfl
            refine hh_iald dX12_bill_248 ra_129 (by decide) rfl ?_
            refine hh_cV2 dX12_bill_249 lk_X12_227 mo_X12_chargedOf rc_128 (Nat.le_of_ble_eq_true rfl) h (fun r249 σ249 h => ?_)
            obtain ⟨⟨q1, q2, q3, q4⟩, h⟩ := h
            refine hh_iast dX12_bill_252 ra_129 q1 ?_
            refine hh_iload dX12_bill_253 rfl ?_
            refine hh_aload_n dX12_bill_255 rfl ?_
            refine hh_getR dX12_bill_256 kf_X12_7 rf_128_0 ?_
            refine hh_iload dX12_bill_259 rfl ?_
            refine hh_bipush dX12_bill_261 (by decide) ?_
            refine hh_iadd dX12_bill_263 q2 ?_
            refine hh_iald dX12_bill_264 ra_129 q1 (hh_up_at σ249 129 (250 + 12 * x7 + 9) r249) ?_
            refine hh_iadd dX12_bill_265 q3 ?_
            refine hh_istore dX12_bill_266 (by decide) rfl ?_
            refine hh_aload_n dX12_bill_268 rfl ?_
            refine hh_getR dX12_bill_269 kf_X12_7 rf_128_0 ?_
            refine hh_iload dX12_bill_272 rfl ?_
            refine hh_iconst dX12_bill_274 (by decide) ?_
            refine hh_iadd dX12_bill_275 q4 ?_
            refine hh_dup2 dX12_bill_276 (fun _ => rfl) (fun _ => rfl) ?_
            replace h := h _ rfl
            obtain ⟨⟨q1, q2⟩, h⟩ := h
            refine hh_iald dX12_bill_277 ra_129 q1 rfl ?_
            refine hh_iconst dX12_bill_278 (by decide) ?_
            refine hh_iadd dX12_bill_279 q2 ?_
            refine hh_iast dX12_bill_280 ra_129 q1 ?_
            exact hh_forget [true, true, true, true, true, true, true, true, false] (w_X12_bill_281 hk133 _ _ _ _ _ _ _ _ h)
          · replace h := h.2 c
            refine hh_goto (tgt := 281) dX12_bill_211 (by decide) ?_
            exact hh_forget [true, true, true, true, true, true, true, true, false] (w_X12_bill_281 hk133 _ _ _ _ _ _ _ _ h)
theorem l_X12_bill_133 {d : Nat} {Q : Int → hh_S → Prop} : ∀ (n : Nat) (x1 x2 x3 x4 x5 x6 x7 : Int) (σ : hh_S), hh_lp7 (B_X12_bill_133 d Q) n x1 x2 x3 x4 x5 x6 x7 σ → hh_J (d + 1) hm_X12_bill 133 [some (hh_R 128), some (hh_I x1), some (hh_I x2), some (hh_I x3), some (hh_I x4), some (hh_I x5), some (hh_I x6), some (hh_I x7), none] [] σ Q := by
  intro n
  induction n with
  | zero => intro _ _ _ _ _ _ _ _ h; exact h.elim
  | succ n ih => intro x1 x2 x3 x4 x5 x6 x7 σ h; exact w_X12_bill_133 ih x1 x2 x3 x4 x5 x6 x7 σ h
set_option maxRecDepth 20000 in
theorem w_X12_bill_130 {d : Nat} {Q : Int → hh_S → Prop} (x1 x2 x3 x4 x5 x6 : Int) (σ : hh_S) (h : B_X12_bill_130 d Q x1 x2 x3 x4 x5 x6 σ) : hh_J (d + 1) hm_X12_bill 130 [some (hh_R 128), some (hh_I x1), some (hh_I x2), some (hh_I x3), some (hh_I x4), some (hh_I x5), some (hh_I x6), none, none] [] σ Q := by
  unfold B_X12_bill_130 at h
  refine hh_iconst dX12_bill_130 (by decide) ?_
  refine hh_istore dX12_bill_131 (by decide) rfl ?_
  obtain ⟨n, h⟩ := h
  exact hh_forget [true, true, true, true, true, true, true, true, false] (l_X12_bill_133 n _ _ _ _ _ _ _ _ h)
set_option maxRecDepth 20000 in
theorem w_X12_bill_106 {d : Nat} {Q : Int → hh_S → Prop} {k106 : Int → Int → Int → Int → Int → Int → Int → hh_S → Prop} (hk106 : ∀ (x1 x2 x3 x4 x5 x6 x7 : Int) (σ : hh_S), k106 x1 x2 x3 x4 x5 x6 x7 σ → hh_J (d + 1) hm_X12_bill 106 [some (hh_R 128), some (hh_I x1), some (hh_I x2), some (hh_I x3), some (hh_I x4), some (hh_I x5), some (hh_I x6), some (hh_I x7), none] [] σ Q) (x1 x2 x3 x4 x5 x6 x7 : Int) (σ : hh_S) (h : B_X12_bill_106 d Q k106 x1 x2 x3 x4 x5 x6 x7 σ) : hh_J (d + 1) hm_X12_bill 106 [some (hh_R 128), some (hh_I x1), some (hh_I x2), some (hh_I x3), some (hh_I x4), some (hh_I x5), some (hh_I x6), some (hh_I x7), none] [] σ Q := by
  unfold B_X12_bill_106 at h
  refine hh_iload dX12_bill_106 rfl ?_
  refine hh_bipush dX12_bill_108 (by decide) ?_
  refine hh_icmp_ge (tgt := 130) dX12_bill_110 (by decide) (fun c => ?_) (fun c => ?_)
  · replace h := h.1 c
    exact hh_forget [true, true, true, true, true, true, true, false, false] (w_X12_bill_130 _ _ _ _ _ _ _ h)
  · replace h := h.2 c
    obtain ⟨⟨q1, q2, q3⟩, h⟩ := h
    refine hh_aload_n dX12_bill_113 rfl ?_
    refine hh_getR dX12_bill_114 kf_X12_7 rf_128_0 ?_
    refine hh_iload dX12_bill_117 rfl ?_
    refine hh_iload dX12_bill_119 rfl ?_
    refine hh_iadd dX12_bill_121 q1 ?_
    refine hh_iconst dX12_bill_122 (by decide) ?_
    refine hh_iast dX12_bill_123 ra_129 q2 ?_
    refine hh_iinc dX12_bill_124 (by decide) rfl rfl q3 ?_
    refine hh_goto (tgt := 106) dX12_bill_127 (by decide) ?_
    exact hh_forget [true, true, true, true, true, true, true, true, false] (hk106 _ _ _ _ _ _ _ _ h)
theorem l_X12_bill_106 {d : Nat} {Q : Int → hh_S → Prop} : ∀ (n : Nat) (x1 x2 x3 x4 x5 x6 x7 : Int) (σ : hh_S), hh_lp7 (B_X12_bill_106 d Q) n x1 x2 x3 x4 x5 x6 x7 σ → hh_J (d + 1) hm_X12_bill 106 [some (hh_R 128), some (hh_I x1), some (hh_I x2), some (hh_I x3), some (hh_I x4), some (hh_I x5), some (hh_I x6), some (hh_I x7), none] [] σ Q := by
  intro n
  induction n with
  | zero => intro _ _ _ _ _ _ _ _ h; exact h.elim
  | succ n ih => intro x1 x2 x3 x4 x5 x6 x7 σ h; exact w_X12_bill_106 ih x1 x2 x3 x4 x5 x6 x7 σ h
set_option maxRecDepth 20000 in
theorem w_X12_bill_85 {d : Nat} {Q : Int → hh_S → Prop} (x1 x2 x3 x4 s0 : Int) (σ : hh_S) (h : B_X12_bill_85 d Q x1 x2 x3 x4 s0 σ) : hh_J (d + 1) hm_X12_bill 85 [some (hh_R 128), some (hh_I x1), some (hh_I x2), some (hh_I x3), some (hh_I x4), none, none, none, none] [hh_I s0] σ Q := by
  unfold B_X12_bill_85 at h
  obtain ⟨⟨q1, q2⟩, h⟩ := h
  refine hh_istore dX12_bill_85 (by decide) rfl ?_
  refine hh_sipush dX12_bill_87 (by decide) ?_
  refine hh_bipush dX12_bill_90 (by decide) ?_
  refine hh_aload_n dX12_bill_92 rfl ?_
  refine hh_getR dX12_bill_93 kf_X12_7 rf_128_0 ?_
  refine hh_bipush dX12_bill_96 (by decide) ?_
  refine hh_iald dX12_bill_98 ra_129 (by decide) rfl ?_
  refine hh_imul dX12_bill_99 q1 ?_
  refine hh_iadd dX12_bill_100 q2 ?_
  refine hh_istore dX12_bill_101 (by decide) rfl ?_
  refine hh_iconst dX12_bill_103 (by decide) ?_
  refine hh_istore dX12_bill_104 (by decide) rfl ?_
  obtain ⟨n, h⟩ := h
  exact hh_forget [true, true, true, true, true, true, true, true, false] (l_X12_bill_106 n _ _ _ _ _ _ _ _ h)
set_option maxRecDepth 20000 in
theorem w_X12_bill_84 {d : Nat} {Q : Int → hh_S → Prop} (x1 x2 x3 x4 : Int) (σ : hh_S) (h : B_X12_bill_84 d Q x1 x2 x3 x4 σ) : hh_J (d + 1) hm_X12_bill 84 [some (hh_R 128), some (hh_I x1), some (hh_I x2), some (hh_I x3), some (hh_I x4), none, none, none, none] [] σ Q := by
  unfold B_X12_bill_84 at h
  refine hh_iconst dX12_bill_84 (by decide) ?_
  exact hh_forget [true, true, true, true, true, false, false, false, false] (w_X12_bill_85 _ _ _ _ _ _ h)
set_option maxRecDepth 20000 in
theorem w_X12_bill {d : Nat} {a1 a2 a3 : Int} {σ : hh_S} {Q : Int → hh_S → Prop} (h : P_X12_bill d a1 a2 a3 σ Q) : hh_J (d + 1) hm_X12_bill 0 [some (hh_R 128), some (hh_I a1), some (hh_I a2), some (hh_I a3), none, none, none, none, none] [] σ Q := by
  unfold P_X12_bill at h
  refine hh_aload_n dX12_bill_0 rfl ?_
  refine hh_iload_n dX12_bill_1 rfl ?_
  refine hh_cV1 dX12_bill_2 lk_X12_82 mo_X12_isMatter rc_128 (Nat.le_of_ble_eq_true rfl) h (fun r2 σ2 h => ?_)
  refine hh_if_eq (tgt := 26) dX12_bill_5 (by decide) (fun c => ?_) (fun c => ?_)
  · replace h := h.1 c
    refine hh_ldc (n := -1000000001) dX12_bill_26 kc_X12_72 (by decide) ?_
    exact hh_ireturn dX12_bill_28 rfl h
  · replace h := h.2 c
    refine hh_aload_n dX12_bill_8 rfl ?_
    refine hh_iload_n dX12_bill_9 rfl ?_
    refine hh_cV1 dX12_bill_10 lk_X12_92 mo_X12_isPast rc_128 (Nat.le_of_ble_eq_true rfl) h (fun r10 σ10 h => ?_)
    refine hh_if_eq (tgt := 26) dX12_bill_13 (by decide) (fun c => ?_) (fun c => ?_)
    · replace h := h.1 c
      refine hh_ldc (n := -1000000001) dX12_bill_26 kc_X12_72 (by decide) ?_
      exact hh_ireturn dX12_bill_28 rfl h
    · replace h := h.2 c
      refine hh_iload_n dX12_bill_16 rfl ?_
      refine hh_iconst dX12_bill_17 (by decide) ?_
      refine hh_bipush dX12_bill_18 (by decide) ?_
      refine hh_cS3 dX12_bill_20 lk_X12_68 mo_X12_in (Nat.le_of_ble_eq_true rfl) h (fun r20 σ20 h => ?_)
      refine hh_if_ne (tgt := 29) dX12_bill_23 (by decide) (fun c => ?_) (fun c => ?_)
      · replace h := h.1 c
        refine hh_aload_n dX12_bill_29 rfl ?_
        refine hh_getR dX12_bill_30 kf_X12_7 rf_128_0 ?_
        refine hh_bipush dX12_bill_33 (by decide) ?_
        refine hh_iald dX12_bill_35 ra_129 (by decide) rfl ?_
        refine hh_bipush dX12_bill_36 (by decide) ?_
        refine hh_icmp_ne (tgt := 44) dX12_bill_38 (by decide) (fun c => ?_) (fun c => ?_)
        · replace h := h.1 c
          obtain ⟨⟨q1, q2, q3⟩, h⟩ := h
          refine hh_bipush dX12_bill_44 (by decide) ?_
          refine hh_bipush dX12_bill_46 (by decide) ?_
          refine hh_iload_n dX12_bill_48 rfl ?_
          refine hh_imul dX12_bill_49 q1 ?_
          refine hh_iadd dX12_bill_50 q2 ?_
          refine hh_istore dX12_bill_51 (by decide) rfl ?_
          refine hh_aload_n dX12_bill_53 rfl ?_
          refine hh_getR dX12_bill_54 kf_X12_7 rf_128_0 ?_
          refine hh_iload dX12_bill_57 rfl ?_
          refine hh_iald dX12_bill_59 ra_129 q3 rfl ?_
          refine hh_iconst dX12_bill_60 (by decide) ?_
          refine hh_icmp_ne (tgt := 84) dX12_bill_61 (by decide) (fun c => ?_) (fun c => ?_)
          · replace h := h.1 c
            exact hh_forget [true, true, true, true, true, false, false, false, false] (w_X12_bill_84 _ _ _ _ _ h)
          · replace h := h.2 c
            refine hh_aload_n dX12_bill_64 rfl ?_
            refine hh_iload_n dX12_bill_65 rfl ?_
            refine hh_cV1 dX12_bill_66 lk_X12_88 mo_X12_isBilled rc_128 (Nat.le_of_ble_eq_true rfl) h (fun r66 σ66 h => ?_)
            refine hh_if_ne (tgt := 84) dX12_bill_69 (by decide) (fun c => ?_) (fun c => ?_)
            · replace h := h.1 c
              exact hh_forget [true, true, true, true, true, false, false, false, false] (w_X12_bill_84 _ _ _ _ _ h)
            · replace h := h.2 c
              obtain ⟨⟨q1, q2⟩, h⟩ := h
              refine hh_aload_n dX12_bill_72 rfl ?_
              refine hh_getR dX12_bill_73 kf_X12_7 rf_128_0 ?_
              refine hh_iload dX12_bill_76 rfl ?_
              refine hh_iconst dX12_bill_78 (by decide) ?_
              refine hh_iadd dX12_bill_79 q1 ?_
              refine hh_iald dX12_bill_80 ra_129 q2 rfl ?_
              refine hh_goto (tgt := 85) dX12_bill_81 (by decide) ?_
              exact hh_forget [true, true, true, true, true, false, false, false, false] (w_X12_bill_85 _ _ _ _ _ _ h)
        · replace h := h.2 c
          refine hh_ldc (n := -1000000003) dX12_bill_41 kc_X12_73 (by decide) ?_
          exact hh_ireturn dX12_bill_43 rfl h
      · replace h := h.2 c
        refine hh_ldc (n := -1000000001) dX12_bill_26 kc_X12_72 (by decide) ?_
        exact hh_ireturn dX12_bill_28 rfl h
theorem wp_X12_bill {d : Nat} (a1 a2 a3 : Int) {σ : hh_S} {Q : Int → hh_S → Prop} (h : hh_cs σ → hh_can a1 → hh_can a2 → hh_can a3 → P_X12_bill d a1 a2 a3 σ Q) : hh_Sp (d + 1) hm_X12_bill [hh_R 128, hh_I a1, hh_I a2, hh_I a3] σ Q :=
  hh_entry rfl (Nat.le_of_ble_eq_true rfl) rfl (fun hs hc => w_X12_bill (h hs (hc _ (List.mem_of_getElem? (i := 1) rfl)) (hc _ (List.mem_of_getElem? (i := 2) rfl)) (hc _ (List.mem_of_getElem? (i := 3) rfl))))
def P_X12_isBill (d : Nat) (a1 : Int) (σ : hh_S) (Q : Int → hh_S → Prop) : Prop :=
  ((-2147483648 ≤ σ 129 10 - 1 ∧ σ 129 10 - 1 ≤ 2147483647)) ∧ (hh_Sp d hm_X12_in [hh_I a1, hh_I 0, hh_I (σ 129 10 - 1)] σ (fun r11 σ11 => ((r11 = 0 ∨ r11 = 1)) ∧ (Q r11 σ11)))
set_option maxRecDepth 20000 in
theorem w_X12_isBill {d : Nat} {a1 : Int} {σ : hh_S} {Q : Int → hh_S → Prop} (h : P_X12_isBill d a1 σ Q) : hh_J (d + 1) hm_X12_isBill 0 [some (hh_R 128), some (hh_I a1)] [] σ Q := by
  unfold P_X12_isBill at h
  obtain ⟨q1, h⟩ := h
  refine hh_iload_n dX12_isBill_0 rfl ?_
  refine hh_iconst dX12_isBill_1 (by decide) ?_
  refine hh_aload_n dX12_isBill_2 rfl ?_
  refine hh_getR dX12_isBill_3 kf_X12_7 rf_128_0 ?_
  refine hh_bipush dX12_isBill_6 (by decide) ?_
  refine hh_iald dX12_isBill_8 ra_129 (by decide) rfl ?_
  refine hh_iconst dX12_isBill_9 (by decide) ?_
  refine hh_isub dX12_isBill_10 q1 ?_
  refine hh_cS3 dX12_isBill_11 lk_X12_68 mo_X12_in (Nat.le_of_ble_eq_true rfl) h (fun r11 σ11 h => ?_)
  obtain ⟨q1, h⟩ := h
  exact hh_zreturn dX12_isBill_14 rfl q1 h
theorem wp_X12_isBill {d : Nat} (a1 : Int) {σ : hh_S} {Q : Int → hh_S → Prop} (h : hh_cs σ → hh_can a1 → P_X12_isBill d a1 σ Q) : hh_Sp (d + 1) hm_X12_isBill [hh_R 128, hh_I a1] σ Q :=
  hh_entry rfl (Nat.le_of_ble_eq_true rfl) rfl (fun hs hc => w_X12_isBill (h hs (hc _ (List.mem_of_getElem? (i := 1) rfl))))
def B_X12_about_65 (d : Nat) (Q : Int → hh_S → Prop) (x2 x3 x4 : Int) (σ : hh_S) : Prop :=
  (¬ x2 = 6 → ((-2147483648 ≤ x3 + x2 ∧ x3 + x2 ≤ 2147483647) ∧ (0 ≤ x3 + x2 ∧ x3 + x2 < 9100)) ∧ (Q (σ 129 (x3 + x2)) σ)) ∧ (x2 = 6 → Q x4 σ)
def B_X12_about_36 (d : Nat) (Q : Int → hh_S → Prop) (k36 : Int → Int → Int → Int → hh_S → Prop) (x2 x3 x4 x5 : Int) (σ : hh_S) : Prop :=
  (5 ≤ x5 → B_X12_about_65 d Q x2 x3 x4 σ) ∧ (¬ 5 ≤ x5 → ((-2147483648 ≤ x3 + 6 ∧ x3 + 6 ≤ 2147483647) ∧ (-2147483648 ≤ x3 + 6 + x5 ∧ x3 + 6 + x5 ≤ 2147483647) ∧ (0 ≤ x3 + 6 + x5 ∧ x3 + 6 + x5 < 9100) ∧ (-2147483648 ≤ x4 + (σ 129 (x3 + 6 + x5)) ∧ x4 + (σ 129 (x3 + 6 + x5)) ≤ 2147483647) ∧ (-2147483648 ≤ x5 + 1 ∧ x5 + 1 ≤ 2147483647)) ∧ (k36 x2 x3 (x4 + (σ 129 (x3 + 6 + x5))) (x5 + 1) σ))
def P_X12_about (d : Nat) (a1 a2 : Int) (σ : hh_S) (Q : Int → hh_S → Prop) : Prop :=
  hh_Sp d hm_X12_isBill [hh_R 128, hh_I a1] σ (fun r2 σ2 => (r2 = 0 → Q (-1000000001) σ2) ∧ (¬ r2 = 0 → hh_Sp d hm_X12_in [hh_I a2, hh_I 0, hh_I 6] σ2 (fun r12 σ12 => (¬ r12 = 0 → ((-2147483648 ≤ 12 * a1 ∧ 12 * a1 ≤ 2147483647) ∧ (-2147483648 ≤ 1630 + 12 * a1 ∧ 1630 + 12 * a1 ≤ 2147483647)) ∧ (∃ n, hh_lp4 (B_X12_about_36 d Q) n a2 (1630 + 12 * a1) 0 0 σ12)) ∧ (r12 = 0 → Q (-1000000001) σ12))))
set_option maxRecDepth 20000 in
theorem w_X12_about_65 {d : Nat} {Q : Int → hh_S → Prop} (x2 x3 x4 : Int) (σ : hh_S) (h : B_X12_about_65 d Q x2 x3 x4 σ) : hh_J (d + 1) hm_X12_about 65 [some (hh_R 128), none, some (hh_I x2), some (hh_I x3), some (hh_I x4), none] [] σ Q := by
  unfold B_X12_about_65 at h
  refine hh_iload_n dX12_about_65 rfl ?_
  refine hh_bipush dX12_about_66 (by decide) ?_
  refine hh_icmp_ne (tgt := 76) dX12_about_68 (by decide) (fun c => ?_) (fun c => ?_)
  · replace h := h.1 c
    obtain ⟨⟨q1, q2⟩, h⟩ := h
    refine hh_aload_n dX12_about_76 rfl ?_
    refine hh_getR dX12_about_77 kf_X12_7 rf_128_0 ?_
    refine hh_iload_n dX12_about_80 rfl ?_
    refine hh_iload_n dX12_about_81 rfl ?_
    refine hh_iadd dX12_about_82 q1 ?_
    refine hh_iald dX12_about_83 ra_129 q2 rfl ?_
    exact hh_ireturn dX12_about_84 rfl h
  · replace h := h.2 c
    refine hh_iload dX12_about_71 rfl ?_
    refine hh_goto (tgt := 84) dX12_about_73 (by decide) ?_
    exact hh_ireturn dX12_about_84 rfl h
set_option maxRecDepth 20000 in
theorem w_X12_about_36 {d : Nat} {Q : Int → hh_S → Prop} {k36 : Int → Int → Int → Int → hh_S → Prop} (hk36 : ∀ (x2 x3 x4 x5 : Int) (σ : hh_S), k36 x2 x3 x4 x5 σ → hh_J (d + 1) hm_X12_about 36 [some (hh_R 128), none, some (hh_I x2), some (hh_I x3), some (hh_I x4), some (hh_I x5)] [] σ Q) (x2 x3 x4 x5 : Int) (σ : hh_S) (h : B_X12_about_36 d Q k36 x2 x3 x4 x5 σ) : hh_J (d + 1) hm_X12_about 36 [some (hh_R 128), none, some (hh_I x2), some (hh_I x3), some (hh_I x4), some (hh_I x5)] [] σ Q := by
  unfold B_X12_about_36 at h
  refine hh_iload dX12_about_36 rfl ?_
  refine hh_iconst dX12_about_38 (by decide) ?_
  refine hh_icmp_ge (tgt := 65) dX12_about_39 (by decide) (fun c => ?_) (fun c => ?_)
  · replace h := h.1 c
    exact hh_forget [true, false, true, true, true, false] (w_X12_about_65 _ _ _ _ h)
  · replace h := h.2 c
    obtain ⟨⟨q1, q2, q3, q4, q5⟩, h⟩ := h
    refine hh_iload dX12_about_42 rfl ?_
    refine hh_aload_n dX12_about_44 rfl ?_
    refine hh_getR dX12_about_45 kf_X12_7 rf_128_0 ?_
    refine hh_iload_n dX12_about_48 rfl ?_
    refine hh_bipush dX12_about_49 (by decide) ?_
    refine hh_iadd dX12_about_51 q1 ?_
    refine hh_iload dX12_about_52 rfl ?_
    refine hh_iadd dX12_about_54 q2 ?_
    refine hh_iald dX12_about_55 ra_129 q3 rfl ?_
    refine hh_iadd dX12_about_56 q4 ?_
    refine hh_istore dX12_about_57 (by decide) rfl ?_
    refine hh_iinc dX12_about_59 (by decide) rfl rfl q5 ?_
    refine hh_goto (tgt := 36) dX12_about_62 (by decide) ?_
    exact hh_forget [true, false, true, true, true, true] (hk36 _ _ _ _ _ h)
theorem l_X12_about_36 {d : Nat} {Q : Int → hh_S → Prop} : ∀ (n : Nat) (x2 x3 x4 x5 : Int) (σ : hh_S), hh_lp4 (B_X12_about_36 d Q) n x2 x3 x4 x5 σ → hh_J (d + 1) hm_X12_about 36 [some (hh_R 128), none, some (hh_I x2), some (hh_I x3), some (hh_I x4), some (hh_I x5)] [] σ Q := by
  intro n
  induction n with
  | zero => intro _ _ _ _ _ h; exact h.elim
  | succ n ih => intro x2 x3 x4 x5 σ h; exact w_X12_about_36 ih x2 x3 x4 x5 σ h
set_option maxRecDepth 20000 in
theorem w_X12_about {d : Nat} {a1 a2 : Int} {σ : hh_S} {Q : Int → hh_S → Prop} (h : P_X12_about d a1 a2 σ Q) : hh_J (d + 1) hm_X12_about 0 [some (hh_R 128), some (hh_I a1), some (hh_I a2), none, none, none] [] σ Q := by
  unfold P_X12_about at h
  refine hh_aload_n dX12_about_0 rfl ?_
  refine hh_iload_n dX12_about_1 rfl ?_
  refine hh_cV1 dX12_about_2 lk_X12_235 mo_X12_isBill rc_128 (Nat.le_of_ble_eq_true rfl) h (fun r2 σ2 h => ?_)
  refine hh_if_eq (tgt := 18) dX12_about_5 (by decide) (fun c => ?_) (fun c => ?_)
  · replace h := h.1 c
    refine hh_ldc (n := -1000000001) dX12_about_18 kc_X12_72 (by decide) ?_
    exact hh_ireturn dX12_about_20 rfl h
  · replace h := h.2 c
    refine hh_iload_n dX12_about_8 rfl ?_
    refine hh_iconst dX12_about_9 (by decide) ?_
    refine hh_bipush dX12_about_10 (by decide) ?_
    refine hh_cS3 dX12_about_12 lk_X12_68 mo_X12_in (Nat.le_of_ble_eq_true rfl) h (fun r12 σ12 h => ?_)
    refine hh_if_ne (tgt := 21) dX12_about_15 (by decide) (fun c => ?_) (fun c => ?_)
    · replace h := h.1 c
      obtain ⟨⟨q1, q2⟩, h⟩ := h
      refine hh_sipush dX12_about_21 (by decide) ?_
      refine hh_bipush dX12_about_24 (by decide) ?_
      refine hh_iload_n dX12_about_26 rfl ?_
      refine hh_imul dX12_about_27 q1 ?_
      refine hh_iadd dX12_about_28 q2 ?_
      refine hh_istore_n dX12_about_29 (by decide) rfl ?_
      refine hh_iconst dX12_about_30 (by decide) ?_
      refine hh_istore dX12_about_31 (by decide) rfl ?_
      refine hh_iconst dX12_about_33 (by decide) ?_
      refine hh_istore dX12_about_34 (by decide) rfl ?_
      obtain ⟨n, h⟩ := h
      exact hh_forget [true, false, true, true, true, true] (l_X12_about_36 n _ _ _ _ _ h)
    · replace h := h.2 c
      refine hh_ldc (n := -1000000001) dX12_about_18 kc_X12_72 (by decide) ?_
      exact hh_ireturn dX12_about_20 rfl h
theorem wp_X12_about {d : Nat} (a1 a2 : Int) {σ : hh_S} {Q : Int → hh_S → Prop} (h : hh_cs σ → hh_can a1 → hh_can a2 → P_X12_about d a1 a2 σ Q) : hh_Sp (d + 1) hm_X12_about [hh_R 128, hh_I a1, hh_I a2] σ Q :=
  hh_entry rfl (Nat.le_of_ble_eq_true rfl) rfl (fun hs hc => w_X12_about (h hs (hc _ (List.mem_of_getElem? (i := 1) rfl)) (hc _ (List.mem_of_getElem? (i := 2) rfl))))
def P_X12_owes (d : Nat) (a1 a2 a3 : Int) (σ : hh_S) (Q : Int → hh_S → Prop) : Prop :=
  hh_Sp d hm_X12_isBill [hh_R 128, hh_I a1] σ (fun r2 σ2 => (r2 = 0 → Q (-1000000001) σ2) ∧ (¬ r2 = 0 → hh_Sp d hm_X12_isClient [hh_R 128, hh_I a2] σ2 (fun r10 σ10 => (r10 = 0 → Q (-1000000001) σ10) ∧ (¬ r10 = 0 → hh_Sp d hm_X12_in [hh_I a3, hh_I 0, hh_I 1] σ10 (fun r19 σ19 => (¬ r19 = 0 → ((-2147483648 ≤ 12 * a1 ∧ 12 * a1 ≤ 2147483647) ∧ (-2147483648 ≤ 1630 + 12 * a1 ∧ 1630 + 12 * a1 ≤ 2147483647) ∧ (-2147483648 ≤ 1630 + 12 * a1 + 1 ∧ 1630 + 12 * a1 + 1 ≤ 2147483647) ∧ (0 ≤ 1630 + 12 * a1 + 1 ∧ 1630 + 12 * a1 + 1 < 9100) ∧ (-2147483648 ≤ σ19 129 0 - (σ19 129 (1630 + 12 * a1 + 1)) ∧ σ19 129 0 - (σ19 129 (1630 + 12 * a1 + 1)) ≤ 2147483647) ∧ (-2147483648 ≤ σ19 129 0 - (σ19 129 (1630 + 12 * a1 + 1)) - (σ19 129 3) ∧ σ19 129 0 - (σ19 129 (1630 + 12 * a1 + 1)) - (σ19 129 3) ≤ 2147483647)) ∧ (hh_Sp d hm_X12_more [hh_I 0, hh_I (σ19 129 0 - (σ19 129 (1630 + 12 * a1 + 1)) - (σ19 129 3))] σ19 (fun r62 σ62 => (¬ a3 = 0 → ((-2147483648 ≤ 1630 + 12 * a1 + 6 ∧ 1630 + 12 * a1 + 6 ≤ 2147483647) ∧ (-2147483648 ≤ 1630 + 12 * a1 + 6 + a2 ∧ 1630 + 12 * a1 + 6 + a2 ≤ 2147483647) ∧ (0 ≤ 1630 + 12 * a1 + 6 + a2 ∧ 1630 + 12 * a1 + 6 + a2 < 9100) ∧ (-9223372036854775808 ≤ (σ62 129 (1630 + 12 * a1 + 6 + a2)) * (σ62 129 2) ∧ (σ62 129 (1630 + 12 * a1 + 6 + a2)) * (σ62 129 2) ≤ 9223372036854775807) ∧ (-9223372036854775808 ≤ ((σ62 129 (1630 + 12 * a1 + 6 + a2)) * (σ62 129 2)) * r62 ∧ ((σ62 129 (1630 + 12 * a1 + 6 + a2)) * (σ62 129 2)) * r62 ≤ 9223372036854775807) ∧ 0 ≤ ((σ62 129 (1630 + 12 * a1 + 6 + a2)) * (σ62 129 2)) * r62 ∧ (-2147483648 ≤ (((σ62 129 (1630 + 12 * a1 + 6 + a2)) * (σ62 129 2)) * r62) / 36500 ∧ (((σ62 129 (1630 + 12 * a1 + 6 + a2)) * (σ62 129 2)) * r62) / 36500 ≤ 2147483647)) ∧ (Q ((((σ62 129 (1630 + 12 * a1 + 6 + a2)) * (σ62 129 2)) * r62) / 36500) σ62)) ∧ (a3 = 0 → ((-2147483648 ≤ 1630 + 12 * a1 + 6 ∧ 1630 + 12 * a1 + 6 ≤ 2147483647) ∧ (-2147483648 ≤ 1630 + 12 * a1 + 6 + a2 ∧ 1630 + 12 * a1 + 6 + a2 ≤ 2147483647) ∧ (0 ≤ 1630 + 12 * a1 + 6 + a2 ∧ 1630 + 12 * a1 + 6 + a2 < 9100)) ∧ (Q (σ62 129 (1630 + 12 * a1 + 6 + a2)) σ62))))) ∧ (r19 = 0 → Q (-1000000001) σ19))))))
set_option maxRecDepth 20000 in
theorem w_X12_owes {d : Nat} {a1 a2 a3 : Int} {σ : hh_S} {Q : Int → hh_S → Prop} (h : P_X12_owes d a1 a2 a3 σ Q) : hh_J (d + 1) hm_X12_owes 0 [some (hh_R 128), some (hh_I a1), some (hh_I a2), some (hh_I a3), none, none] [] σ Q := by
  unfold P_X12_owes at h
  refine hh_aload_n dX12_owes_0 rfl ?_
  refine hh_iload_n dX12_owes_1 rfl ?_
  refine hh_cV1 dX12_owes_2 lk_X12_235 mo_X12_isBill rc_128 (Nat.le_of_ble_eq_true rfl) h (fun r2 σ2 h => ?_)
  refine hh_if_eq (tgt := 25) dX12_owes_5 (by decide) (fun c => ?_) (fun c => ?_)
  · replace h := h.1 c
    refine hh_ldc (n := -1000000001) dX12_owes_25 kc_X12_72 (by decide) ?_
    exact hh_ireturn dX12_owes_27 rfl h
  · replace h := h.2 c
    refine hh_aload_n dX12_owes_8 rfl ?_
    refine hh_iload_n dX12_owes_9 rfl ?_
    refine hh_cV1 dX12_owes_10 lk_X12_78 mo_X12_isClient rc_128 (Nat.le_of_ble_eq_true rfl) h (fun r10 σ10 h => ?_)
    refine hh_if_eq (tgt := 25) dX12_owes_13 (by decide) (fun c => ?_) (fun c => ?_)
    · replace h := h.1 c
      refine hh_ldc (n := -1000000001) dX12_owes_25 kc_X12_72 (by decide) ?_
      exact hh_ireturn dX12_owes_27 rfl h
    · replace h := h.2 c
      refine hh_iload_n dX12_owes_16 rfl ?_
      refine hh_iconst dX12_owes_17 (by decide) ?_
      refine hh_iconst dX12_owes_18 (by decide) ?_
      refine hh_cS3 dX12_owes_19 lk_X12_68 mo_X12_in (Nat.le_of_ble_eq_true rfl) h (fun r19 σ19 h => ?_)
      refine hh_if_ne (tgt := 28) dX12_owes_22 (by decide) (fun c => ?_) (fun c => ?_)
      · replace h := h.1 c
        obtain ⟨⟨q1, q2, q3, q4, q5, q6⟩, h⟩ := h
        refine hh_sipush dX12_owes_28 (by decide) ?_
        refine hh_bipush dX12_owes_31 (by decide) ?_
        refine hh_iload_n dX12_owes_33 rfl ?_
        refine hh_imul dX12_owes_34 q1 ?_
        refine hh_iadd dX12_owes_35 q2 ?_
        refine hh_istore dX12_owes_36 (by decide) rfl ?_
        refine hh_iconst dX12_owes_38 (by decide) ?_
        refine hh_aload_n dX12_owes_39 rfl ?_
        refine hh_getR dX12_owes_40 kf_X12_7 rf_128_0 ?_
        refine hh_iconst dX12_owes_43 (by decide) ?_
        refine hh_iald dX12_owes_44 ra_129 (by decide) rfl ?_
        refine hh_aload_n dX12_owes_45 rfl ?_
        refine hh_getR dX12_owes_46 kf_X12_7 rf_128_0 ?_
        refine hh_iload dX12_owes_49 rfl ?_
        refine hh_iconst dX12_owes_51 (by decide) ?_
        refine hh_iadd dX12_owes_52 q3 ?_
        refine hh_iald dX12_owes_53 ra_129 q4 rfl ?_
        refine hh_isub dX12_owes_54 q5 ?_
        refine hh_aload_n dX12_owes_55 rfl ?_
        refine hh_getR dX12_owes_56 kf_X12_7 rf_128_0 ?_
        refine hh_iconst dX12_owes_59 (by decide) ?_
        refine hh_iald dX12_owes_60 ra_129 (by decide) rfl ?_
        refine hh_isub dX12_owes_61 q6 ?_
        refine hh_cS2 dX12_owes_62 lk_X12_105 mo_X12_more (Nat.le_of_ble_eq_true rfl) h (fun r62 σ62 h => ?_)
        refine hh_istore dX12_owes_65 (by decide) rfl ?_
        refine hh_iload_n dX12_owes_67 rfl ?_
        refine hh_if_ne (tgt := 86) dX12_owes_68 (by decide) (fun c => ?_) (fun c => ?_)
        · replace h := h.1 c
          obtain ⟨⟨q1, q2, q3, q4, q5, q6, q7⟩, h⟩ := h
          refine hh_aload_n dX12_owes_86 rfl ?_
          refine hh_getR dX12_owes_87 kf_X12_7 rf_128_0 ?_
          refine hh_iload dX12_owes_90 rfl ?_
          refine hh_bipush dX12_owes_92 (by decide) ?_
          refine hh_iadd dX12_owes_94 q1 ?_
          refine hh_iload_n dX12_owes_95 rfl ?_
          refine hh_iadd dX12_owes_96 q2 ?_
          refine hh_iald dX12_owes_97 ra_129 q3 rfl ?_
          refine hh_i2l dX12_owes_98 ?_
          refine hh_aload_n dX12_owes_99 rfl ?_
          refine hh_getR dX12_owes_100 kf_X12_7 rf_128_0 ?_
          refine hh_iconst dX12_owes_103 (by decide) ?_
          refine hh_iald dX12_owes_104 ra_129 (by decide) rfl ?_
          refine hh_i2l dX12_owes_105 ?_
          refine hh_lmul dX12_owes_106 q4 ?_
          refine hh_iload dX12_owes_107 rfl ?_
          refine hh_i2l dX12_owes_109 ?_
          refine hh_lmul dX12_owes_110 q5 ?_
          refine hh_ldc2 (n := 36500) dX12_owes_111 kc_X12_238 (by decide) ?_
          refine hh_ldiv dX12_owes_114 q6 (by decide) ?_
          refine hh_l2i dX12_owes_115 q7 ?_
          exact hh_ireturn dX12_owes_116 rfl h
        · replace h := h.2 c
          obtain ⟨⟨q1, q2, q3⟩, h⟩ := h
          refine hh_aload_n dX12_owes_71 rfl ?_
          refine hh_getR dX12_owes_72 kf_X12_7 rf_128_0 ?_
          refine hh_iload dX12_owes_75 rfl ?_
          refine hh_bipush dX12_owes_77 (by decide) ?_
          refine hh_iadd dX12_owes_79 q1 ?_
          refine hh_iload_n dX12_owes_80 rfl ?_
          refine hh_iadd dX12_owes_81 q2 ?_
          refine hh_iald dX12_owes_82 ra_129 q3 rfl ?_
          refine hh_goto (tgt := 116) dX12_owes_83 (by decide) ?_
          exact hh_ireturn dX12_owes_116 rfl h
      · replace h := h.2 c
        refine hh_ldc (n := -1000000001) dX12_owes_25 kc_X12_72 (by decide) ?_
        exact hh_ireturn dX12_owes_27 rfl h
theorem wp_X12_owes {d : Nat} (a1 a2 a3 : Int) {σ : hh_S} {Q : Int → hh_S → Prop} (h : hh_cs σ → hh_can a1 → hh_can a2 → hh_can a3 → P_X12_owes d a1 a2 a3 σ Q) : hh_Sp (d + 1) hm_X12_owes [hh_R 128, hh_I a1, hh_I a2, hh_I a3] σ Q :=
  hh_entry rfl (Nat.le_of_ble_eq_true rfl) rfl (fun hs hc => w_X12_owes (h hs (hc _ (List.mem_of_getElem? (i := 1) rfl)) (hc _ (List.mem_of_getElem? (i := 2) rfl)) (hc _ (List.mem_of_getElem? (i := 3) rfl))))
def P_X12_retain (d : Nat) (a1 a2 : Int) (σ : hh_S) (Q : Int → hh_S → Prop) : Prop :=
  hh_Sp d hm_X12_isMatter [hh_R 128, hh_I a1] σ (fun r2 σ2 => (r2 = 0 → Q (-1000000001) σ2) ∧ (¬ r2 = 0 → hh_Sp d hm_X12_in [hh_I a2, hh_I 1, hh_I 99999] σ2 (fun r12 σ12 => (¬ r12 = 0 → ((-2147483648 ≤ 20 * a1 ∧ 20 * a1 ≤ 2147483647) ∧ (-2147483648 ≤ 50 + 20 * a1 ∧ 50 + 20 * a1 ≤ 2147483647) ∧ (-2147483648 ≤ 50 + 20 * a1 + 3 ∧ 50 + 20 * a1 + 3 ≤ 2147483647) ∧ (0 ≤ 50 + 20 * a1 + 3 ∧ 50 + 20 * a1 + 3 < 9100) ∧ (-2147483648 ≤ σ12 129 (50 + 20 * a1 + 3) + a2 ∧ σ12 129 (50 + 20 * a1 + 3) + a2 ≤ 2147483647)) ∧ ((σ12 129 (50 + 20 * a1 + 3) + a2 ≤ 999999 → ((0 ≤ 50 + 20 * a1 + 3 ∧ 50 + 20 * a1 + 3 < 9100) ∧ (-2147483648 ≤ σ12 129 (50 + 20 * a1 + 3) + a2 ∧ σ12 129 (50 + 20 * a1 + 3) + a2 ≤ 2147483647)) ∧ (Q (σ12 129 (50 + 20 * a1 + 3) + a2) (hh_up σ12 129 (50 + 20 * a1 + 3) (σ12 129 (50 + 20 * a1 + 3) + a2)))) ∧ (¬ σ12 129 (50 + 20 * a1 + 3) + a2 ≤ 999999 → Q (-1000000003) σ12))) ∧ (r12 = 0 → Q (-1000000001) σ12))))
set_option maxRecDepth 20000 in
theorem w_X12_retain {d : Nat} {a1 a2 : Int} {σ : hh_S} {Q : Int → hh_S → Prop} (h : P_X12_retain d a1 a2 σ Q) : hh_J (d + 1) hm_X12_retain 0 [some (hh_R 128), some (hh_I a1), some (hh_I a2), none] [] σ Q := by
  unfold P_X12_retain at h
  refine hh_aload_n dX12_retain_0 rfl ?_
  refine hh_iload_n dX12_retain_1 rfl ?_
  refine hh_cV1 dX12_retain_2 lk_X12_82 mo_X12_isMatter rc_128 (Nat.le_of_ble_eq_true rfl) h (fun r2 σ2 h => ?_)
  refine hh_if_eq (tgt := 18) dX12_retain_5 (by decide) (fun c => ?_) (fun c => ?_)
  · replace h := h.1 c
    refine hh_ldc (n := -1000000001) dX12_retain_18 kc_X12_72 (by decide) ?_
    exact hh_ireturn dX12_retain_20 rfl h
  · replace h := h.2 c
    refine hh_iload_n dX12_retain_8 rfl ?_
    refine hh_iconst dX12_retain_9 (by decide) ?_
    refine hh_ldc (n := 99999) dX12_retain_10 kc_X12_81 (by decide) ?_
    refine hh_cS3 dX12_retain_12 lk_X12_68 mo_X12_in (Nat.le_of_ble_eq_true rfl) h (fun r12 σ12 h => ?_)
    refine hh_if_ne (tgt := 21) dX12_retain_15 (by decide) (fun c => ?_) (fun c => ?_)
    · replace h := h.1 c
      obtain ⟨⟨q1, q2, q3, q4, q5⟩, h⟩ := h
      refine hh_bipush dX12_retain_21 (by decide) ?_
      refine hh_bipush dX12_retain_23 (by decide) ?_
      refine hh_iload_n dX12_retain_25 rfl ?_
      refine hh_imul dX12_retain_26 q1 ?_
      refine hh_iadd dX12_retain_27 q2 ?_
      refine hh_iconst dX12_retain_28 (by decide) ?_
      refine hh_iadd dX12_retain_29 q3 ?_
      refine hh_istore_n dX12_retain_30 (by decide) rfl ?_
      refine hh_aload_n dX12_retain_31 rfl ?_
      refine hh_getR dX12_retain_32 kf_X12_7 rf_128_0 ?_
      refine hh_iload_n dX12_retain_35 rfl ?_
      refine hh_iald dX12_retain_36 ra_129 q4 rfl ?_
      refine hh_iload_n dX12_retain_37 rfl ?_
      refine hh_iadd dX12_retain_38 q5 ?_
      refine hh_ldc (n := 999999) dX12_retain_39 kc_X12_240 (by decide) ?_
      refine hh_icmp_le (tgt := 47) dX12_retain_41 (by decide) (fun c => ?_) (fun c => ?_)
      · replace h := h.1 c
        obtain ⟨⟨q1, q2⟩, h⟩ := h
        refine hh_aload_n dX12_retain_47 rfl ?_
        refine hh_getR dX12_retain_48 kf_X12_7 rf_128_0 ?_
        refine hh_iload_n dX12_retain_51 rfl ?_
        refine hh_dup2 dX12_retain_52 (fun _ => rfl) (fun _ => rfl) ?_
        refine hh_iald dX12_retain_53 ra_129 q1 rfl ?_
        refine hh_iload_n dX12_retain_54 rfl ?_
        refine hh_iadd dX12_retain_55 q2 ?_
        refine hh_iast dX12_retain_56 ra_129 q1 ?_
        refine hh_aload_n dX12_retain_57 rfl ?_
        refine hh_getR dX12_retain_58 kf_X12_7 rf_128_0 ?_
        refine hh_iload_n dX12_retain_61 rfl ?_
        refine hh_iald dX12_retain_62 ra_129 q1 (hh_up_at σ12 129 (50 + 20 * a1 + 3) (σ12 129 (50 + 20 * a1 + 3) + a2)) ?_
        exact hh_ireturn dX12_retain_63 rfl h
      · replace h := h.2 c
        refine hh_ldc (n := -1000000003) dX12_retain_44 kc_X12_73 (by decide) ?_
        exact hh_ireturn dX12_retain_46 rfl h
    · replace h := h.2 c
      refine hh_ldc (n := -1000000001) dX12_retain_18 kc_X12_72 (by decide) ?_
      exact hh_ireturn dX12_retain_20 rfl h
theorem wp_X12_retain {d : Nat} (a1 a2 : Int) {σ : hh_S} {Q : Int → hh_S → Prop} (h : hh_cs σ → hh_can a1 → hh_can a2 → P_X12_retain d a1 a2 σ Q) : hh_Sp (d + 1) hm_X12_retain [hh_R 128, hh_I a1, hh_I a2] σ Q :=
  hh_entry rfl (Nat.le_of_ble_eq_true rfl) rfl (fun hs hc => w_X12_retain (h hs (hc _ (List.mem_of_getElem? (i := 1) rfl)) (hc _ (List.mem_of_getElem? (i := 2) rfl))))
def P_X12_trust (d : Nat) (a1 a2 : Int) (σ : hh_S) (Q : Int → hh_S → Prop) : Prop :=
  hh_Sp d hm_X12_isClient [hh_R 128, hh_I a1] σ (fun r2 σ2 => (r2 = 0 → Q (-1000000001) σ2) ∧ (¬ r2 = 0 → hh_Sp d hm_X12_in [hh_I a2, hh_I 0, hh_I 99999] σ2 (fun r12 σ12 => (¬ r12 = 0 → ((-2147483648 ≤ 44 + a1 ∧ 44 + a1 ≤ 2147483647) ∧ (0 ≤ 44 + a1 ∧ 44 + a1 < 9100) ∧ (-2147483648 ≤ σ12 129 (44 + a1) + a2 ∧ σ12 129 (44 + a1) + a2 ≤ 2147483647)) ∧ ((σ12 129 (44 + a1) + a2 ≤ 9999999 → ((-2147483648 ≤ 44 + a1 ∧ 44 + a1 ≤ 2147483647) ∧ (0 ≤ 44 + a1 ∧ 44 + a1 < 9100) ∧ (-2147483648 ≤ σ12 129 (44 + a1) + a2 ∧ σ12 129 (44 + a1) + a2 ≤ 2147483647)) ∧ (Q (σ12 129 (44 + a1) + a2) (hh_up σ12 129 (44 + a1) (σ12 129 (44 + a1) + a2)))) ∧ (¬ σ12 129 (44 + a1) + a2 ≤ 9999999 → Q (-1000000003) σ12))) ∧ (r12 = 0 → Q (-1000000001) σ12))))
set_option maxRecDepth 20000 in
theorem w_X12_trust {d : Nat} {a1 a2 : Int} {σ : hh_S} {Q : Int → hh_S → Prop} (h : P_X12_trust d a1 a2 σ Q) : hh_J (d + 1) hm_X12_trust 0 [some (hh_R 128), some (hh_I a1), some (hh_I a2)] [] σ Q := by
  unfold P_X12_trust at h
  refine hh_aload_n dX12_trust_0 rfl ?_
  refine hh_iload_n dX12_trust_1 rfl ?_
  refine hh_cV1 dX12_trust_2 lk_X12_78 mo_X12_isClient rc_128 (Nat.le_of_ble_eq_true rfl) h (fun r2 σ2 h => ?_)
  refine hh_if_eq (tgt := 18) dX12_trust_5 (by decide) (fun c => ?_) (fun c => ?_)
  · replace h := h.1 c
    refine hh_ldc (n := -1000000001) dX12_trust_18 kc_X12_72 (by decide) ?_
    exact hh_ireturn dX12_trust_20 rfl h
  · replace h := h.2 c
    refine hh_iload_n dX12_trust_8 rfl ?_
    refine hh_iconst dX12_trust_9 (by decide) ?_
    refine hh_ldc (n := 99999) dX12_trust_10 kc_X12_81 (by decide) ?_
    refine hh_cS3 dX12_trust_12 lk_X12_68 mo_X12_in (Nat.le_of_ble_eq_true rfl) h (fun r12 σ12 h => ?_)
    refine hh_if_ne (tgt := 21) dX12_trust_15 (by decide) (fun c => ?_) (fun c => ?_)
    · replace h := h.1 c
      obtain ⟨⟨q1, q2, q3⟩, h⟩ := h
      refine hh_aload_n dX12_trust_21 rfl ?_
      refine hh_getR dX12_trust_22 kf_X12_7 rf_128_0 ?_
      refine hh_bipush dX12_trust_25 (by decide) ?_
      refine hh_iload_n dX12_trust_27 rfl ?_
      refine hh_iadd dX12_trust_28 q1 ?_
      refine hh_iald dX12_trust_29 ra_129 q2 rfl ?_
      refine hh_iload_n dX12_trust_30 rfl ?_
      refine hh_iadd dX12_trust_31 q3 ?_
      refine hh_ldc (n := 9999999) dX12_trust_32 kc_X12_241 (by decide) ?_
      refine hh_icmp_le (tgt := 40) dX12_trust_34 (by decide) (fun c => ?_) (fun c => ?_)
      · replace h := h.1 c
        obtain ⟨⟨q1, q2, q3⟩, h⟩ := h
        refine hh_aload_n dX12_trust_40 rfl ?_
        refine hh_getR dX12_trust_41 kf_X12_7 rf_128_0 ?_
        refine hh_bipush dX12_trust_44 (by decide) ?_
        refine hh_iload_n dX12_trust_46 rfl ?_
        refine hh_iadd dX12_trust_47 q1 ?_
        refine hh_dup2 dX12_trust_48 (fun _ => rfl) (fun _ => rfl) ?_
        refine hh_iald dX12_trust_49 ra_129 q2 rfl ?_
        refine hh_iload_n dX12_trust_50 rfl ?_
        refine hh_iadd dX12_trust_51 q3 ?_
        refine hh_iast dX12_trust_52 ra_129 q2 ?_
        refine hh_aload_n dX12_trust_53 rfl ?_
        refine hh_getR dX12_trust_54 kf_X12_7 rf_128_0 ?_
        refine hh_bipush dX12_trust_57 (by decide) ?_
        refine hh_iload_n dX12_trust_59 rfl ?_
        refine hh_iadd dX12_trust_60 q1 ?_
        refine hh_iald dX12_trust_61 ra_129 q2 (hh_up_at σ12 129 (44 + a1) (σ12 129 (44 + a1) + a2)) ?_
        exact hh_ireturn dX12_trust_62 rfl h
      · replace h := h.2 c
        refine hh_ldc (n := -1000000003) dX12_trust_37 kc_X12_73 (by decide) ?_
        exact hh_ireturn dX12_trust_39 rfl h
    · replace h := h.2 c
      refine hh_ldc (n := -1000000001) dX12_trust_18 kc_X12_72 (by decide) ?_
      exact hh_ireturn dX12_trust_20 rfl h
theorem wp_X12_trust {d : Nat} (a1 a2 : Int) {σ : hh_S} {Q : Int → hh_S → Prop} (h : hh_cs σ → hh_can a1 → hh_can a2 → P_X12_trust d a1 a2 σ Q) : hh_Sp (d + 1) hm_X12_trust [hh_R 128, hh_I a1, hh_I a2] σ Q :=
  hh_entry rfl (Nat.le_of_ble_eq_true rfl) rfl (fun hs hc => w_X12_trust (h hs (hc _ (List.mem_of_getElem? (i := 1) rfl)) (hc _ (List.mem_of_getElem? (i := 2) rfl))))
def P_X12_draw (d : Nat) (a1 a2 : Int) (σ : hh_S) (Q : Int → hh_S → Prop) : Prop :=
  hh_Sp d hm_X12_isBill [hh_R 128, hh_I a1] σ (fun r2 σ2 => (r2 = 0 → Q (-1000000001) σ2) ∧ (¬ r2 = 0 → hh_Sp d hm_X12_isClient [hh_R 128, hh_I a2] σ2 (fun r10 σ10 => (¬ r10 = 0 → ((-2147483648 ≤ 12 * a1 ∧ 12 * a1 ≤ 2147483647) ∧ (-2147483648 ≤ 1630 + 12 * a1 ∧ 1630 + 12 * a1 ≤ 2147483647) ∧ (-2147483648 ≤ 1630 + 12 * a1 + 6 ∧ 1630 + 12 * a1 + 6 ≤ 2147483647) ∧ (-2147483648 ≤ 1630 + 12 * a1 + 6 + a2 ∧ 1630 + 12 * a1 + 6 + a2 ≤ 2147483647) ∧ (0 ≤ 1630 + 12 * a1 + 6 + a2 ∧ 1630 + 12 * a1 + 6 + a2 < 9100) ∧ (-2147483648 ≤ 44 + a2 ∧ 44 + a2 ≤ 2147483647) ∧ (0 ≤ 44 + a2 ∧ 44 + a2 < 9100)) ∧ (hh_Sp d hm_X12_less [hh_I (σ10 129 (1630 + 12 * a1 + 6 + a2)), hh_I (σ10 129 (44 + a2))] σ10 (fun r48 σ48 => ((0 ≤ 1630 + 12 * a1 + 6 + a2 ∧ 1630 + 12 * a1 + 6 + a2 < 9100) ∧ (-2147483648 ≤ σ48 129 (1630 + 12 * a1 + 6 + a2) - r48 ∧ σ48 129 (1630 + 12 * a1 + 6 + a2) - r48 ≤ 2147483647) ∧ (-2147483648 ≤ 44 + a2 ∧ 44 + a2 ≤ 2147483647)) ∧ (∀ τ73 : hh_S, τ73 = (hh_up σ48 129 (1630 + 12 * a1 + 6 + a2) (σ48 129 (1630 + 12 * a1 + 6 + a2) - r48)) → ((0 ≤ 44 + a2 ∧ 44 + a2 < 9100) ∧ (-2147483648 ≤ τ73 129 (44 + a2) - r48 ∧ τ73 129 (44 + a2) - r48 ≤ 2147483647)) ∧ (Q r48 (hh_up τ73 129 (44 + a2) (τ73 129 (44 + a2) - r48))))))) ∧ (r10 = 0 → Q (-1000000001) σ10))))
set_option maxRecDepth 20000 in
theorem w_X12_draw {d : Nat} {a1 a2 : Int} {σ : hh_S} {Q : Int → hh_S → Prop} (h : P_X12_draw d a1 a2 σ Q) : hh_J (d + 1) hm_X12_draw 0 [some (hh_R 128), some (hh_I a1), some (hh_I a2), none, none] [] σ Q := by
  unfold P_X12_draw at h
  refine hh_aload_n dX12_draw_0 rfl ?_
  refine hh_iload_n dX12_draw_1 rfl ?_
  refine hh_cV1 dX12_draw_2 lk_X12_235 mo_X12_isBill rc_128 (Nat.le_of_ble_eq_true rfl) h (fun r2 σ2 h => ?_)
  refine hh_if_eq (tgt := 16) dX12_draw_5 (by decide) (fun c => ?_) (fun c => ?_)
  · replace h := h.1 c
    refine hh_ldc (n := -1000000001) dX12_draw_16 kc_X12_72 (by decide) ?_
    exact hh_ireturn dX12_draw_18 rfl h
  · replace h := h.2 c
    refine hh_aload_n dX12_draw_8 rfl ?_
    refine hh_iload_n dX12_draw_9 rfl ?_
    refine hh_cV1 dX12_draw_10 lk_X12_78 mo_X12_isClient rc_128 (Nat.le_of_ble_eq_true rfl) h (fun r10 σ10 h => ?_)
    refine hh_if_ne (tgt := 19) dX12_draw_13 (by decide) (fun c => ?_) (fun c => ?_)
    · replace h := h.1 c
      obtain ⟨⟨q1, q2, q3, q4, q5, q6, q7⟩, h⟩ := h
      refine hh_sipush dX12_draw_19 (by decide) ?_
      refine hh_bipush dX12_draw_22 (by decide) ?_
      refine hh_iload_n dX12_draw_24 rfl ?_
      refine hh_imul dX12_draw_25 q1 ?_
      refine hh_iadd dX12_draw_26 q2 ?_
      refine hh_bipush dX12_draw_27 (by decide) ?_
      refine hh_iadd dX12_draw_29 q3 ?_
      refine hh_iload_n dX12_draw_30 rfl ?_
      refine hh_iadd dX12_draw_31 q4 ?_
      refine hh_istore_n dX12_draw_32 (by decide) rfl ?_
      refine hh_aload_n dX12_draw_33 rfl ?_
      refine hh_getR dX12_draw_34 kf_X12_7 rf_128_0 ?_
      refine hh_iload_n dX12_draw_37 rfl ?_
      refine hh_iald dX12_draw_38 ra_129 q5 rfl ?_
      refine hh_aload_n dX12_draw_39 rfl ?_
      refine hh_getR dX12_draw_40 kf_X12_7 rf_128_0 ?_
      refine hh_bipush dX12_draw_43 (by decide) ?_
      refine hh_iload_n dX12_draw_45 rfl ?_
      refine hh_iadd dX12_draw_46 q6 ?_
      refine hh_iald dX12_draw_47 ra_129 q7 rfl ?_
      refine hh_cS2 dX12_draw_48 lk_X12_218 mo_X12_less (Nat.le_of_ble_eq_true rfl) h (fun r48 σ48 h => ?_)
      obtain ⟨⟨q1, q2, q3⟩, h⟩ := h
      refine hh_istore dX12_draw_51 (by decide) rfl ?_
      refine hh_aload_n dX12_draw_53 rfl ?_
      refine hh_getR dX12_draw_54 kf_X12_7 rf_128_0 ?_
      refine hh_iload_n dX12_draw_57 rfl ?_
      refine hh_dup2 dX12_draw_58 (fun _ => rfl) (fun _ => rfl) ?_
      refine hh_iald dX12_draw_59 ra_129 q1 rfl ?_
      refine hh_iload dX12_draw_60 rfl ?_
      refine hh_isub dX12_draw_62 q2 ?_
      refine hh_iast dX12_draw_63 ra_129 q1 ?_
      refine hh_aload_n dX12_draw_64 rfl ?_
      refine hh_getR dX12_draw_65 kf_X12_7 rf_128_0 ?_
      refine hh_bipush dX12_draw_68 (by decide) ?_
      refine hh_iload_n dX12_draw_70 rfl ?_
      refine hh_iadd dX12_draw_71 q3 ?_
      refine hh_dup2 dX12_draw_72 (fun _ => rfl) (fun _ => rfl) ?_
      replace h := h _ rfl
      obtain ⟨⟨q1, q2⟩, h⟩ := h
      refine hh_iald dX12_draw_73 ra_129 q1 rfl ?_
      refine hh_iload dX12_draw_74 rfl ?_
      refine hh_isub dX12_draw_76 q2 ?_
      refine hh_iast dX12_draw_77 ra_129 q1 ?_
      refine hh_iload dX12_draw_78 rfl ?_
      exact hh_ireturn dX12_draw_80 rfl h
    · replace h := h.2 c
      refine hh_ldc (n := -1000000001) dX12_draw_16 kc_X12_72 (by decide) ?_
      exact hh_ireturn dX12_draw_18 rfl h
theorem wp_X12_draw {d : Nat} (a1 a2 : Int) {σ : hh_S} {Q : Int → hh_S → Prop} (h : hh_cs σ → hh_can a1 → hh_can a2 → P_X12_draw d a1 a2 σ Q) : hh_Sp (d + 1) hm_X12_draw [hh_R 128, hh_I a1, hh_I a2] σ Q :=
  hh_entry rfl (Nat.le_of_ble_eq_true rfl) rfl (fun hs hc => w_X12_draw (h hs (hc _ (List.mem_of_getElem? (i := 1) rfl)) (hc _ (List.mem_of_getElem? (i := 2) rfl))))
def B_X12_isPayer_56 (d : Nat) (Q : Int → hh_S → Prop) (k5 : Int → Int → Int → Int → hh_S → Prop) (x1 x2 x4 s0 : Int) (σ : hh_S) : Prop :=
  ((-2147483648 ≤ x4 + 1 ∧ x4 + 1 ≤ 2147483647)) ∧ (k5 x1 x2 s0 (x4 + 1) σ)
def B_X12_isPayer_51 (d : Nat) (Q : Int → hh_S → Prop) (k5 : Int → Int → Int → Int → hh_S → Prop) (x1 x2 x4 : Int) (σ : hh_S) : Prop :=
  B_X12_isPayer_56 d Q k5 x1 x2 x4 1 σ
def B_X12_isPayer_5 (d : Nat) (Q : Int → hh_S → Prop) (k5 : Int → Int → Int → Int → hh_S → Prop) (x1 x2 x3 x4 : Int) (σ : hh_S) : Prop :=
  ((-2147483648 ≤ 20 * x1 ∧ 20 * x1 ≤ 2147483647) ∧ (-2147483648 ≤ 50 + 20 * x1 ∧ 50 + 20 * x1 ≤ 2147483647) ∧ (-2147483648 ≤ 50 + 20 * x1 + 10 ∧ 50 + 20 * x1 + 10 ≤ 2147483647) ∧ (0 ≤ 50 + 20 * x1 + 10 ∧ 50 + 20 * x1 + 10 < 9100)) ∧ ((σ 129 (50 + 20 * x1 + 10) ≤ x4 → ((x3 = 0 ∨ x3 = 1)) ∧ (Q x3 σ)) ∧ (¬ σ 129 (50 + 20 * x1 + 10) ≤ x4 → (¬ x3 = 0 → B_X12_isPayer_51 d Q k5 x1 x2 x4 σ) ∧ (x3 = 0 → ((-2147483648 ≤ 20 * x1 ∧ 20 * x1 ≤ 2147483647) ∧ (-2147483648 ≤ 50 + 20 * x1 ∧ 50 + 20 * x1 ≤ 2147483647) ∧ (-2147483648 ≤ 50 + 20 * x1 + 11 ∧ 50 + 20 * x1 + 11 ≤ 2147483647) ∧ (-2147483648 ≤ 50 + 20 * x1 + 11 + x4 ∧ 50 + 20 * x1 + 11 + x4 ≤ 2147483647) ∧ (0 ≤ 50 + 20 * x1 + 11 + x4 ∧ 50 + 20 * x1 + 11 + x4 < 9100)) ∧ ((¬ σ 129 (50 + 20 * x1 + 11 + x4) = x2 → B_X12_isPayer_56 d Q k5 x1 x2 x4 0 σ) ∧ (σ 129 (50 + 20 * x1 + 11 + x4) = x2 → B_X12_isPayer_51 d Q k5 x1 x2 x4 σ)))))
def P_X12_isPayer (d : Nat) (a1 a2 : Int) (σ : hh_S) (Q : Int → hh_S → Prop) : Prop :=
  ∃ n, hh_lp4 (B_X12_isPayer_5 d Q) n a1 a2 0 0 σ
set_option maxRecDepth 20000 in
theorem w_X12_isPayer_56 {d : Nat} {Q : Int → hh_S → Prop} {k5 : Int → Int → Int → Int → hh_S → Prop} (hk5 : ∀ (x1 x2 x3 x4 : Int) (σ : hh_S), k5 x1 x2 x3 x4 σ → hh_J (d + 1) hm_X12_isPayer 5 [some (hh_R 128), some (hh_I x1), some (hh_I x2), some (hh_I x3), some (hh_I x4)] [] σ Q) (x1 x2 x4 s0 : Int) (σ : hh_S) (h : B_X12_isPayer_56 d Q k5 x1 x2 x4 s0 σ) : hh_J (d + 1) hm_X12_isPayer 56 [some (hh_R 128), some (hh_I x1), some (hh_I x2), none, some (hh_I x4)] [hh_I s0] σ Q := by
  unfold B_X12_isPayer_56 at h
  obtain ⟨q1, h⟩ := h
  refine hh_istore_n dX12_isPayer_56 (by decide) rfl ?_
  refine hh_iinc dX12_isPayer_57 (by decide) rfl rfl q1 ?_
  refine hh_goto (tgt := 5) dX12_isPayer_60 (by decide) ?_
  exact hh_forget [true, true, true, true, true] (hk5 _ _ _ _ _ h)
set_option maxRecDepth 20000 in
theorem w_X12_isPayer_51 {d : Nat} {Q : Int → hh_S → Prop} {k5 : Int → Int → Int → Int → hh_S → Prop} (hk5 : ∀ (x1 x2 x3 x4 : Int) (σ : hh_S), k5 x1 x2 x3 x4 σ → hh_J (d + 1) hm_X12_isPayer 5 [some (hh_R 128), some (hh_I x1), some (hh_I x2), some (hh_I x3), some (hh_I x4)] [] σ Q) (x1 x2 x4 : Int) (σ : hh_S) (h : B_X12_isPayer_51 d Q k5 x1 x2 x4 σ) : hh_J (d + 1) hm_X12_isPayer 51 [some (hh_R 128), some (hh_I x1), some (hh_I x2), none, some (hh_I x4)] [] σ Q := by
  unfold B_X12_isPayer_51 at h
  refine hh_iconst dX12_isPayer_51 (by decide) ?_
  refine hh_goto (tgt := 56) dX12_isPayer_52 (by decide) ?_
  exact hh_forget [true, true, true, false, true] (w_X12_isPayer_56 hk5 _ _ _ _ _ h)
set_option maxRecDepth 20000 in
theorem w_X12_isPayer_5 {d : Nat} {Q : Int → hh_S → Prop} {k5 : Int → Int → Int → Int → hh_S → Prop} (hk5 : ∀ (x1 x2 x3 x4 : Int) (σ : hh_S), k5 x1 x2 x3 x4 σ → hh_J (d + 1) hm_X12_isPayer 5 [some (hh_R 128), some (hh_I x1), some (hh_I x2), some (hh_I x3), some (hh_I x4)] [] σ Q) (x1 x2 x3 x4 : Int) (σ : hh_S) (h : B_X12_isPayer_5 d Q k5 x1 x2 x3 x4 σ) : hh_J (d + 1) hm_X12_isPayer 5 [some (hh_R 128), some (hh_I x1), some (hh_I x2), some (hh_I x3), some (hh_I x4)] [] σ Q := by
  unfold B_X12_isPayer_5 at h
  obtain ⟨⟨q1, q2, q3, q4⟩, h⟩ := h
  refine hh_iload dX12_isPayer_5 rfl ?_
  refine hh_aload_n dX12_isPayer_7 rfl ?_
  refine hh_getR dX12_isPayer_8 kf_X12_7 rf_128_0 ?_
  refine hh_bipush dX12_isPayer_11 (by decide) ?_
  refine hh_bipush dX12_isPayer_13 (by decide) ?_
  refine hh_iload_n dX12_isPayer_15 rfl ?_
  refine hh_imul dX12_isPayer_16 q1 ?_
  refine hh_iadd dX12_isPayer_17 q2 ?_
  refine hh_bipush dX12_isPayer_18 (by decide) ?_
  refine hh_iadd dX12_isPayer_20 q3 ?_
  refine hh_iald dX12_isPayer_21 ra_129 q4 rfl ?_
  refine hh_icmp_ge (tgt := 63) dX12_isPayer_22 (by decide) (fun c => ?_) (fun c => ?_)
  · replace h := h.1 c
    obtain ⟨q1, h⟩ := h
    refine hh_iload_n dX12_isPayer_63 rfl ?_
    exact hh_zreturn dX12_isPayer_64 rfl q1 h
  · replace h := h.2 c
    refine hh_iload_n dX12_isPayer_25 rfl ?_
    refine hh_if_ne (tgt := 51) dX12_isPayer_26 (by decide) (fun c => ?_) (fun c => ?_)
    · replace h := h.1 c
      exact hh_forget [true, true, true, false, true] (w_X12_isPayer_51 hk5 _ _ _ _ h)
    · replace h := h.2 c
      obtain ⟨⟨q1, q2, q3, q4, q5⟩, h⟩ := h
      refine hh_aload_n dX12_isPayer_29 rfl ?_
      refine hh_getR dX12_isPayer_30 kf_X12_7 rf_128_0 ?_
      refine hh_bipush dX12_isPayer_33 (by decide) ?_
      refine hh_bipush dX12_isPayer_35 (by decide) ?_
      refine hh_iload_n dX12_isPayer_37 rfl ?_
      refine hh_imul dX12_isPayer_38 q1 ?_
      refine hh_iadd dX12_isPayer_39 q2 ?_
      refine hh_bipush dX12_isPayer_40 (by decide) ?_
      refine hh_iadd dX12_isPayer_42 q3 ?_
      refine hh_iload dX12_isPayer_43 rfl ?_
      refine hh_iadd dX12_isPayer_45 q4 ?_
      refine hh_iald dX12_isPayer_46 ra_129 q5 rfl ?_
      refine hh_iload_n dX12_isPayer_47 rfl ?_
      refine hh_icmp_ne (tgt := 55) dX12_isPayer_48 (by decide) (fun c => ?_) (fun c => ?_)
      · replace h := h.1 c
        refine hh_iconst dX12_isPayer_55 (by decide) ?_
        exact hh_forget [true, true, true, false, true] (w_X12_isPayer_56 hk5 _ _ _ _ _ h)
      · replace h := h.2 c
        exact hh_forget [true, true, true, false, true] (w_X12_isPayer_51 hk5 _ _ _ _ h)
theorem l_X12_isPayer_5 {d : Nat} {Q : Int → hh_S → Prop} : ∀ (n : Nat) (x1 x2 x3 x4 : Int) (σ : hh_S), hh_lp4 (B_X12_isPayer_5 d Q) n x1 x2 x3 x4 σ → hh_J (d + 1) hm_X12_isPayer 5 [some (hh_R 128), some (hh_I x1), some (hh_I x2), some (hh_I x3), some (hh_I x4)] [] σ Q := by
  intro n
  induction n with
  | zero => intro _ _ _ _ _ h; exact h.elim
  | succ n ih => intro x1 x2 x3 x4 σ h; exact w_X12_isPayer_5 ih x1 x2 x3 x4 σ h
set_option maxRecDepth 20000 in
theorem w_X12_isPayer {d : Nat} {a1 a2 : Int} {σ : hh_S} {Q : Int → hh_S → Prop} (h : P_X12_isPayer d a1 a2 σ Q) : hh_J (d + 1) hm_X12_isPayer 0 [some (hh_R 128), some (hh_I a1), some (hh_I a2), none, none] [] σ Q := by
  unfold P_X12_isPayer at h
  refine hh_iconst dX12_isPayer_0 (by decide) ?_
  refine hh_istore_n dX12_isPayer_1 (by decide) rfl ?_
  refine hh_iconst dX12_isPayer_2 (by decide) ?_
  refine hh_istore dX12_isPayer_3 (by decide) rfl ?_
  obtain ⟨n, h⟩ := h
  exact hh_forget [true, true, true, true, true] (l_X12_isPayer_5 n _ _ _ _ _ h)
theorem wp_X12_isPayer {d : Nat} (a1 a2 : Int) {σ : hh_S} {Q : Int → hh_S → Prop} (h : hh_cs σ → hh_can a1 → hh_can a2 → P_X12_isPayer d a1 a2 σ Q) : hh_Sp (d + 1) hm_X12_isPayer [hh_R 128, hh_I a1, hh_I a2] σ Q :=
  hh_entry rfl (Nat.le_of_ble_eq_true rfl) rfl (fun hs hc => w_X12_isPayer (h hs (hc _ (List.mem_of_getElem? (i := 1) rfl)) (hc _ (List.mem_of_getElem? (i := 2) rfl))))
def P_X12_pay (d : Nat) (a1 a2 a3 : Int) (σ : hh_S) (Q : Int → hh_S → Prop) : Prop :=
  hh_Sp d hm_X12_isBill [hh_R 128, hh_I a1] σ (fun r2 σ2 => (r2 = 0 → Q (-1000000001) σ2) ∧ (¬ r2 = 0 → hh_Sp d hm_X12_isClient [hh_R 128, hh_I a2] σ2 (fun r10 σ10 => (r10 = 0 → Q (-1000000001) σ10) ∧ (¬ r10 = 0 → hh_Sp d hm_X12_in [hh_I a3, hh_I 1, hh_I 99999] σ10 (fun r20 σ20 => (¬ r20 = 0 → ((-2147483648 ≤ 12 * a1 ∧ 12 * a1 ≤ 2147483647) ∧ (-2147483648 ≤ 1630 + 12 * a1 ∧ 1630 + 12 * a1 ≤ 2147483647) ∧ (0 ≤ 1630 + 12 * a1 ∧ 1630 + 12 * a1 < 9100)) ∧ (hh_Sp d hm_X12_isPayer [hh_R 128, hh_I (σ20 129 (1630 + 12 * a1)), hh_I a2] σ20 (fun r44 σ44 => (¬ r44 = 0 → ((-2147483648 ≤ 12 * a1 ∧ 12 * a1 ≤ 2147483647) ∧ (-2147483648 ≤ 1630 + 12 * a1 ∧ 1630 + 12 * a1 ≤ 2147483647) ∧ (-2147483648 ≤ 1630 + 12 * a1 + 6 ∧ 1630 + 12 * a1 + 6 ≤ 2147483647) ∧ (-2147483648 ≤ 1630 + 12 * a1 + 6 + a2 ∧ 1630 + 12 * a1 + 6 + a2 ≤ 2147483647) ∧ (0 ≤ 1630 + 12 * a1 + 6 + a2 ∧ 1630 + 12 * a1 + 6 + a2 < 9100)) ∧ (hh_Sp d hm_X12_less [hh_I (σ44 129 (1630 + 12 * a1 + 6 + a2)), hh_I a3] σ44 (fun r76 σ76 => ((-2147483648 ≤ 44 + a2 ∧ 44 + a2 ≤ 2147483647) ∧ (0 ≤ 44 + a2 ∧ 44 + a2 < 9100) ∧ (-2147483648 ≤ σ76 129 (44 + a2) + a3 ∧ σ76 129 (44 + a2) + a3 ≤ 2147483647) ∧ (-2147483648 ≤ σ76 129 (44 + a2) + a3 - r76 ∧ σ76 129 (44 + a2) + a3 - r76 ≤ 2147483647)) ∧ ((σ76 129 (44 + a2) + a3 - r76 ≤ 9999999 → ((0 ≤ 1630 + 12 * a1 + 6 + a2 ∧ 1630 + 12 * a1 + 6 + a2 < 9100) ∧ (-2147483648 ≤ σ76 129 (1630 + 12 * a1 + 6 + a2) - r76 ∧ σ76 129 (1630 + 12 * a1 + 6 + a2) - r76 ≤ 2147483647) ∧ (-2147483648 ≤ 44 + a2 ∧ 44 + a2 ≤ 2147483647)) ∧ (∀ τ124 : hh_S, τ124 = (hh_up σ76 129 (1630 + 12 * a1 + 6 + a2) (σ76 129 (1630 + 12 * a1 + 6 + a2) - r76)) → ((0 ≤ 44 + a2 ∧ 44 + a2 < 9100) ∧ (-2147483648 ≤ a3 - r76 ∧ a3 - r76 ≤ 2147483647) ∧ (-2147483648 ≤ τ124 129 (44 + a2) + (a3 - r76) ∧ τ124 129 (44 + a2) + (a3 - r76) ≤ 2147483647)) ∧ (Q (a3 - r76) (hh_up τ124 129 (44 + a2) (τ124 129 (44 + a2) + (a3 - r76)))))) ∧ (¬ σ76 129 (44 + a2) + a3 - r76 ≤ 9999999 → Q (-1000000003) σ76))))) ∧ (r44 = 0 → Q (-1000000002) σ44)))) ∧ (r20 = 0 → Q (-1000000001) σ20))))))
set_option maxRecDepth 20000 in
theorem w_X12_pay {d : Nat} {a1 a2 a3 : Int} {σ : hh_S} {Q : Int → hh_S → Prop} (h : P_X12_pay d a1 a2 a3 σ Q) : hh_J (d + 1) hm_X12_pay 0 [some (hh_R 128), some (hh_I a1), some (hh_I a2), some (hh_I a3), none, none] [] σ Q := by
  unfold P_X12_pay at h
  refine hh_aload_n dX12_pay_0 rfl ?_
  refine hh_iload_n dX12_pay_1 rfl ?_
  refine hh_cV1 dX12_pay_2 lk_X12_235 mo_X12_isBill rc_128 (Nat.le_of_ble_eq_true rfl) h (fun r2 σ2 h => ?_)
  refine hh_if_eq (tgt := 26) dX12_pay_5 (by decide) (fun c => ?_) (fun c => ?_)
  · replace h := h.1 c
    refine hh_ldc (n := -1000000001) dX12_pay_26 kc_X12_72 (by decide) ?_
    exact hh_ireturn dX12_pay_28 rfl h
  · replace h := h.2 c
    refine hh_aload_n dX12_pay_8 rfl ?_
    refine hh_iload_n dX12_pay_9 rfl ?_
    refine hh_cV1 dX12_pay_10 lk_X12_78 mo_X12_isClient rc_128 (Nat.le_of_ble_eq_true rfl) h (fun r10 σ10 h => ?_)
    refine hh_if_eq (tgt := 26) dX12_pay_13 (by decide) (fun c => ?_) (fun c => ?_)
    · replace h := h.1 c
      refine hh_ldc (n := -1000000001) dX12_pay_26 kc_X12_72 (by decide) ?_
      exact hh_ireturn dX12_pay_28 rfl h
    · replace h := h.2 c
      refine hh_iload_n dX12_pay_16 rfl ?_
      refine hh_iconst dX12_pay_17 (by decide) ?_
      refine hh_ldc (n := 99999) dX12_pay_18 kc_X12_81 (by decide) ?_
      refine hh_cS3 dX12_pay_20 lk_X12_68 mo_X12_in (Nat.le_of_ble_eq_true rfl) h (fun r20 σ20 h => ?_)
      refine hh_if_ne (tgt := 29) dX12_pay_23 (by decide) (fun c => ?_) (fun c => ?_)
      · replace h := h.1 c
        obtain ⟨⟨q1, q2, q3⟩, h⟩ := h
        refine hh_aload_n dX12_pay_29 rfl ?_
        refine hh_aload_n dX12_pay_30 rfl ?_
        refine hh_getR dX12_pay_31 kf_X12_7 rf_128_0 ?_
        refine hh_sipush dX12_pay_34 (by decide) ?_
        refine hh_bipush dX12_pay_37 (by decide) ?_
        refine hh_iload_n dX12_pay_39 rfl ?_
        refine hh_imul dX12_pay_40 q1 ?_
        refine hh_iadd dX12_pay_41 q2 ?_
        refine hh_iald dX12_pay_42 ra_129 q3 rfl ?_
        refine hh_iload_n dX12_pay_43 rfl ?_
        refine hh_cV2 dX12_pay_44 lk_X12_242 mo_X12_isPayer rc_128 (Nat.le_of_ble_eq_true rfl) h (fun r44 σ44 h => ?_)
        refine hh_if_ne (tgt := 53) dX12_pay_47 (by decide) (fun c => ?_) (fun c => ?_)
        · replace h := h.1 c
          obtain ⟨⟨q1, q2, q3, q4, q5⟩, h⟩ := h
          refine hh_sipush dX12_pay_53 (by decide) ?_
          refine hh_bipush dX12_pay_56 (by decide) ?_
          refine hh_iload_n dX12_pay_58 rfl ?_
          refine hh_imul dX12_pay_59 q1 ?_
          refine hh_iadd dX12_pay_60 q2 ?_
          refine hh_bipush dX12_pay_61 (by decide) ?_
          refine hh_iadd dX12_pay_63 q3 ?_
          refine hh_iload_n dX12_pay_64 rfl ?_
          refine hh_iadd dX12_pay_65 q4 ?_
          refine hh_istore dX12_pay_66 (by decide) rfl ?_
          refine hh_aload_n dX12_pay_68 rfl ?_
          refine hh_getR dX12_pay_69 kf_X12_7 rf_128_0 ?_
          refine hh_iload dX12_pay_72 rfl ?_
          refine hh_iald dX12_pay_74 ra_129 q5 rfl ?_
          refine hh_iload_n dX12_pay_75 rfl ?_
          refine hh_cS2 dX12_pay_76 lk_X12_218 mo_X12_less (Nat.le_of_ble_eq_true rfl) h (fun r76 σ76 h => ?_)
          obtain ⟨⟨q1, q2, q3, q4⟩, h⟩ := h
          refine hh_istore dX12_pay_79 (by decide) rfl ?_
          refine hh_aload_n dX12_pay_81 rfl ?_
          refine hh_getR dX12_pay_82 kf_X12_7 rf_128_0 ?_
          refine hh_bipush dX12_pay_85 (by decide) ?_
          refine hh_iload_n dX12_pay_87 rfl ?_
          refine hh_iadd dX12_pay_88 q1 ?_
          refine hh_iald dX12_pay_89 ra_129 q2 rfl ?_
          refine hh_iload_n dX12_pay_90 rfl ?_
          refine hh_iadd dX12_pay_91 q3 ?_
          refine hh_iload dX12_pay_92 rfl ?_
          refine hh_isub dX12_pay_94 q4 ?_
          refine hh_ldc (n := 9999999) dX12_pay_95 kc_X12_241 (by decide) ?_
          refine hh_icmp_le (tgt := 103) dX12_pay_97 (by decide) (fun c => ?_) (fun c => ?_)
          · replace h := h.1 c
            obtain ⟨⟨q1, q2, q3⟩, h⟩ := h
            refine hh_aload_n dX12_pay_103 rfl ?_
            refine hh_getR dX12_pay_104 kf_X12_7 rf_128_0 ?_
            refine hh_iload dX12_pay_107 rfl ?_
            refine hh_dup2 dX12_pay_109 (fun _ => rfl) (fun _ => rfl) ?_
            refine hh_iald dX12_pay_110 ra_129 q1 rfl ?_
            refine hh_iload dX12_pay_111 rfl ?_
            refine hh_isub dX12_pay_113 q2 ?_
            refine hh_iast dX12_pay_114 ra_129 q1 ?_
            refine hh_aload_n dX12_pay_115 rfl ?_
            refine hh_getR dX12_pay_116 kf_X12_7 rf_128_0 ?_
            refine hh_bipush dX12_pay_119 (by decide) ?_
            refine hh_iload_n dX12_pay_121 rfl ?_
            refine hh_iadd dX12_pay_122 q3 ?_
            refine hh_dup2 dX12_pay_123 (fun _ => rfl) (fun _ => rfl) ?_
            replace h := h _ rfl
            obtain ⟨⟨q1, q2, q3⟩, h⟩ := h
            refine hh_iald dX12_pay_124 ra_129 q1 rfl ?_
            refine hh_iload_n dX12_pay_125 rfl ?_
            refine hh_iload dX12_pay_126 rfl ?_
            refine hh_isub dX12_pay_128 q2 ?_
            refine hh_iadd dX12_pay_129 q3 ?_
            refine hh_iast dX12_pay_130 ra_129 q1 ?_
            refine hh_iload_n dX12_pay_131 rfl ?_
            refine hh_iload dX12_pay_132 rfl ?_
            refine hh_isub dX12_pay_134 q2 ?_
            exact hh_ireturn dX12_pay_135 rfl h
          · replace h := h.2 c
            refine hh_ldc (n := -1000000003) dX12_pay_100 kc_X12_73 (by decide) ?_
            exact hh_ireturn dX12_pay_102 rfl h
        · replace h := h.2 c
          refine hh_ldc (n := -1000000002) dX12_pay_50 kc_X12_91 (by decide) ?_
          exact hh_ireturn dX12_pay_52 rfl h
      · replace h := h.2 c
        refine hh_ldc (n := -1000000001) dX12_pay_26 kc_X12_72 (by decide) ?_
        exact hh_ireturn dX12_pay_28 rfl h
theorem wp_X12_pay {d : Nat} (a1 a2 a3 : Int) {σ : hh_S} {Q : Int → hh_S → Prop} (h : hh_cs σ → hh_can a1 → hh_can a2 → hh_can a3 → P_X12_pay d a1 a2 a3 σ Q) : hh_Sp (d + 1) hm_X12_pay [hh_R 128, hh_I a1, hh_I a2, hh_I a3] σ Q :=
  hh_entry rfl (Nat.le_of_ble_eq_true rfl) rfl (fun hs hc => w_X12_pay (h hs (hc _ (List.mem_of_getElem? (i := 1) rfl)) (hc _ (List.mem_of_getElem? (i := 2) rfl)) (hc _ (List.mem_of_getElem? (i := 3) rfl))))
def B_X12_middleOf_244 (d : Nat) (Q : Int → hh_S → Prop) (x3 : Int) (σ : hh_S) : Prop :=
  (¬ x3 = 0 → ((-2147483648 ≤ x3 - 1 ∧ x3 - 1 ≤ 2147483647) ∧ 0 ≤ x3 - 1 ∧ (0 ≤ (x3 - 1) / 2 ∧ (x3 - 1) / 2 < 90)) ∧ (Q (σ 139 ((x3 - 1) / 2)) σ)) ∧ (x3 = 0 → Q (-1) σ)
def B_X12_middleOf_238 (d : Nat) (Q : Int → hh_S → Prop) (k14 : Int → Int → Int → hh_S → Prop) (x2 x3 x4 : Int) (σ : hh_S) : Prop :=
  ((-2147483648 ≤ x4 + 1 ∧ x4 + 1 ≤ 2147483647)) ∧ (k14 x2 x3 (x4 + 1) σ)
def B_X12_middleOf_226 (d : Nat) (Q : Int → hh_S → Prop) (k14 : Int → Int → Int → hh_S → Prop) (x2 x3 x4 x7 x8 : Int) (σ : hh_S) : Prop :=
  ((0 ≤ x8 ∧ x8 < 90) ∧ (-2147483648 ≤ x3 + 1 ∧ x3 + 1 ≤ 2147483647)) ∧ (B_X12_middleOf_238 d Q k14 x2 (x3 + 1) x4 (hh_up σ 139 x8 x7))
def B_X12_middleOf_185 (d : Nat) (Q : Int → hh_S → Prop) (k14 : Int → Int → Int → hh_S → Prop) (k185 : Int → Int → Int → Int → Int → hh_S → Prop) (x2 x3 x4 x7 x8 : Int) (σ : hh_S) : Prop :=
  (x8 ≤ 0 → B_X12_middleOf_226 d Q k14 x2 x3 x4 x7 x8 σ) ∧ (¬ x8 ≤ 0 → ((-2147483648 ≤ x8 - 1 ∧ x8 - 1 ≤ 2147483647) ∧ (0 ≤ x8 - 1 ∧ x8 - 1 < 90)) ∧ ((σ 139 (x8 - 1) ≤ x7 → B_X12_middleOf_226 d Q k14 x2 x3 x4 x7 x8 σ) ∧ (¬ σ 139 (x8 - 1) ≤ x7 → ((-2147483648 ≤ x8 - 1 ∧ x8 - 1 ≤ 2147483647) ∧ (0 ≤ x8 - 1 ∧ x8 - 1 < 90) ∧ (0 ≤ x8 ∧ x8 < 90) ∧ (-2147483648 ≤ x8 + (-1) ∧ x8 + (-1) ≤ 2147483647)) ∧ (k185 x2 x3 x4 x7 (x8 + (-1)) (hh_up σ 139 x8 (σ 139 (x8 - 1)))))))
def B_X12_middleOf_172 (d : Nat) (Q : Int → hh_S → Prop) (k14 : Int → Int → Int → hh_S → Prop) (x2 x3 x4 s0 : Int) (σ : hh_S) : Prop :=
  (¬ s0 = 0 → ∃ n, hh_lp5 (B_X12_middleOf_185 d Q k14) n x2 x3 x4 s0 x3 σ) ∧ (s0 = 0 → B_X12_middleOf_238 d Q k14 x2 x3 x4 σ)
def B_X12_middleOf_148 (d : Nat) (Q : Int → hh_S → Prop) (k14 : Int → Int → Int → hh_S → Prop) (x2 x3 x4 s0 : Int) (σ : hh_S) : Prop :=
  (s0 = 0 → B_X12_middleOf_172 d Q k14 x2 x3 x4 0 σ) ∧ (¬ s0 = 0 → hh_Sp d hm_X12_gives [hh_R 128, hh_I x4, hh_I (σ 129 0), hh_I 0] σ (fun r165 σ165 => B_X12_middleOf_172 d Q k14 x2 x3 x4 r165 σ165))
def B_X12_middleOf_147 (d : Nat) (Q : Int → hh_S → Prop) (k14 : Int → Int → Int → hh_S → Prop) (x2 x3 x4 : Int) (σ : hh_S) : Prop :=
  B_X12_middleOf_148 d Q k14 x2 x3 x4 0 σ
def B_X12_middleOf_14 (d : Nat) (Q : Int → hh_S → Prop) (k14 : Int → Int → Int → hh_S → Prop) (x2 x3 x4 : Int) (σ : hh_S) : Prop :=
  (σ 129 7 ≤ x4 → B_X12_middleOf_244 d Q x3 σ) ∧ (¬ σ 129 7 ≤ x4 → ((-2147483648 ≤ 12 * x4 ∧ 12 * x4 ≤ 2147483647) ∧ (-2147483648 ≤ 250 + 12 * x4 ∧ 250 + 12 * x4 ≤ 2147483647) ∧ (-2147483648 ≤ 250 + 12 * x4 + 8 ∧ 250 + 12 * x4 + 8 ≤ 2147483647) ∧ (0 ≤ 250 + 12 * x4 + 8 ∧ 250 + 12 * x4 + 8 < 9100)) ∧ ((σ 129 (250 + 12 * x4 + 8) = (-1) → B_X12_middleOf_147 d Q k14 x2 x3 x4 σ) ∧ (¬ σ 129 (250 + 12 * x4 + 8) = (-1) → ((-2147483648 ≤ 250 + 12 * x4 + 8 ∧ 250 + 12 * x4 + 8 ≤ 2147483647) ∧ (0 ≤ 250 + 12 * x4 + 8 ∧ 250 + 12 * x4 + 8 < 9100) ∧ (-2147483648 ≤ x2 + 8 ∧ x2 + 8 ≤ 2147483647) ∧ (0 ≤ x2 + 8 ∧ x2 + 8 < 9100)) ∧ ((σ 129 (250 + 12 * x4 + 8) = σ 129 (x2 + 8) → B_X12_middleOf_147 d Q k14 x2 x3 x4 σ) ∧ (¬ σ 129 (250 + 12 * x4 + 8) = σ 129 (x2 + 8) → ((-2147483648 ≤ 250 + 12 * x4 + 5 ∧ 250 + 12 * x4 + 5 ≤ 2147483647) ∧ (0 ≤ 250 + 12 * x4 + 5 ∧ 250 + 12 * x4 + 5 < 9100) ∧ (-2147483648 ≤ x2 + 5 ∧ x2 + 5 ≤ 2147483647) ∧ (0 ≤ x2 + 5 ∧ x2 + 5 < 9100)) ∧ ((¬ σ 129 (250 + 12 * x4 + 5) = σ 129 (x2 + 5) → B_X12_middleOf_147 d Q k14 x2 x3 x4 σ) ∧ (σ 129 (250 + 12 * x4 + 5) = σ 129 (x2 + 5) → ((0 ≤ 250 + 12 * x4 ∧ 250 + 12 * x4 < 9100) ∧ (-2147483648 ≤ 3 * (σ 129 (250 + 12 * x4)) ∧ 3 * (σ 129 (250 + 12 * x4)) ≤ 2147483647) ∧ (-2147483648 ≤ 20 + (3 * (σ 129 (250 + 12 * x4))) ∧ 20 + (3 * (σ 129 (250 + 12 * x4))) ≤ 2147483647) ∧ (0 ≤ 20 + (3 * (σ 129 (250 + 12 * x4))) ∧ 20 + (3 * (σ 129 (250 + 12 * x4))) < 9100) ∧ (0 ≤ x2 ∧ x2 < 9100) ∧ (-2147483648 ≤ 3 * (σ 129 x2) ∧ 3 * (σ 129 x2) ≤ 2147483647) ∧ (-2147483648 ≤ 20 + (3 * (σ 129 x2)) ∧ 20 + (3 * (σ 129 x2)) ≤ 2147483647) ∧ (0 ≤ 20 + (3 * (σ 129 x2)) ∧ 20 + (3 * (σ 129 x2)) < 9100)) ∧ ((¬ σ 129 (20 + (3 * (σ 129 (250 + 12 * x4)))) = σ 129 (20 + (3 * (σ 129 x2))) → B_X12_middleOf_147 d Q k14 x2 x3 x4 σ) ∧ (σ 129 (20 + (3 * (σ 129 (250 + 12 * x4)))) = σ 129 (20 + (3 * (σ 129 x2))) → ((-2147483648 ≤ 250 + 12 * x4 + 10 ∧ 250 + 12 * x4 + 10 ≤ 2147483647) ∧ (0 ≤ 250 + 12 * x4 + 10 ∧ 250 + 12 * x4 + 10 < 9100)) ∧ ((¬ σ 129 (250 + 12 * x4 + 10) = (-1) → B_X12_middleOf_147 d Q k14 x2 x3 x4 σ) ∧ (σ 129 (250 + 12 * x4 + 10) = (-1) → B_X12_middleOf_148 d Q k14 x2 x3 x4 1 σ)))))))))))
def P_X12_middleOf (d : Nat) (a1 : Int) (σ : hh_S) (Q : Int → hh_S → Prop) : Prop :=
  ((-2147483648 ≤ 12 * a1 ∧ 12 * a1 ≤ 2147483647) ∧ (-2147483648 ≤ 250 + 12 * a1 ∧ 250 + 12 * a1 ≤ 2147483647)) ∧ (∃ n, hh_lp3 (B_X12_middleOf_14 d Q) n (250 + 12 * a1) 0 0 σ)
set_option maxRecDepth 20000 in
theorem w_X12_middleOf_244 {d : Nat} {Q : Int → hh_S → Prop} (x3 : Int) (σ : hh_S) (h : B_X12_middleOf_244 d Q x3 σ) : hh_J (d + 1) hm_X12_middleOf 244 [some (hh_R 128), none, none, some (hh_I x3), none, none, none, none, none] [] σ Q := by
  unfold B_X12_middleOf_244 at h
  refine hh_iload_n dX12_middleOf_244 rfl ?_
  refine hh_if_ne (tgt := 252) dX12_middleOf_245 (by decide) (fun c => ?_) (fun c => ?_)
  · replace h := h.1 c
    obtain ⟨⟨q1, q2, q3⟩, h⟩ := h
    refine hh_aload_n dX12_middleOf_252 rfl ?_
    refine hh_getR dX12_middleOf_253 kf_X12_40 rf_128_24 ?_
    refine hh_iload_n dX12_middleOf_256 rfl ?_
    refine hh_iconst dX12_middleOf_257 (by decide) ?_
    refine hh_isub dX12_middleOf_258 q1 ?_
    refine hh_iconst dX12_middleOf_259 (by decide) ?_
    refine hh_idiv dX12_middleOf_260 q2 (by decide) ?_
    refine hh_iald dX12_middleOf_261 ra_139 q3 rfl ?_
    exact hh_ireturn dX12_middleOf_262 rfl h
  · replace h := h.2 c
    refine hh_iconst dX12_middleOf_248 (by decide) ?_
    refine hh_goto (tgt := 262) dX12_middleOf_249 (by decide) ?_
    exact hh_ireturn dX12_middleOf_262 rfl h
set_option maxRecDepth 20000 in
theorem w_X12_middleOf_238 {d : Nat} {Q : Int → hh_S → Prop} {k14 : Int → Int → Int → hh_S → Prop} (hk14 : ∀ (x2 x3 x4 : Int) (σ : hh_S), k14 x2 x3 x4 σ → hh_J (d + 1) hm_X12_middleOf 14 [some (hh_R 128), none, some (hh_I x2), some (hh_I x3), some (hh_I x4), none, none, none, none] [] σ Q) (x2 x3 x4 : Int) (σ : hh_S) (h : B_X12_middleOf_238 d Q k14 x2 x3 x4 σ) : hh_J (d + 1) hm_X12_middleOf 238 [some (hh_R 128), none, some (hh_I x2), some (hh_I x3), some (hh_I x4), none, none, none, none] [] σ Q := by
  unfold B_X12_middleOf_238 at h
  obtain ⟨q1, h⟩ := h
  refine hh_iinc dX12_middleOf_238 (by decide) rfl rfl q1 ?_
  refine hh_goto (tgt := 14) dX12_middleOf_241 (by decide) ?_
  exact hh_forget [true, false, true, true, true, false, false, false, false] (hk14 _ _ _ _ h)
set_option maxRecDepth 20000 in
theorem w_X12_middleOf_226 {d : Nat} {Q : Int → hh_S → Prop} {k14 : Int → Int → Int → hh_S → Prop} (hk14 : ∀ (x2 x3 x4 : Int) (σ : hh_S), k14 x2 x3 x4 σ → hh_J (d + 1) hm_X12_middleOf 14 [some (hh_R 128), none, some (hh_I x2), some (hh_I x3), some (hh_I x4), none, none, none, none] [] σ Q) (x2 x3 x4 x7 x8 : Int) (σ : hh_S) (h : B_X12_middleOf_226 d Q k14 x2 x3 x4 x7 x8 σ) : hh_J (d + 1) hm_X12_middleOf 226 [some (hh_R 128), none, some (hh_I x2), some (hh_I x3), some (hh_I x4), none, none, some (hh_I x7), some (hh_I x8)] [] σ Q := by
  unfold B_X12_middleOf_226 at h
  obtain ⟨⟨q1, q2⟩, h⟩ := h
  refine hh_aload_n dX12_middleOf_226 rfl ?_
  refine hh_getR dX12_middleOf_227 kf_X12_40 rf_128_24 ?_
  refine hh_iload dX12_middleOf_230 rfl ?_
  refine hh_iload dX12_middleOf_232 rfl ?_
  refine hh_iast dX12_middleOf_234 ra_139 q1 ?_
  refine hh_iinc dX12_middleOf_235 (by decide) rfl rfl q2 ?_
  exact hh_forget [true, false, true, true, true, false, false, false, false] (w_X12_middleOf_238 hk14 _ _ _ _ h)
set_option maxRecDepth 20000 in
theorem w_X12_middleOf_185 {d : Nat} {Q : Int → hh_S → Prop} {k14 : Int → Int → Int → hh_S → Prop} {k185 : Int → Int → Int → Int → Int → hh_S → Prop} (hk14 : ∀ (x2 x3 x4 : Int) (σ : hh_S), k14 x2 x3 x4 σ → hh_J (d + 1) hm_X12_middleOf 14 [some (hh_R 128), none, some (hh_I x2), some (hh_I x3), some (hh_I x4), none, none, none, none] [] σ Q) (hk185 : ∀ (x2 x3 x4 x7 x8 : Int) (σ : hh_S), k185 x2 x3 x4 x7 x8 σ → hh_J (d + 1) hm_X12_middleOf 185 [some (hh_R 128), none, some (hh_I x2), some (hh_I x3), some (hh_I x4), none, none, some (hh_I x7), some (hh_I x8)] [] σ Q) (x2 x3 x4 x7 x8 : Int) (σ : hh_S) (h : B_X12_middleOf_185 d Q k14 k185 x2 x3 x4 x7 x8 σ) : hh_J (d + 1) hm_X12_middleOf 185 [some (hh_R 128), none, some (hh_I x2), some (hh_I x3), some (hh_I x4), none, none, some (hh_I x7), some (hh_I x8)] [] σ Q := by
  unfold B_X12_middleOf_185 at h
  refine hh_iload dX12_middleOf_185 rfl ?_
  refine hh_if_le (tgt := 226) dX12_middleOf_187 (by decide) (fun c => ?_) (fun c => ?_)
  · replace h := h.1 c
    exact hh_forget [true, false, true, true, true, false, false, true, true] (w_X12_middleOf_226 hk14 _ _ _ _ _ _ h)
  · replace h := h.2 c
    obtain ⟨⟨q1, q2⟩, h⟩ := h
    refine hh_aload_n dX12_middleOf_190 rfl ?_
    refine hh_getR dX12_middleOf_191 kf_X12_40 rf_128_24 ?_
    refine hh_iload dX12_middleOf_194 rfl ?_
    refine hh_iconst dX12_middleOf_196 (by decide) ?_
    refine hh_isub dX12_middleOf_197 q1 ?_
    refine hh_iald dX12_middleOf_198 ra_139 q2 rfl ?_
    refine hh_iload dX12_middleOf_199 rfl ?_
    refine hh_icmp_le (tgt := 226) dX12_middleOf_201 (by decide) (fun c => ?_) (fun c => ?_)
    · replace h := h.1 c
      exact hh_forget [true, false, true, true, true, false, false, true, true] (w_X12_middleOf_226 hk14 _ _ _ _ _ _ h)
    · replace h := h.2 c
      obtain ⟨⟨q1, q2, q3, q4⟩, h⟩ := h
      refine hh_aload_n dX12_middleOf_204 rfl ?_
      refine hh_getR dX12_middleOf_205 kf_X12_40 rf_128_24 ?_
      refine hh_iload dX12_middleOf_208 rfl ?_
      refine hh_aload_n dX12_middleOf_210 rfl ?_
      refine hh_getR dX12_middleOf_211 kf_X12_40 rf_128_24 ?_
      refine hh_iload dX12_middleOf_214 rfl ?_
      refine hh_iconst dX12_middleOf_216 (by decide) ?_
      refine hh_isub dX12_middleOf_217 q1 ?_
      refine hh_iald dX12_middleOf_218 ra_139 q2 rfl ?_
      refine hh_iast dX12_middleOf_219 ra_139 q3 ?_
      refine hh_iinc dX12_middleOf_220 (by decide) rfl rfl q4 ?_
      refine hh_goto (tgt := 185) dX12_middleOf_223 (by decide) ?_
      exact hh_forget [true, false, true, true, true, false, false, true, true] (hk185 _ _ _ _ _ _ h)
theorem l_X12_middleOf_185 {d : Nat} {Q : Int → hh_S → Prop} {k14 : Int → Int → Int → hh_S → Prop} (hk14 : ∀ (x2 x3 x4 : Int) (σ : hh_S), k14 x2 x3 x4 σ → hh_J (d + 1) hm_X12_middleOf 14 [some (hh_R 128), none, some (hh_I x2), some (hh_I x3), some (hh_I x4), none, none, none, none] [] σ Q) : ∀ (n : Nat) (x2 x3 x4 x7 x8 : Int) (σ : hh_S), hh_lp5 (B_X12_middleOf_185 d Q k14) n x2 x3 x4 x7 x8 σ → hh_J (d + 1) hm_X12_middleOf 185 [some (hh_R 128), none, some (hh_I x2), some (hh_I x3), some (hh_I x4), none, none, some (hh_I x7), some (hh_I x8)] [] σ Q := by
  intro n
  induction n with
  | zero => intro _ _ _ _ _ _ h; exact h.elim
  | succ n ih => intro x2 x3 x4 x7 x8 σ h; exact w_X12_middleOf_185 hk14 ih x2 x3 x4 x7 x8 σ h
set_option maxRecDepth 20000 in
theorem w_X12_middleOf_172 {d : Nat} {Q : Int → hh_S → Prop} {k14 : Int → Int → Int → hh_S → Prop} (hk14 : ∀ (x2 x3 x4 : Int) (σ : hh_S), k14 x2 x3 x4 σ → hh_J (d + 1) hm_X12_middleOf 14 [some (hh_R 128), none, some (hh_I x2), some (hh_I x3), some (hh_I x4), none, none, none, none] [] σ Q) (x2 x3 x4 s0 : Int) (σ : hh_S) (h : B_X12_middleOf_172 d Q k14 x2 x3 x4 s0 σ) : hh_J (d + 1) hm_X12_middleOf 172 [some (hh_R 128), none, some (hh_I x2), some (hh_I x3), some (hh_I x4), none, none, none, none] [hh_I s0] σ Q := by
  unfold B_X12_middleOf_172 at h
  refine hh_istore dX12_middleOf_172 (by decide) rfl ?_
  refine hh_iload dX12_middleOf_174 rfl ?_
  refine hh_if_ne (tgt := 182) dX12_middleOf_176 (by decide) (fun c => ?_) (fun c => ?_)
  · replace h := h.1 c
    refine hh_iload_n dX12_middleOf_182 rfl ?_
    refine hh_istore dX12_middleOf_183 (by decide) rfl ?_
    obtain ⟨n, h⟩ := h
    exact hh_forget [true, false, true, true, true, false, false, true, true] (l_X12_middleOf_185 hk14 n _ _ _ _ _ _ h)
  · replace h := h.2 c
    refine hh_goto (tgt := 238) dX12_middleOf_179 (by decide) ?_
    exact hh_forget [true, false, true, true, true, false, false, false, false] (w_X12_middleOf_238 hk14 _ _ _ _ h)
set_option maxRecDepth 20000 in
theorem w_X12_middleOf_148 {d : Nat} {Q : Int → hh_S → Prop} {k14 : Int → Int → Int → hh_S → Prop} (hk14 : ∀ (x2 x3 x4 : Int) (σ : hh_S), k14 x2 x3 x4 σ → hh_J (d + 1) hm_X12_middleOf 14 [some (hh_R 128), none, some (hh_I x2), some (hh_I x3), some (hh_I x4), none, none, none, none] [] σ Q) (x2 x3 x4 s0 : Int) (σ : hh_S) (h : B_X12_middleOf_148 d Q k14 x2 x3 x4 s0 σ) : hh_J (d + 1) hm_X12_middleOf 148 [some (hh_R 128), none, some (hh_I x2), some (hh_I x3), some (hh_I x4), none, none, none, none] [hh_I s0] σ Q := by
  unfold B_X12_middleOf_148 at h
  refine hh_istore dX12_middleOf_148 (by decide) rfl ?_
  refine hh_iload dX12_middleOf_150 rfl ?_
  refine hh_if_eq (tgt := 171) dX12_middleOf_152 (by decide) (fun c => ?_) (fun c => ?_)
  · replace h := h.1 c
    refine hh_iconst dX12_middleOf_171 (by decide) ?_
    exact hh_forget [true, false, true, true, true, false, false, false, false] (w_X12_middleOf_172 hk14 _ _ _ _ _ h)
  · replace h := h.2 c
    refine hh_aload_n dX12_middleOf_155 rfl ?_
    refine hh_iload dX12_middleOf_156 rfl ?_
    refine hh_aload_n dX12_middleOf_158 rfl ?_
    refine hh_getR dX12_middleOf_159 kf_X12_7 rf_128_0 ?_
    refine hh_iconst dX12_middleOf_162 (by decide) ?_
    refine hh_iald dX12_middleOf_163 ra_129 (by decide) rfl ?_
    refine hh_iconst dX12_middleOf_164 (by decide) ?_
    refine hh_cV3 dX12_middleOf_165 lk_X12_221 mo_X12_gives rc_128 (Nat.le_of_ble_eq_true rfl) h (fun r165 σ165 h => ?_)
    refine hh_goto (tgt := 172) dX12_middleOf_168 (by decide) ?_
    exact hh_forget [true, false, true, true, true, false, false, false, false] (w_X12_middleOf_172 hk14 _ _ _ _ _ h)
set_option maxRecDepth 20000 in
theorem w_X12_middleOf_147 {d : Nat} {Q : Int → hh_S → Prop} {k14 : Int → Int → Int → hh_S → Prop} (hk14 : ∀ (x2 x3 x4 : Int) (σ : hh_S), k14 x2 x3 x4 σ → hh_J (d + 1) hm_X12_middleOf 14 [some (hh_R 128), none, some (hh_I x2), some (hh_I x3), some (hh_I x4), none, none, none, none] [] σ Q) (x2 x3 x4 : Int) (σ : hh_S) (h : B_X12_middleOf_147 d Q k14 x2 x3 x4 σ) : hh_J (d + 1) hm_X12_middleOf 147 [some (hh_R 128), none, some (hh_I x2), some (hh_I x3), some (hh_I x4), none, none, none, none] [] σ Q := by
  unfold B_X12_middleOf_147 at h
  refine hh_iconst dX12_middleOf_147 (by decide) ?_
  exact hh_forget [true, false, true, true, true, false, false, false, false] (w_X12_middleOf_148 hk14 _ _ _ _ _ h)
set_option maxRecDepth 20000 in
theorem w_X12_middleOf_14 {d : Nat} {Q : Int → hh_S → Prop} {k14 : Int → Int → Int → hh_S → Prop} (hk14 : ∀ (x2 x3 x4 : Int) (σ : hh_S), k14 x2 x3 x4 σ → hh_J (d + 1) hm_X12_middleOf 14 [some (hh_R 128), none, some (hh_I x2), some (hh_I x3), some (hh_I x4), none, none, none, none] [] σ Q) (x2 x3 x4 : Int) (σ : hh_S) (h : B_X12_middleOf_14 d Q k14 x2 x3 x4 σ) : hh_J (d + 1) hm_X12_middleOf 14 [some (hh_R 128), none, some (hh_I x2), some (hh_I x3), some (hh_I x4), none, none, none, none] [] σ Q := by
  unfold B_X12_middleOf_14 at h
  refine hh_iload dX12_middleOf_14 rfl ?_
  refine hh_aload_n dX12_middleOf_16 rfl ?_
  refine hh_getR dX12_middleOf_17 kf_X12_7 rf_128_0 ?_
  refine hh_bipush dX12_middleOf_20 (by decide) ?_
  refine hh_iald dX12_middleOf_22 ra_129 (by decide) rfl ?_
  refine hh_icmp_ge (tgt := 244) dX12_middleOf_23 (by decide) (fun c => ?_) (fun c => ?_)
  · replace h := h.1 c
    exact hh_forget [true, false, false, true, false, false, false, false, false] (w_X12_middleOf_244 _ _ h)
  · replace h := h.2 c
    obtain ⟨⟨q1, q2, q3, q4⟩, h⟩ := h
    refine hh_sipush dX12_middleOf_26 (by decide) ?_
    refine hh_bipush dX12_middleOf_29 (by decide) ?_
    refine hh_iload dX12_middleOf_31 rfl ?_
    refine hh_imul dX12_middleOf_33 q1 ?_
    refine hh_iadd dX12_middleOf_34 q2 ?_
    refine hh_istore dX12_middleOf_35 (by decide) rfl ?_
    refine hh_aload_n dX12_middleOf_37 rfl ?_
    refine hh_getR dX12_middleOf_38 kf_X12_7 rf_128_0 ?_
    refine hh_iload dX12_middleOf_41 rfl ?_
    refine hh_bipush dX12_middleOf_43 (by decide) ?_
    refine hh_iadd dX12_middleOf_45 q3 ?_
    refine hh_iald dX12_middleOf_46 ra_129 q4 rfl ?_
    refine hh_iconst dX12_middleOf_47 (by decide) ?_
    refine hh_icmp_eq (tgt := 147) dX12_middleOf_48 (by decide) (fun c => ?_) (fun c => ?_)
    · replace h := h.1 c
      exact hh_forget [true, false, true, true, true, false, false, false, false] (w_X12_middleOf_147 hk14 _ _ _ _ h)
    · replace h := h.2 c
      obtain ⟨⟨q1, q2, q3, q4⟩, h⟩ := h
      refine hh_aload_n dX12_middleOf_51 rfl ?_
      refine hh_getR dX12_middleOf_52 kf_X12_7 rf_128_0 ?_
      refine hh_iload dX12_middleOf_55 rfl ?_
      refine hh_bipush dX12_middleOf_57 (by decide) ?_
      refine hh_iadd dX12_middleOf_59 q1 ?_
      refine hh_iald dX12_middleOf_60 ra_129 q2 rfl ?_
      refine hh_aload_n dX12_middleOf_61 rfl ?_
      refine hh_getR dX12_middleOf_62 kf_X12_7 rf_128_0 ?_
      refine hh_iload_n dX12_middleOf_65 rfl ?_
      refine hh_bipush dX12_middleOf_66 (by decide) ?_
      refine hh_iadd dX12_middleOf_68 q3 ?_
      refine hh_iald dX12_middleOf_69 ra_129 q4 rfl ?_
      refine hh_icmp_eq (tgt := 147) dX12_middleOf_70 (by decide) (fun c => ?_) (fun c => ?_)
      · replace h := h.1 c
        exact hh_forget [true, false, true, true, true, false, false, false, false] (w_X12_middleOf_147 hk14 _ _ _ _ h)
      · replace h := h.2 c
        obtain ⟨⟨q1, q2, q3, q4⟩, h⟩ := h
        refine hh_aload_n dX12_middleOf_73 rfl ?_
        refine hh_getR dX12_middleOf_74 kf_X12_7 rf_128_0 ?_
        refine hh_iload dX12_middleOf_77 rfl ?_
        refine hh_iconst dX12_middleOf_79 (by decide) ?_
        refine hh_iadd dX12_middleOf_80 q1 ?_
        refine hh_iald dX12_middleOf_81 ra_129 q2 rfl ?_
        refine hh_aload_n dX12_middleOf_82 rfl ?_
        refine hh_getR dX12_middleOf_83 kf_X12_7 rf_128_0 ?_
        refine hh_iload_n dX12_middleOf_86 rfl ?_
        refine hh_iconst dX12_middleOf_87 (by decide) ?_
        refine hh_iadd dX12_middleOf_88 q3 ?_
        refine hh_iald dX12_middleOf_89 ra_129 q4 rfl ?_
        refine hh_icmp_ne (tgt := 147) dX12_middleOf_90 (by decide) (fun c => ?_) (fun c => ?_)
        · replace h := h.1 c
          exact hh_forget [true, false, true, true, true, false, false, false, false] (w_X12_middleOf_147 hk14 _ _ _ _ h)
        · replace h := h.2 c
          obtain ⟨⟨q1, q2, q3, q4, q5, q6, q7, q8⟩, h⟩ := h
          refine hh_aload_n dX12_middleOf_93 rfl ?_
          refine hh_getR dX12_middleOf_94 kf_X12_7 rf_128_0 ?_
          refine hh_bipush dX12_middleOf_97 (by decide) ?_
          refine hh_iconst dX12_middleOf_99 (by decide) ?_
          refine hh_aload_n dX12_middleOf_100 rfl ?_
          refine hh_getR dX12_middleOf_101 kf_X12_7 rf_128_0 ?_
          refine hh_iload dX12_middleOf_104 rfl ?_
          refine hh_iald dX12_middleOf_106 ra_129 q1 rfl ?_
          refine hh_imul dX12_middleOf_107 q2 ?_
          refine hh_iadd dX12_middleOf_108 q3 ?_
          refine hh_iald dX12_middleOf_109 ra_129 q4 rfl ?_
          refine hh_aload_n dX12_middleOf_110 rfl ?_
          refine hh_getR dX12_middleOf_111 kf_X12_7 rf_128_0 ?_
          refine hh_bipush dX12_middleOf_114 (by decide) ?_
          refine hh_iconst dX12_middleOf_116 (by decide) ?_
          refine hh_aload_n dX12_middleOf_117 rfl ?_
          refine hh_getR dX12_middleOf_118 kf_X12_7 rf_128_0 ?_
          refine hh_iload_n dX12_middleOf_121 rfl ?_
          refine hh_iald dX12_middleOf_122 ra_129 q5 rfl ?_
          refine hh_imul dX12_middleOf_123 q6 ?_
          refine hh_iadd dX12_middleOf_124 q7 ?_
          refine hh_iald dX12_middleOf_125 ra_129 q8 rfl ?_
          refine hh_icmp_ne (tgt := 147) dX12_middleOf_126 (by decide) (fun c => ?_) (fun c => ?_)
          · replace h := h.1 c
            exact hh_forget [true, false, true, true, true, false, false, false, false] (w_X12_middleOf_147 hk14 _ _ _ _ h)
          · replace h := h.2 c
            obtain ⟨⟨q1, q2⟩, h⟩ := h
            refine hh_aload_n dX12_middleOf_129 rfl ?_
            refine hh_getR dX12_middleOf_130 kf_X12_7 rf_128_0 ?_
            refine hh_iload dX12_middleOf_133 rfl ?_
            refine hh_bipush dX12_middleOf_135 (by decide) ?_
            refine hh_iadd dX12_middleOf_137 q1 ?_
            refine hh_iald dX12_middleOf_138 ra_129 q2 rfl ?_
            refine hh_iconst dX12_middleOf_139 (by decide) ?_
            refine hh_icmp_ne (tgt := 147) dX12_middleOf_140 (by decide) (fun c => ?_) (fun c => ?_)
            · replace h := h.1 c
              exact hh_forget [true, false, true, true, true, false, false, false, false] (w_X12_middleOf_147 hk14 _ _ _ _ h)
            · replace h := h.2 c
              refine hh_iconst dX12_middleOf_143 (by decide) ?_
              refine hh_goto (tgt := 148) dX12_middleOf_144 (by decide) ?_
              exact hh_forget [true, false, true, true, true, false, false, false, false] (w_X12_middleOf_148 hk14 _ _ _ _ _ h)
theorem l_X12_middleOf_14 {d : Nat} {Q : Int → hh_S → Prop} : ∀ (n : Nat) (x2 x3 x4 : Int) (σ : hh_S), hh_lp3 (B_X12_middleOf_14 d Q) n x2 x3 x4 σ → hh_J (d + 1) hm_X12_middleOf 14 [some (hh_R 128), none, some (hh_I x2), some (hh_I x3), some (hh_I x4), none, none, none, none] [] σ Q := by
  intro n
  induction n with
  | zero => intro _ _ _ _ h; exact h.elim
  | succ n ih => intro x2 x3 x4 σ h; exact w_X12_middleOf_14 ih x2 x3 x4 σ h
set_option maxRecDepth 20000 in
theorem w_X12_middleOf {d : Nat} {a1 : Int} {σ : hh_S} {Q : Int → hh_S → Prop} (h : P_X12_middleOf d a1 σ Q) : hh_J (d + 1) hm_X12_middleOf 0 [some (hh_R 128), some (hh_I a1), none, none, none, none, none, none, none] [] σ Q := by
  unfold P_X12_middleOf at h
  obtain ⟨⟨q1, q2⟩, h⟩ := h
  refine hh_sipush dX12_middleOf_0 (by decide) ?_
  refine hh_bipush dX12_middleOf_3 (by decide) ?_
  refine hh_iload_n dX12_middleOf_5 rfl ?_
  refine hh_imul dX12_middleOf_6 q1 ?_
  refine hh_iadd dX12_middleOf_7 q2 ?_
  refine hh_istore_n dX12_middleOf_8 (by decide) rfl ?_
  refine hh_iconst dX12_middleOf_9 (by decide) ?_
  refine hh_istore_n dX12_middleOf_10 (by decide) rfl ?_
  refine hh_iconst dX12_middleOf_11 (by decide) ?_
  refine hh_istore dX12_middleOf_12 (by decide) rfl ?_
  obtain ⟨n, h⟩ := h
  exact hh_forget [true, false, true, true, true, false, false, false, false] (l_X12_middleOf_14 n _ _ _ _ h)
theorem wp_X12_middleOf {d : Nat} (a1 : Int) {σ : hh_S} {Q : Int → hh_S → Prop} (h : hh_cs σ → hh_can a1 → P_X12_middleOf d a1 σ Q) : hh_Sp (d + 1) hm_X12_middleOf [hh_R 128, hh_I a1] σ Q :=
  hh_entry rfl (Nat.le_of_ble_eq_true rfl) rfl (fun hs hc => w_X12_middleOf (h hs (hc _ (List.mem_of_getElem? (i := 1) rfl))))
def B_X12_contest_360 (d : Nat) (Q : Int → hh_S → Prop) (x2 x5 : Int) (σ : hh_S) : Prop :=
  ((-2147483648 ≤ x2 + 10 ∧ x2 + 10 ≤ 2147483647) ∧ (0 ≤ x2 + 10 ∧ x2 + 10 < 9100)) ∧ (Q x5 (hh_up σ 129 (x2 + 10) x5))
def B_X12_contest_261 (d : Nat) (Q : Int → hh_S → Prop) (k261 : Int → Int → Int → Int → Int → Int → hh_S → Prop) (x2 x5 x6 x7 x8 x9 : Int) (σ : hh_S) : Prop :=
  ((-2147483648 ≤ 20 * x6 ∧ 20 * x6 ≤ 2147483647) ∧ (-2147483648 ≤ 50 + 20 * x6 ∧ 50 + 20 * x6 ≤ 2147483647) ∧ (-2147483648 ≤ 50 + 20 * x6 + 10 ∧ 50 + 20 * x6 + 10 ≤ 2147483647) ∧ (0 ≤ 50 + 20 * x6 + 10 ∧ 50 + 20 * x6 + 10 < 9100)) ∧ ((σ 129 (50 + 20 * x6 + 10) ≤ x9 → B_X12_contest_360 d Q x2 x5 σ) ∧ (¬ σ 129 (50 + 20 * x6 + 10) ≤ x9 → ((-2147483648 ≤ x8 + x9 ∧ x8 + x9 ≤ 2147483647) ∧ (0 ≤ x8 + x9 ∧ x8 + x9 < 9100) ∧ (0 ≤ x9 ∧ x9 < 3) ∧ (-2147483648 ≤ x7 + (σ 129 (x8 + x9)) ∧ x7 + (σ 129 (x8 + x9)) ≤ 2147483647) ∧ (0 ≤ x7 + (σ 129 (x8 + x9)) ∧ x7 + (σ 129 (x8 + x9)) < 9100)) ∧ (hh_Sp d hm_X12_less [hh_I (σ 138 x9), hh_I (σ 129 (x7 + (σ 129 (x8 + x9))))] σ (fun r311 σ311 => ((-2147483648 ≤ x7 + (σ 129 (x8 + x9)) ∧ x7 + (σ 129 (x8 + x9)) ≤ 2147483647) ∧ (0 ≤ x7 + (σ 129 (x8 + x9)) ∧ x7 + (σ 129 (x8 + x9)) < 9100) ∧ (-2147483648 ≤ σ311 129 (x7 + (σ 129 (x8 + x9))) - r311 ∧ σ311 129 (x7 + (σ 129 (x8 + x9))) - r311 ≤ 2147483647) ∧ (-2147483648 ≤ 44 + (σ 129 (x8 + x9)) ∧ 44 + (σ 129 (x8 + x9)) ≤ 2147483647)) ∧ (∀ τ341 : hh_S, τ341 = (hh_up σ311 129 (x7 + (σ 129 (x8 + x9))) (σ311 129 (x7 + (σ 129 (x8 + x9))) - r311)) → ((0 ≤ 44 + (σ 129 (x8 + x9)) ∧ 44 + (σ 129 (x8 + x9)) < 9100) ∧ (0 ≤ x9 ∧ x9 < 3) ∧ (-2147483648 ≤ τ341 138 x9 - r311 ∧ τ341 138 x9 - r311 ≤ 2147483647) ∧ (-2147483648 ≤ τ341 129 (44 + (σ 129 (x8 + x9))) + (τ341 138 x9 - r311) ∧ τ341 129 (44 + (σ 129 (x8 + x9))) + (τ341 138 x9 - r311) ≤ 2147483647) ∧ (-2147483648 ≤ x9 + 1 ∧ x9 + 1 ≤ 2147483647)) ∧ (k261 x2 x5 x6 x7 x8 (x9 + 1) (hh_up τ341 129 (44 + (σ 129 (x8 + x9))) (τ341 129 (44 + (σ 129 (x8 + x9))) + (τ341 138 x9 - r311)))))))))
def B_X12_contest_258 (d : Nat) (Q : Int → hh_S → Prop) (x2 x5 x6 x7 x8 : Int) (σ : hh_S) : Prop :=
  ∃ n, hh_lp6 (B_X12_contest_261 d Q) n x2 x5 x6 x7 x8 0 σ
def B_X12_contest_172 (d : Nat) (Q : Int → hh_S → Prop) (k172 : Int → Int → Int → Int → Int → Int → hh_S → Prop) (x2 x5 x6 x7 x8 x9 : Int) (σ : hh_S) : Prop :=
  ((-2147483648 ≤ 20 * x6 ∧ 20 * x6 ≤ 2147483647) ∧ (-2147483648 ≤ 50 + 20 * x6 ∧ 50 + 20 * x6 ≤ 2147483647) ∧ (-2147483648 ≤ 50 + 20 * x6 + 10 ∧ 50 + 20 * x6 + 10 ≤ 2147483647) ∧ (0 ≤ 50 + 20 * x6 + 10 ∧ 50 + 20 * x6 + 10 < 9100)) ∧ ((σ 129 (50 + 20 * x6 + 10) ≤ x9 → B_X12_contest_258 d Q x2 x5 x6 x7 x8 σ) ∧ (¬ σ 129 (50 + 20 * x6 + 10) ≤ x9 → ((-2147483648 ≤ x8 + x9 ∧ x8 + x9 ≤ 2147483647) ∧ (0 ≤ x8 + x9 ∧ x8 + x9 < 9100) ∧ (-2147483648 ≤ 44 + (σ 129 (x8 + x9)) ∧ 44 + (σ 129 (x8 + x9)) ≤ 2147483647) ∧ (0 ≤ 44 + (σ 129 (x8 + x9)) ∧ 44 + (σ 129 (x8 + x9)) < 9100) ∧ (0 ≤ x9 ∧ x9 < 3) ∧ (-2147483648 ≤ σ 129 (44 + (σ 129 (x8 + x9))) + (σ 138 x9) ∧ σ 129 (44 + (σ 129 (x8 + x9))) + (σ 138 x9) ≤ 2147483647) ∧ (-2147483648 ≤ x7 + (σ 129 (x8 + x9)) ∧ x7 + (σ 129 (x8 + x9)) ≤ 2147483647) ∧ (0 ≤ x7 + (σ 129 (x8 + x9)) ∧ x7 + (σ 129 (x8 + x9)) < 9100)) ∧ (hh_Sp d hm_X12_less [hh_I (σ 138 x9), hh_I (σ 129 (x7 + (σ 129 (x8 + x9))))] σ (fun r240 σ240 => ((-2147483648 ≤ σ 129 (44 + (σ 129 (x8 + x9))) + (σ 138 x9) - r240 ∧ σ 129 (44 + (σ 129 (x8 + x9))) + (σ 138 x9) - r240 ≤ 2147483647)) ∧ ((σ 129 (44 + (σ 129 (x8 + x9))) + (σ 138 x9) - r240 ≤ 9999999 → ((-2147483648 ≤ x9 + 1 ∧ x9 + 1 ≤ 2147483647)) ∧ (k172 x2 x5 x6 x7 x8 (x9 + 1) σ240)) ∧ (¬ σ 129 (44 + (σ 129 (x8 + x9))) + (σ 138 x9) - r240 ≤ 9999999 → Q (-1000000003) σ240))))))
def B_X12_contest_115 (d : Nat) (Q : Int → hh_S → Prop) (x2 s0 : Int) (σ : hh_S) : Prop :=
  ((-2147483648 ≤ x2 + 1 ∧ x2 + 1 ≤ 2147483647) ∧ (0 ≤ x2 + 1 ∧ x2 + 1 < 9100)) ∧ (hh_Sp d hm_X12_split [hh_R 128, hh_I (σ 129 (x2 + 1)), hh_I s0] σ (fun _ σ132 => ((-2147483648 ≤ x2 + 8 ∧ x2 + 8 ≤ 2147483647) ∧ (0 ≤ x2 + 8 ∧ x2 + 8 < 9100) ∧ (-2147483648 ≤ 12 * (σ132 129 (x2 + 8)) ∧ 12 * (σ132 129 (x2 + 8)) ≤ 2147483647) ∧ (-2147483648 ≤ 1630 + (12 * (σ132 129 (x2 + 8))) ∧ 1630 + (12 * (σ132 129 (x2 + 8))) ≤ 2147483647) ∧ (-2147483648 ≤ 1630 + (12 * (σ132 129 (x2 + 8))) + 6 ∧ 1630 + (12 * (σ132 129 (x2 + 8))) + 6 ≤ 2147483647) ∧ (-2147483648 ≤ 20 * (σ 129 (x2 + 1)) ∧ 20 * (σ 129 (x2 + 1)) ≤ 2147483647) ∧ (-2147483648 ≤ 50 + (20 * (σ 129 (x2 + 1))) ∧ 50 + (20 * (σ 129 (x2 + 1))) ≤ 2147483647) ∧ (-2147483648 ≤ 50 + (20 * (σ 129 (x2 + 1))) + 11 ∧ 50 + (20 * (σ 129 (x2 + 1))) + 11 ≤ 2147483647)) ∧ (∃ n, hh_lp6 (B_X12_contest_172 d Q) n x2 s0 (σ 129 (x2 + 1)) (1630 + (12 * (σ132 129 (x2 + 8))) + 6) (50 + (20 * (σ 129 (x2 + 1))) + 11) 0 σ132)))
def P_X12_contest (d : Nat) (a1 : Int) (σ : hh_S) (Q : Int → hh_S → Prop) : Prop :=
  hh_Sp d hm_X12_isEntry [hh_R 128, hh_I a1] σ (fun r2 σ2 => (¬ r2 = 0 → ((-2147483648 ≤ 12 * a1 ∧ 12 * a1 ≤ 2147483647) ∧ (-2147483648 ≤ 250 + 12 * a1 ∧ 250 + 12 * a1 ≤ 2147483647) ∧ (-2147483648 ≤ 250 + 12 * a1 + 8 ∧ 250 + 12 * a1 + 8 ≤ 2147483647) ∧ (0 ≤ 250 + 12 * a1 + 8 ∧ 250 + 12 * a1 + 8 < 9100)) ∧ ((σ2 129 (250 + 12 * a1 + 8) = (-1) → Q (-1000000002) σ2) ∧ (¬ σ2 129 (250 + 12 * a1 + 8) = (-1) → ((-2147483648 ≤ 250 + 12 * a1 + 10 ∧ 250 + 12 * a1 + 10 ≤ 2147483647) ∧ (0 ≤ 250 + 12 * a1 + 10 ∧ 250 + 12 * a1 + 10 < 9100)) ∧ ((σ2 129 (250 + 12 * a1 + 10) = (-1) → hh_Sp d hm_X12_middleOf [hh_R 128, hh_I a1] σ2 (fun r51 σ51 => (¬ r51 = (-1) → hh_Sp d hm_X12_gives [hh_R 128, hh_I a1, hh_I (σ51 129 0), hh_I 0] σ51 (fun r72 σ72 => (r72 ≤ r51 → B_X12_contest_115 d Q (250 + 12 * a1) 0 σ72) ∧ (¬ r72 ≤ r51 → ((-2147483648 ≤ 250 + 12 * a1 + 9 ∧ 250 + 12 * a1 + 9 ≤ 2147483647) ∧ (0 ≤ 250 + 12 * a1 + 9 ∧ 250 + 12 * a1 + 9 < 9100) ∧ (-9223372036854775808 ≤ (σ72 129 (250 + 12 * a1 + 9)) * r51 ∧ (σ72 129 (250 + 12 * a1 + 9)) * r51 ≤ 9223372036854775807) ∧ 0 ≤ (σ72 129 (250 + 12 * a1 + 9)) * r51 ∧ 0 < r72 ∧ (-2147483648 ≤ ((σ72 129 (250 + 12 * a1 + 9)) * r51) / r72 ∧ ((σ72 129 (250 + 12 * a1 + 9)) * r51) / r72 ≤ 2147483647) ∧ (-2147483648 ≤ σ72 129 (250 + 12 * a1 + 9) - (((σ72 129 (250 + 12 * a1 + 9)) * r51) / r72) ∧ σ72 129 (250 + 12 * a1 + 9) - (((σ72 129 (250 + 12 * a1 + 9)) * r51) / r72) ≤ 2147483647)) ∧ (B_X12_contest_115 d Q (250 + 12 * a1) (σ72 129 (250 + 12 * a1 + 9) - (((σ72 129 (250 + 12 * a1 + 9)) * r51) / r72)) σ72)))) ∧ (r51 = (-1) → Q (-1000000002) σ51))) ∧ (¬ σ2 129 (250 + 12 * a1 + 10) = (-1) → Q (-1000000002) σ2))))) ∧ (r2 = 0 → Q (-1000000001) σ2))
set_option maxRecDepth 20000 in
theorem w_X12_contest_360 {d : Nat} {Q : Int → hh_S → Prop} (x2 x5 : Int) (σ : hh_S) (h : B_X12_contest_360 d Q x2 x5 σ) : hh_J (d + 1) hm_X12_contest 360 [some (hh_R 128), none, some (hh_I x2), none, none, some (hh_I x5), none, none, none, none, none, none] [] σ Q := by
  unfold B_X12_contest_360 at h
  obtain ⟨⟨q1, q2⟩, h⟩ := h
  refine hh_aload_n dX12_contest_360 rfl ?_
  refine hh_getR dX12_contest_361 kf_X12_7 rf_128_0 ?_
  refine hh_iload_n dX12_contest_364 rfl ?_
  refine hh_bipush dX12_contest_365 (by decide) ?_
  refine hh_iadd dX12_contest_367 q1 ?_
  refine hh_iload dX12_contest_368 rfl ?_
  refine hh_iast dX12_contest_370 ra_129 q2 ?_
  refine hh_iload dX12_contest_371 rfl ?_
  exact hh_ireturn dX12_contest_373 rfl h
set_option maxRecDepth 20000 in
theorem w_X12_contest_261 {d : Nat} {Q : Int → hh_S → Prop} {k261 : Int → Int → Int → Int → Int → Int → hh_S → Prop} (hk261 : ∀ (x2 x5 x6 x7 x8 x9 : Int) (σ : hh_S), k261 x2 x5 x6 x7 x8 x9 σ → hh_J (d + 1) hm_X12_contest 261 [some (hh_R 128), none, some (hh_I x2), none, none, some (hh_I x5), some (hh_I x6), some (hh_I x7), some (hh_I x8), some (hh_I x9), none, none] [] σ Q) (x2 x5 x6 x7 x8 x9 : Int) (σ : hh_S) (h : B_X12_contest_261 d Q k261 x2 x5 x6 x7 x8 x9 σ) : hh_J (d + 1) hm_X12_contest 261 [some (hh_R 128), none, some (hh_I x2), none, none, some (hh_I x5), some (hh_I x6), some (hh_I x7), some (hh_I x8), some (hh_I x9), none, none] [] σ Q := by
  unfold B_X12_contest_261 at h
  obtain ⟨⟨q1, q2, q3, q4⟩, h⟩ := h
  refine hh_iload dX12_contest_261 rfl ?_
  refine hh_aload_n dX12_contest_263 rfl ?_
  refine hh_getR dX12_contest_264 kf_X12_7 rf_128_0 ?_
  refine hh_bipush dX12_contest_267 (by decide) ?_
  refine hh_bipush dX12_contest_269 (by decide) ?_
  refine hh_iload dX12_contest_271 rfl ?_
  refine hh_imul dX12_contest_273 q1 ?_
  refine hh_iadd dX12_contest_274 q2 ?_
  refine hh_bipush dX12_contest_275 (by decide) ?_
  refine hh_iadd dX12_contest_277 q3 ?_
  refine hh_iald dX12_contest_278 ra_129 q4 rfl ?_
  refine hh_icmp_ge (tgt := 360) dX12_contest_279 (by decide) (fun c => ?_) (fun c => ?_)
  · replace h := h.1 c
    exact hh_forget [true, false, true, false, false, true, false, false, false, false, false, false] (w_X12_contest_360 _ _ _ h)
  · replace h := h.2 c
    obtain ⟨⟨q1, q2, q3, q4, q5⟩, h⟩ := h
    refine hh_aload_n dX12_contest_282 rfl ?_
    refine hh_getR dX12_contest_283 kf_X12_7 rf_128_0 ?_
    refine hh_iload dX12_contest_286 rfl ?_
    refine hh_iload dX12_contest_288 rfl ?_
    refine hh_iadd dX12_contest_290 q1 ?_
    refine hh_iald dX12_contest_291 ra_129 q2 rfl ?_
    refine hh_istore dX12_contest_292 (by decide) rfl ?_
    refine hh_aload_n dX12_contest_294 rfl ?_
    refine hh_getR dX12_contest_295 kf_X12_37 rf_128_23 ?_
    refine hh_iload dX12_contest_298 rfl ?_
    refine hh_iald dX12_contest_300 ra_138 q3 rfl ?_
    refine hh_aload_n dX12_contest_301 rfl ?_
    refine hh_getR dX12_contest_302 kf_X12_7 rf_128_0 ?_
    refine hh_iload dX12_contest_305 rfl ?_
    refine hh_iload dX12_contest_307 rfl ?_
    refine hh_iadd dX12_contest_309 q4 ?_
    refine hh_iald dX12_contest_310 ra_129 q5 rfl ?_
    refine hh_cS2 dX12_contest_311 lk_X12_218 mo_X12_less (Nat.le_of_ble_eq_true rfl) h (fun r311 σ311 h => ?_)
    obtain ⟨⟨q1, q2, q3, q4⟩, h⟩ := h
    refine hh_istore dX12_contest_314 (by decide) rfl ?_
    refine hh_aload_n dX12_contest_316 rfl ?_
    refine hh_getR dX12_contest_317 kf_X12_7 rf_128_0 ?_
    refine hh_iload dX12_contest_320 rfl ?_
    refine hh_iload dX12_contest_322 rfl ?_
    refine hh_iadd dX12_contest_324 q1 ?_
    refine hh_dup2 dX12_contest_325 (fun _ => rfl) (fun _ => rfl) ?_
    refine hh_iald dX12_contest_326 ra_129 q2 rfl ?_
    refine hh_iload dX12_contest_327 rfl ?_
    refine hh_isub dX12_contest_329 q3 ?_
    refine hh_iast dX12_contest_330 ra_129 q2 ?_
    refine hh_aload_n dX12_contest_331 rfl ?_
    refine hh_getR dX12_contest_332 kf_X12_7 rf_128_0 ?_
    refine hh_bipush dX12_contest_335 (by decide) ?_
    refine hh_iload dX12_contest_337 rfl ?_
    refine hh_iadd dX12_contest_339 q4 ?_
    refine hh_dup2 dX12_contest_340 (fun _ => rfl) (fun _ => rfl) ?_
    replace h := h _ rfl
    obtain ⟨⟨q1, q2, q3, q4, q5⟩, h⟩ := h
    refine hh_iald dX12_contest_341 ra_129 q1 rfl ?_
    refine hh_aload_n dX12_contest_342 rfl ?_
    refine hh_getR dX12_contest_343 kf_X12_37 rf_128_23 ?_
    refine hh_iload dX12_contest_346 rfl ?_
    refine hh_iald dX12_contest_348 ra_138 q2 rfl ?_
    refine hh_iload dX12_contest_349 rfl ?_
    refine hh_isub dX12_contest_351 q3 ?_
    refine hh_iadd dX12_contest_352 q4 ?_
    refine hh_iast dX12_contest_353 ra_129 q1 ?_
    refine hh_iinc dX12_contest_354 (by decide) rfl rfl q5 ?_
    refine hh_goto (tgt := 261) dX12_contest_357 (by decide) ?_
    exact hh_forget [true, false, true, false, false, true, true, true, true, true, false, false] (hk261 _ _ _ _ _ _ _ h)
theorem l_X12_contest_261 {d : Nat} {Q : Int → hh_S → Prop} : ∀ (n : Nat) (x2 x5 x6 x7 x8 x9 : Int) (σ : hh_S), hh_lp6 (B_X12_contest_261 d Q) n x2 x5 x6 x7 x8 x9 σ → hh_J (d + 1) hm_X12_contest 261 [some (hh_R 128), none, some (hh_I x2), none, none, some (hh_I x5), some (hh_I x6), some (hh_I x7), some (hh_I x8), some (hh_I x9), none, none] [] σ Q := by
  intro n
  induction n with
  | zero => intro _ _ _ _ _ _ _ h; exact h.elim
  | succ n ih => intro x2 x5 x6 x7 x8 x9 σ h; exact w_X12_contest_261 ih x2 x5 x6 x7 x8 x9 σ h
set_option maxRecDepth 20000 in
theorem w_X12_contest_258 {d : Nat} {Q : Int → hh_S → Prop} (x2 x5 x6 x7 x8 : Int) (σ : hh_S) (h : B_X12_contest_258 d Q x2 x5 x6 x7 x8 σ) : hh_J (d + 1) hm_X12_contest 258 [some (hh_R 128), none, some (hh_I x2), none, none, some (hh_I x5), some (hh_I x6), some (hh_I x7), some (hh_I x8), none, none, none] [] σ Q := by
  unfold B_X12_contest_258 at h
  refine hh_iconst dX12_contest_258 (by decide) ?_
  refine hh_istore dX12_contest_259 (by decide) rfl ?_
  obtain ⟨n, h⟩ := h
  exact hh_forget [true, false, true, false, false, true, true, true, true, true, false, false] (l_X12_contest_261 n _ _ _ _ _ _ _ h)
set_option maxRecDepth 20000 in
theorem w_X12_contest_172 {d : Nat} {Q : Int → hh_S → Prop} {k172 : Int → Int → Int → Int → Int → Int → hh_S → Prop} (hk172 : ∀ (x2 x5 x6 x7 x8 x9 : Int) (σ : hh_S), k172 x2 x5 x6 x7 x8 x9 σ → hh_J (d + 1) hm_X12_contest 172 [some (hh_R 128), none, some (hh_I x2), none, none, some (hh_I x5), some (hh_I x6), some (hh_I x7), some (hh_I x8), some (hh_I x9), none, none] [] σ Q) (x2 x5 x6 x7 x8 x9 : Int) (σ : hh_S) (h : B_X12_contest_172 d Q k172 x2 x5 x6 x7 x8 x9 σ) : hh_J (d + 1) hm_X12_contest 172 [some (hh_R 128), none, some (hh_I x2), none, none, some (hh_I x5), some (hh_I x6), some (hh_I x7), some (hh_I x8), some (hh_I x9), none, none] [] σ Q := by
  unfold B_X12_contest_172 at h
  obtain ⟨⟨q1, q2, q3, q4⟩, h⟩ := h
  refine hh_iload dX12_contest_172 rfl ?_
  refine hh_aload_n dX12_contest_174 rfl ?_
  refine hh_getR dX12_contest_175 kf_X12_7 rf_128_0 ?_
  refine hh_bipush dX12_contest_178 (by decide) ?_
  refine hh_bipush dX12_contest_180 (by decide) ?_
  refine hh_iload dX12_contest_182 rfl ?_
  refine hh_imul dX12_contest_184 q1 ?_
  refine hh_iadd dX12_contest_185 q2 ?_
  refine hh_bipush dX12_contest_186 (by decide) ?_
  refine hh_iadd dX12_contest_188 q3 ?_
  refine hh_iald dX12_contest_189 ra_129 q4 rfl ?_
  refine hh_icmp_ge (tgt := 258) dX12_contest_190 (by decide) (fun c => ?_) (fun c => ?_)
  · replace h := h.1 c
    exact hh_forget [true, false, true, false, false, true, true, true, true, false, false, false] (w_X12_contest_258 _ _ _ _ _ _ h)
  · replace h := h.2 c
    obtain ⟨⟨q1, q2, q3, q4, q5, q6, q7, q8⟩, h⟩ := h
    refine hh_aload_n dX12_contest_193 rfl ?_
    refine hh_getR dX12_contest_194 kf_X12_7 rf_128_0 ?_
    refine hh_iload dX12_contest_197 rfl ?_
    refine hh_iload dX12_contest_199 rfl ?_
    refine hh_iadd dX12_contest_201 q1 ?_
    refine hh_iald dX12_contest_202 ra_129 q2 rfl ?_
    refine hh_istore dX12_contest_203 (by decide) rfl ?_
    refine hh_aload_n dX12_contest_205 rfl ?_
    refine hh_getR dX12_contest_206 kf_X12_7 rf_128_0 ?_
    refine hh_bipush dX12_contest_209 (by decide) ?_
    refine hh_iload dX12_contest_211 rfl ?_
    refine hh_iadd dX12_contest_213 q3 ?_
    refine hh_iald dX12_contest_214 ra_129 q4 rfl ?_
    refine hh_aload_n dX12_contest_215 rfl ?_
    refine hh_getR dX12_contest_216 kf_X12_37 rf_128_23 ?_
    refine hh_iload dX12_contest_219 rfl ?_
    refine hh_iald dX12_contest_221 ra_138 q5 rfl ?_
    refine hh_iadd dX12_contest_222 q6 ?_
    refine hh_aload_n dX12_contest_223 rfl ?_
    refine hh_getR dX12_contest_224 kf_X12_37 rf_128_23 ?_
    refine hh_iload dX12_contest_227 rfl ?_
    refine hh_iald dX12_contest_229 ra_138 q5 rfl ?_
    refine hh_aload_n dX12_contest_230 rfl ?_
    refine hh_getR dX12_contest_231 kf_X12_7 rf_128_0 ?_
    refine hh_iload dX12_contest_234 rfl ?_
    refine hh_iload dX12_contest_236 rfl ?_
    refine hh_iadd dX12_contest_238 q7 ?_
    refine hh_iald dX12_contest_239 ra_129 q8 rfl ?_
    refine hh_cS2 dX12_contest_240 lk_X12_218 mo_X12_less (Nat.le_of_ble_eq_true rfl) h (fun r240 σ240 h => ?_)
    obtain ⟨q1, h⟩ := h
    refine hh_isub dX12_contest_243 q1 ?_
    refine hh_ldc (n := 9999999) dX12_contest_244 kc_X12_241 (by decide) ?_
    refine hh_icmp_le (tgt := 252) dX12_contest_246 (by decide) (fun c => ?_) (fun c => ?_)
    · replace h := h.1 c
      obtain ⟨q1, h⟩ := h
      refine hh_iinc dX12_contest_252 (by decide) rfl rfl q1 ?_
      refine hh_goto (tgt := 172) dX12_contest_255 (by decide) ?_
      exact hh_forget [true, false, true, false, false, true, true, true, true, true, false, false] (hk172 _ _ _ _ _ _ _ h)
    · replace h := h.2 c
      refine hh_ldc (n := -1000000003) dX12_contest_249 kc_X12_73 (by decide) ?_
      exact hh_ireturn dX12_contest_251 rfl h
theorem l_X12_contest_172 {d : Nat} {Q : Int → hh_S → Prop} : ∀ (n : Nat) (x2 x5 x6 x7 x8 x9 : Int) (σ : hh_S), hh_lp6 (B_X12_contest_172 d Q) n x2 x5 x6 x7 x8 x9 σ → hh_J (d + 1) hm_X12_contest 172 [some (hh_R 128), none, some (hh_I x2), none, none, some (hh_I x5), some (hh_I x6), some (hh_I x7), some (hh_I x8), some (hh_I x9), none, none] [] σ Q := by
  intro n
  induction n with
  | zero => intro _ _ _ _ _ _ _ h; exact h.elim
  | succ n ih => intro x2 x5 x6 x7 x8 x9 σ h; exact w_X12_contest_172 ih x2 x5 x6 x7 x8 x9 σ h
set_option maxRecDepth 20000 in
theorem w_X12_contest_115 {d : Nat} {Q : Int → hh_S → Prop} (x2 s0 : Int) (σ : hh_S) (h : B_X12_contest_115 d Q x2 s0 σ) : hh_J (d + 1) hm_X12_contest 115 [some (hh_R 128), none, some (hh_I x2), none, none, none, none, none, none, none, none, none] [hh_I s0] σ Q := by
  unfold B_X12_contest_115 at h
  obtain ⟨⟨q1, q2⟩, h⟩ := h
  refine hh_istore dX12_contest_115 (by decide) rfl ?_
  refine hh_aload_n dX12_contest_117 rfl ?_
  refine hh_getR dX12_contest_118 kf_X12_7 rf_128_0 ?_
  refine hh_iload_n dX12_contest_121 rfl ?_
  refine hh_iconst dX12_contest_122 (by decide) ?_
  refine hh_iadd dX12_contest_123 q1 ?_
  refine hh_iald dX12_contest_124 ra_129 q2 rfl ?_
  refine hh_istore dX12_contest_125 (by decide) rfl ?_
  refine hh_aload_n dX12_contest_127 rfl ?_
  refine hh_iload dX12_contest_128 rfl ?_
  refine hh_iload dX12_contest_130 rfl ?_
  refine hh_cV2 dX12_contest_132 lk_X12_232 mo_X12_split rc_128 (Nat.le_of_ble_eq_true rfl) h (fun _ σ132 h => ?_)
  obtain ⟨⟨q1, q2, q3, q4, q5, q6, q7, q8⟩, h⟩ := h
  refine hh_sipush dX12_contest_135 (by decide) ?_
  refine hh_bipush dX12_contest_138 (by decide) ?_
  refine hh_aload_n dX12_contest_140 rfl ?_
  refine hh_getR dX12_contest_141 kf_X12_7 rf_128_0 ?_
  refine hh_iload_n dX12_contest_144 rfl ?_
  refine hh_bipush dX12_contest_145 (by decide) ?_
  refine hh_iadd dX12_contest_147 q1 ?_
  refine hh_iald dX12_contest_148 ra_129 q2 rfl ?_
  refine hh_imul dX12_contest_149 q3 ?_
  refine hh_iadd dX12_contest_150 q4 ?_
  refine hh_bipush dX12_contest_151 (by decide) ?_
  refine hh_iadd dX12_contest_153 q5 ?_
  refine hh_istore dX12_contest_154 (by decide) rfl ?_
  refine hh_bipush dX12_contest_156 (by decide) ?_
  refine hh_bipush dX12_contest_158 (by decide) ?_
  refine hh_iload dX12_contest_160 rfl ?_
  refine hh_imul dX12_contest_162 q6 ?_
  refine hh_iadd dX12_contest_163 q7 ?_
  refine hh_bipush dX12_contest_164 (by decide) ?_
  refine hh_iadd dX12_contest_166 q8 ?_
  refine hh_istore dX12_contest_167 (by decide) rfl ?_
  refine hh_iconst dX12_contest_169 (by decide) ?_
  refine hh_istore dX12_contest_170 (by decide) rfl ?_
  obtain ⟨n, h⟩ := h
  exact hh_forget [true, false, true, false, false, true, true, true, true, true, false, false] (l_X12_contest_172 n _ _ _ _ _ _ _ h)
set_option maxRecDepth 20000 in
theorem w_X12_contest {d : Nat} {a1 : Int} {σ : hh_S} {Q : Int → hh_S → Prop} (h : P_X12_contest d a1 σ Q) : hh_J (d + 1) hm_X12_contest 0 [some (hh_R 128), some (hh_I a1), none, none, none, none, none, none, none, none, none, none] [] σ Q := by
  unfold P_X12_contest at h
  refine hh_aload_n dX12_contest_0 rfl ?_
  refine hh_iload_n dX12_contest_1 rfl ?_
  refine hh_cV1 dX12_contest_2 lk_X12_98 mo_X12_isEntry rc_128 (Nat.le_of_ble_eq_true rfl) h (fun r2 σ2 h => ?_)
  refine hh_if_ne (tgt := 11) dX12_contest_5 (by decide) (fun c => ?_) (fun c => ?_)
  · replace h := h.1 c
    obtain ⟨⟨q1, q2, q3, q4⟩, h⟩ := h
    refine hh_sipush dX12_contest_11 (by decide) ?_
    refine hh_bipush dX12_contest_14 (by decide) ?_
    refine hh_iload_n dX12_contest_16 rfl ?_
    refine hh_imul dX12_contest_17 q1 ?_
    refine hh_iadd dX12_contest_18 q2 ?_
    refine hh_istore_n dX12_contest_19 (by decide) rfl ?_
    refine hh_aload_n dX12_contest_20 rfl ?_
    refine hh_getR dX12_contest_21 kf_X12_7 rf_128_0 ?_
    refine hh_iload_n dX12_contest_24 rfl ?_
    refine hh_bipush dX12_contest_25 (by decide) ?_
    refine hh_iadd dX12_contest_27 q3 ?_
    refine hh_iald dX12_contest_28 ra_129 q4 rfl ?_
    refine hh_iconst dX12_contest_29 (by decide) ?_
    refine hh_icmp_eq (tgt := 46) dX12_contest_30 (by decide) (fun c => ?_) (fun c => ?_)
    · replace h := h.1 c
      refine hh_ldc (n := -1000000002) dX12_contest_46 kc_X12_91 (by decide) ?_
      exact hh_ireturn dX12_contest_48 rfl h
    · replace h := h.2 c
      obtain ⟨⟨q1, q2⟩, h⟩ := h
      refine hh_aload_n dX12_contest_33 rfl ?_
      refine hh_getR dX12_contest_34 kf_X12_7 rf_128_0 ?_
      refine hh_iload_n dX12_contest_37 rfl ?_
      refine hh_bipush dX12_contest_38 (by decide) ?_
      refine hh_iadd dX12_contest_40 q1 ?_
      refine hh_iald dX12_contest_41 ra_129 q2 rfl ?_
      refine hh_iconst dX12_contest_42 (by decide) ?_
      refine hh_icmp_eq (tgt := 49) dX12_contest_43 (by decide) (fun c => ?_) (fun c => ?_)
      · replace h := h.1 c
        refine hh_aload_n dX12_contest_49 rfl ?_
        refine hh_iload_n dX12_contest_50 rfl ?_
        refine hh_cV1 dX12_contest_51 lk_X12_245 mo_X12_middleOf rc_128 (Nat.le_of_ble_eq_true rfl) h (fun r51 σ51 h => ?_)
        refine hh_istore_n dX12_contest_54 (by decide) rfl ?_
        refine hh_iload_n dX12_contest_55 rfl ?_
        refine hh_iconst dX12_contest_56 (by decide) ?_
        refine hh_icmp_ne (tgt := 63) dX12_contest_57 (by decide) (fun c => ?_) (fun c => ?_)
        · replace h := h.1 c
          refine hh_aload_n dX12_contest_63 rfl ?_
          refine hh_iload_n dX12_contest_64 rfl ?_
          refine hh_aload_n dX12_contest_65 rfl ?_
          refine hh_getR dX12_contest_66 kf_X12_7 rf_128_0 ?_
          refine hh_iconst dX12_contest_69 (by decide) ?_
          refine hh_iald dX12_contest_70 ra_129 (by decide) rfl ?_
          refine hh_iconst dX12_contest_71 (by decide) ?_
          refine hh_cV3 dX12_contest_72 lk_X12_221 mo_X12_gives rc_128 (Nat.le_of_ble_eq_true rfl) h (fun r72 σ72 h => ?_)
          refine hh_istore dX12_contest_75 (by decide) rfl ?_
          refine hh_iload dX12_contest_77 rfl ?_
          refine hh_iload_n dX12_contest_79 rfl ?_
          refine hh_icmp_le (tgt := 114) dX12_contest_80 (by decide) (fun c => ?_) (fun c => ?_)
          · replace h := h.1 c
            refine hh_iconst dX12_contest_114 (by decide) ?_
            exact hh_forget [true, false, true, false, false, false, false, false, false, false, false, false] (w_X12_contest_115 _ _ _ h)
          · replace h := h.2 c
            obtain ⟨⟨q1, q2, q3, q4, q5, q6, q7⟩, h⟩ := h
            refine hh_aload_n dX12_contest_83 rfl ?_
            refine hh_getR dX12_contest_84 kf_X12_7 rf_128_0 ?_
            refine hh_iload_n dX12_contest_87 rfl ?_
            refine hh_bipush dX12_contest_88 (by decide) ?_
            refine hh_iadd dX12_contest_90 q1 ?_
            refine hh_iald dX12_contest_91 ra_129 q2 rfl ?_
            refine hh_aload_n dX12_contest_92 rfl ?_
            refine hh_getR dX12_contest_93 kf_X12_7 rf_128_0 ?_
            refine hh_iload_n dX12_contest_96 rfl ?_
            refine hh_bipush dX12_contest_97 (by decide) ?_
            refine hh_iadd dX12_contest_99 q1 ?_
            refine hh_iald dX12_contest_100 ra_129 q2 rfl ?_
            refine hh_i2l dX12_contest_101 ?_
            refine hh_iload_n dX12_contest_102 rfl ?_
            refine hh_i2l dX12_contest_103 ?_
            refine hh_lmul dX12_contest_104 q3 ?_
            refine hh_iload dX12_contest_105 rfl ?_
            refine hh_i2l dX12_contest_107 ?_
            refine hh_ldiv dX12_contest_108 q4 q5 ?_
            refine hh_l2i dX12_contest_109 q6 ?_
            refine hh_isub dX12_contest_110 q7 ?_
            refine hh_goto (tgt := 115) dX12_contest_111 (by decide) ?_
            exact hh_forget [true, false, true, false, false, false, false, false, false, false, false, false] (w_X12_contest_115 _ _ _ h)
        · replace h := h.2 c
          refine hh_ldc (n := -1000000002) dX12_contest_60 kc_X12_91 (by decide) ?_
          exact hh_ireturn dX12_contest_62 rfl h
      · replace h := h.2 c
        refine hh_ldc (n := -1000000002) dX12_contest_46 kc_X12_91 (by decide) ?_
        exact hh_ireturn dX12_contest_48 rfl h
  · replace h := h.2 c
    refine hh_ldc (n := -1000000001) dX12_contest_8 kc_X12_72 (by decide) ?_
    exact hh_ireturn dX12_contest_10 rfl h
theorem wp_X12_contest {d : Nat} (a1 : Int) {σ : hh_S} {Q : Int → hh_S → Prop} (h : hh_cs σ → hh_can a1 → P_X12_contest d a1 σ Q) : hh_Sp (d + 1) hm_X12_contest [hh_R 128, hh_I a1] σ Q :=
  hh_entry rfl (Nat.le_of_ble_eq_true rfl) rfl (fun hs hc => w_X12_contest (h hs (hc _ (List.mem_of_getElem? (i := 1) rfl))))
def P_X12_middle (d : Nat) (a1 : Int) (σ : hh_S) (Q : Int → hh_S → Prop) : Prop :=
  hh_Sp d hm_X12_isEntry [hh_R 128, hh_I a1] σ (fun r2 σ2 => (¬ r2 = 0 → ((-2147483648 ≤ 12 * a1 ∧ 12 * a1 ≤ 2147483647) ∧ (-2147483648 ≤ 250 + 12 * a1 ∧ 250 + 12 * a1 ≤ 2147483647) ∧ (-2147483648 ≤ 250 + 12 * a1 + 8 ∧ 250 + 12 * a1 + 8 ≤ 2147483647) ∧ (0 ≤ 250 + 12 * a1 + 8 ∧ 250 + 12 * a1 + 8 < 9100)) ∧ ((¬ σ2 129 (250 + 12 * a1 + 8) = (-1) → hh_Sp d hm_X12_middleOf [hh_R 128, hh_I a1] σ2 (fun r36 σ36 => (¬ r36 = (-1) → Q r36 σ36) ∧ (r36 = (-1) → Q (-1000000002) σ36))) ∧ (σ2 129 (250 + 12 * a1 + 8) = (-1) → Q (-1000000002) σ2))) ∧ (r2 = 0 → Q (-1000000001) σ2))
set_option maxRecDepth 20000 in
theorem w_X12_middle {d : Nat} {a1 : Int} {σ : hh_S} {Q : Int → hh_S → Prop} (h : P_X12_middle d a1 σ Q) : hh_J (d + 1) hm_X12_middle 0 [some (hh_R 128), some (hh_I a1), none] [] σ Q := by
  unfold P_X12_middle at h
  refine hh_aload_n dX12_middle_0 rfl ?_
  refine hh_iload_n dX12_middle_1 rfl ?_
  refine hh_cV1 dX12_middle_2 lk_X12_98 mo_X12_isEntry rc_128 (Nat.le_of_ble_eq_true rfl) h (fun r2 σ2 h => ?_)
  refine hh_if_ne (tgt := 11) dX12_middle_5 (by decide) (fun c => ?_) (fun c => ?_)
  · replace h := h.1 c
    obtain ⟨⟨q1, q2, q3, q4⟩, h⟩ := h
    refine hh_aload_n dX12_middle_11 rfl ?_
    refine hh_getR dX12_middle_12 kf_X12_7 rf_128_0 ?_
    refine hh_sipush dX12_middle_15 (by decide) ?_
    refine hh_bipush dX12_middle_18 (by decide) ?_
    refine hh_iload_n dX12_middle_20 rfl ?_
    refine hh_imul dX12_middle_21 q1 ?_
    refine hh_iadd dX12_middle_22 q2 ?_
    refine hh_bipush dX12_middle_23 (by decide) ?_
    refine hh_iadd dX12_middle_25 q3 ?_
    refine hh_iald dX12_middle_26 ra_129 q4 rfl ?_
    refine hh_iconst dX12_middle_27 (by decide) ?_
    refine hh_icmp_ne (tgt := 34) dX12_middle_28 (by decide) (fun c => ?_) (fun c => ?_)
    · replace h := h.1 c
      refine hh_aload_n dX12_middle_34 rfl ?_
      refine hh_iload_n dX12_middle_35 rfl ?_
      refine hh_cV1 dX12_middle_36 lk_X12_245 mo_X12_middleOf rc_128 (Nat.le_of_ble_eq_true rfl) h (fun r36 σ36 h => ?_)
      refine hh_istore_n dX12_middle_39 (by decide) rfl ?_
      refine hh_iload_n dX12_middle_40 rfl ?_
      refine hh_iconst dX12_middle_41 (by decide) ?_
      refine hh_icmp_ne (tgt := 50) dX12_middle_42 (by decide) (fun c => ?_) (fun c => ?_)
      · replace h := h.1 c
        refine hh_iload_n dX12_middle_50 rfl ?_
        exact hh_ireturn dX12_middle_51 rfl h
      · replace h := h.2 c
        refine hh_ldc (n := -1000000002) dX12_middle_45 kc_X12_91 (by decide) ?_
        refine hh_goto (tgt := 51) dX12_middle_47 (by decide) ?_
        exact hh_ireturn dX12_middle_51 rfl h
    · replace h := h.2 c
      refine hh_ldc (n := -1000000002) dX12_middle_31 kc_X12_91 (by decide) ?_
      exact hh_ireturn dX12_middle_33 rfl h
  · replace h := h.2 c
    refine hh_ldc (n := -1000000001) dX12_middle_8 kc_X12_72 (by decide) ?_
    exact hh_ireturn dX12_middle_10 rfl h
theorem wp_X12_middle {d : Nat} (a1 : Int) {σ : hh_S} {Q : Int → hh_S → Prop} (h : hh_cs σ → hh_can a1 → P_X12_middle d a1 σ Q) : hh_Sp (d + 1) hm_X12_middle [hh_R 128, hh_I a1] σ Q :=
  hh_entry rfl (Nat.le_of_ble_eq_true rfl) rfl (fun hs hc => w_X12_middle (h hs (hc _ (List.mem_of_getElem? (i := 1) rfl))))
def B_X12_stage_123 (d : Nat) (Q : Int → hh_S → Prop) (x2 x3 x4 : Int) (σ : hh_S) : Prop :=
  ((-2147483648 ≤ x3 + 4 ∧ x3 + 4 ≤ 2147483647) ∧ (0 ≤ x3 + 4 ∧ x3 + 4 < 9100) ∧ (-2147483648 ≤ x3 + 4 + x2 ∧ x3 + 4 + x2 ≤ 2147483647) ∧ (0 ≤ x3 + 4 + x2 ∧ x3 + 4 + x2 < 9100)) ∧ (Q x4 (hh_up (hh_up σ 129 (x3 + 4) x2) 129 (x3 + 4 + x2) x4))
def B_X12_stage_114 (d : Nat) (Q : Int → hh_S → Prop) (k49 : Int → Int → Int → Int → Int → hh_S → Prop) (x1 x2 x3 x5 s0 s1 : Int) (σ : hh_S) : Prop :=
  ((-2147483648 ≤ s0 + s1 ∧ s0 + s1 ≤ 2147483647) ∧ (-2147483648 ≤ x5 + 1 ∧ x5 + 1 ≤ 2147483647)) ∧ (k49 x1 x2 x3 (s0 + s1) (x5 + 1) σ)
def B_X12_stage_113 (d : Nat) (Q : Int → hh_S → Prop) (k49 : Int → Int → Int → Int → Int → hh_S → Prop) (x1 x2 x3 x5 s0 : Int) (σ : hh_S) : Prop :=
  B_X12_stage_114 d Q k49 x1 x2 x3 x5 s0 0 σ
def B_X12_stage_49 (d : Nat) (Q : Int → hh_S → Prop) (k49 : Int → Int → Int → Int → Int → hh_S → Prop) (x1 x2 x3 x4 x5 : Int) (σ : hh_S) : Prop :=
  (σ 129 7 ≤ x5 → B_X12_stage_123 d Q x2 x3 x4 σ) ∧ (¬ σ 129 7 ≤ x5 → ((-2147483648 ≤ 12 * x5 ∧ 12 * x5 ≤ 2147483647) ∧ (-2147483648 ≤ 250 + 12 * x5 ∧ 250 + 12 * x5 ≤ 2147483647) ∧ (-2147483648 ≤ 250 + 12 * x5 + 1 ∧ 250 + 12 * x5 + 1 ≤ 2147483647) ∧ (0 ≤ 250 + 12 * x5 + 1 ∧ 250 + 12 * x5 + 1 < 9100)) ∧ ((¬ σ 129 (250 + 12 * x5 + 1) = x1 → B_X12_stage_113 d Q k49 x1 x2 x3 x5 x4 σ) ∧ (σ 129 (250 + 12 * x5 + 1) = x1 → hh_Sp d hm_X12_isKnown [hh_R 128, hh_I x5, hh_I (σ 129 0)] σ (fun r92 σ92 => (r92 = 0 → B_X12_stage_113 d Q k49 x1 x2 x3 x5 x4 σ92) ∧ (¬ r92 = 0 → hh_Sp d hm_X12_chargedOf [hh_R 128, hh_I x5, hh_I (σ92 129 0)] σ92 (fun r107 σ107 => B_X12_stage_114 d Q k49 x1 x2 x3 x5 x4 r107 σ107))))))
def P_X12_stage (d : Nat) (a1 a2 : Int) (σ : hh_S) (Q : Int → hh_S → Prop) : Prop :=
  hh_Sp d hm_X12_isMatter [hh_R 128, hh_I a1] σ (fun r2 σ2 => (r2 = 0 → Q (-1000000001) σ2) ∧ (¬ r2 = 0 → hh_Sp d hm_X12_in [hh_I a2, hh_I 1, hh_I 5] σ2 (fun r11 σ11 => (¬ r11 = 0 → ((-2147483648 ≤ 20 * a1 ∧ 20 * a1 ≤ 2147483647) ∧ (-2147483648 ≤ 50 + 20 * a1 ∧ 50 + 20 * a1 ≤ 2147483647) ∧ (-2147483648 ≤ 50 + 20 * a1 + 4 ∧ 50 + 20 * a1 + 4 ≤ 2147483647) ∧ (0 ≤ 50 + 20 * a1 + 4 ∧ 50 + 20 * a1 + 4 < 9100)) ∧ ((σ11 129 (50 + 20 * a1 + 4) < a2 → ∃ n, hh_lp5 (B_X12_stage_49 d Q) n a1 a2 (50 + 20 * a1) 0 0 σ11) ∧ (¬ σ11 129 (50 + 20 * a1 + 4) < a2 → Q (-1000000002) σ11))) ∧ (r11 = 0 → Q (-1000000001) σ11))))
set_option maxRecDepth 20000 in
theorem w_X12_stage_123 {d : Nat} {Q : Int → hh_S → Prop} (x2 x3 x4 : Int) (σ : hh_S) (h : B_X12_stage_123 d Q x2 x3 x4 σ) : hh_J (d + 1) hm_X12_stage 123 [some (hh_R 128), none, some (hh_I x2), some (hh_I x3), some (hh_I x4), none] [] σ Q := by
  unfold B_X12_stage_123 at h
  obtain ⟨⟨q1, q2, q3, q4⟩, h⟩ := h
  refine hh_aload_n dX12_stage_123 rfl ?_
  refine hh_getR dX12_stage_124 kf_X12_7 rf_128_0 ?_
  refine hh_iload_n dX12_stage_127 rfl ?_
  refine hh_iconst dX12_stage_128 (by decide) ?_
  refine hh_iadd dX12_stage_129 q1 ?_
  refine hh_iload_n dX12_stage_130 rfl ?_
  refine hh_iast dX12_stage_131 ra_129 q2 ?_
  refine hh_aload_n dX12_stage_132 rfl ?_
  refine hh_getR dX12_stage_133 kf_X12_7 rf_128_0 ?_
  refine hh_iload_n dX12_stage_136 rfl ?_
  refine hh_iconst dX12_stage_137 (by decide) ?_
  refine hh_iadd dX12_stage_138 q1 ?_
  refine hh_iload_n dX12_stage_139 rfl ?_
  refine hh_iadd dX12_stage_140 q3 ?_
  refine hh_iload dX12_stage_141 rfl ?_
  refine hh_iast dX12_stage_143 ra_129 q4 ?_
  refine hh_iload dX12_stage_144 rfl ?_
  exact hh_ireturn dX12_stage_146 rfl h
set_option maxRecDepth 20000 in
theorem w_X12_stage_114 {d : Nat} {Q : Int → hh_S → Prop} {k49 : Int → Int → Int → Int → Int → hh_S → Prop} (hk49 : ∀ (x1 x2 x3 x4 x5 : Int) (σ : hh_S), k49 x1 x2 x3 x4 x5 σ → hh_J (d + 1) hm_X12_stage 49 [some (hh_R 128), some (hh_I x1), some (hh_I x2), some (hh_I x3), some (hh_I x4), some (hh_I x5)] [] σ Q) (x1 x2 x3 x5 s0 s1 : Int) (σ : hh_S) (h : B_X12_stage_114 d Q k49 x1 x2 x3 x5 s0 s1 σ) : hh_J (d + 1) hm_X12_stage 114 [some (hh_R 128), some (hh_I x1), some (hh_I x2), some (hh_I x3), none, some (hh_I x5)] [hh_I s1, hh_I s0] σ Q := by
  unfold B_X12_stage_114 at h
  obtain ⟨⟨q1, q2⟩, h⟩ := h
  refine hh_iadd dX12_stage_114 q1 ?_
  refine hh_istore dX12_stage_115 (by decide) rfl ?_
  refine hh_iinc dX12_stage_117 (by decide) rfl rfl q2 ?_
  refine hh_goto (tgt := 49) dX12_stage_120 (by decide) ?_
  exact hh_forget [true, true, true, true, true, true] (hk49 _ _ _ _ _ _ h)
set_option maxRecDepth 20000 in
theorem w_X12_stage_113 {d : Nat} {Q : Int → hh_S → Prop} {k49 : Int → Int → Int → Int → Int → hh_S → Prop} (hk49 : ∀ (x1 x2 x3 x4 x5 : Int) (σ : hh_S), k49 x1 x2 x3 x4 x5 σ → hh_J (d + 1) hm_X12_stage 49 [some (hh_R 128), some (hh_I x1), some (hh_I x2), some (hh_I x3), some (hh_I x4), some (hh_I x5)] [] σ Q) (x1 x2 x3 x5 s0 : Int) (σ : hh_S) (h : B_X12_stage_113 d Q k49 x1 x2 x3 x5 s0 σ) : hh_J (d + 1) hm_X12_stage 113 [some (hh_R 128), some (hh_I x1), some (hh_I x2), some (hh_I x3), none, some (hh_I x5)] [hh_I s0] σ Q := by
  unfold B_X12_stage_113 at h
  refine hh_iconst dX12_stage_113 (by decide) ?_
  exact hh_forget [true, true, true, true, false, true] (w_X12_stage_114 hk49 _ _ _ _ _ _ _ h)
set_option maxRecDepth 20000 in
theorem w_X12_stage_49 {d : Nat} {Q : Int → hh_S → Prop} {k49 : Int → Int → Int → Int → Int → hh_S → Prop} (hk49 : ∀ (x1 x2 x3 x4 x5 : Int) (σ : hh_S), k49 x1 x2 x3 x4 x5 σ → hh_J (d + 1) hm_X12_stage 49 [some (hh_R 128), some (hh_I x1), some (hh_I x2), some (hh_I x3), some (hh_I x4), some (hh_I x5)] [] σ Q) (x1 x2 x3 x4 x5 : Int) (σ : hh_S) (h : B_X12_stage_49 d Q k49 x1 x2 x3 x4 x5 σ) : hh_J (d + 1) hm_X12_stage 49 [some (hh_R 128), some (hh_I x1), some (hh_I x2), some (hh_I x3), some (hh_I x4), some (hh_I x5)] [] σ Q := by
  unfold B_X12_stage_49 at h
  refine hh_iload dX12_stage_49 rfl ?_
  refine hh_aload_n dX12_stage_51 rfl ?_
  refine hh_getR dX12_stage_52 kf_X12_7 rf_128_0 ?_
  refine hh_bipush dX12_stage_55 (by decide) ?_
  refine hh_iald dX12_stage_57 ra_129 (by decide) rfl ?_
  refine hh_icmp_ge (tgt := 123) dX12_stage_58 (by decide) (fun c => ?_) (fun c => ?_)
  · replace h := h.1 c
    exact hh_forget [true, false, true, true, true, false] (w_X12_stage_123 _ _ _ _ h)
  · replace h := h.2 c
    obtain ⟨⟨q1, q2, q3, q4⟩, h⟩ := h
    refine hh_iload dX12_stage_61 rfl ?_
    refine hh_aload_n dX12_stage_63 rfl ?_
    refine hh_getR dX12_stage_64 kf_X12_7 rf_128_0 ?_
    refine hh_sipush dX12_stage_67 (by decide) ?_
    refine hh_bipush dX12_stage_70 (by decide) ?_
    refine hh_iload dX12_stage_72 rfl ?_
    refine hh_imul dX12_stage_74 q1 ?_
    refine hh_iadd dX12_stage_75 q2 ?_
    refine hh_iconst dX12_stage_76 (by decide) ?_
    refine hh_iadd dX12_stage_77 q3 ?_
    refine hh_iald dX12_stage_78 ra_129 q4 rfl ?_
    refine hh_iload_n dX12_stage_79 rfl ?_
    refine hh_icmp_ne (tgt := 113) dX12_stage_80 (by decide) (fun c => ?_) (fun c => ?_)
    · replace h := h.1 c
      exact hh_forget [true, true, true, true, false, true] (w_X12_stage_113 hk49 _ _ _ _ _ _ h)
    · replace h := h.2 c
      refine hh_aload_n dX12_stage_83 rfl ?_
      refine hh_iload dX12_stage_84 rfl ?_
      refine hh_aload_n dX12_stage_86 rfl ?_
      refine hh_getR dX12_stage_87 kf_X12_7 rf_128_0 ?_
      refine hh_iconst dX12_stage_90 (by decide) ?_
      refine hh_iald dX12_stage_91 ra_129 (by decide) rfl ?_
      refine hh_cV2 dX12_stage_92 lk_X12_101 mo_X12_isKnown rc_128 (Nat.le_of_ble_eq_true rfl) h (fun r92 σ92 h => ?_)
      refine hh_if_eq (tgt := 113) dX12_stage_95 (by decide) (fun c => ?_) (fun c => ?_)
      · replace h := h.1 c
        exact hh_forget [true, true, true, true, false, true] (w_X12_stage_113 hk49 _ _ _ _ _ _ h)
      · replace h := h.2 c
        refine hh_aload_n dX12_stage_98 rfl ?_
        refine hh_iload dX12_stage_99 rfl ?_
        refine hh_aload_n dX12_stage_101 rfl ?_
        refine hh_getR dX12_stage_102 kf_X12_7 rf_128_0 ?_
        refine hh_iconst dX12_stage_105 (by decide) ?_
        refine hh_iald dX12_stage_106 ra_129 (by decide) rfl ?_
        refine hh_cV2 dX12_stage_107 lk_X12_227 mo_X12_chargedOf rc_128 (Nat.le_of_ble_eq_true rfl) h (fun r107 σ107 h => ?_)
        refine hh_goto (tgt := 114) dX12_stage_110 (by decide) ?_
        exact hh_forget [true, true, true, true, false, true] (w_X12_stage_114 hk49 _ _ _ _ _ _ _ h)
theorem l_X12_stage_49 {d : Nat} {Q : Int → hh_S → Prop} : ∀ (n : Nat) (x1 x2 x3 x4 x5 : Int) (σ : hh_S), hh_lp5 (B_X12_stage_49 d Q) n x1 x2 x3 x4 x5 σ → hh_J (d + 1) hm_X12_stage 49 [some (hh_R 128), some (hh_I x1), some (hh_I x2), some (hh_I x3), some (hh_I x4), some (hh_I x5)] [] σ Q := by
  intro n
  induction n with
  | zero => intro _ _ _ _ _ _ h; exact h.elim
  | succ n ih => intro x1 x2 x3 x4 x5 σ h; exact w_X12_stage_49 ih x1 x2 x3 x4 x5 σ h
set_option maxRecDepth 20000 in
theorem w_X12_stage {d : Nat} {a1 a2 : Int} {σ : hh_S} {Q : Int → hh_S → Prop} (h : P_X12_stage d a1 a2 σ Q) : hh_J (d + 1) hm_X12_stage 0 [some (hh_R 128), some (hh_I a1), some (hh_I a2), none, none, none] [] σ Q := by
  unfold P_X12_stage at h
  refine hh_aload_n dX12_stage_0 rfl ?_
  refine hh_iload_n dX12_stage_1 rfl ?_
  refine hh_cV1 dX12_stage_2 lk_X12_82 mo_X12_isMatter rc_128 (Nat.le_of_ble_eq_true rfl) h (fun r2 σ2 h => ?_)
  refine hh_if_eq (tgt := 17) dX12_stage_5 (by decide) (fun c => ?_) (fun c => ?_)
  · replace h := h.1 c
    refine hh_ldc (n := -1000000001) dX12_stage_17 kc_X12_72 (by decide) ?_
    exact hh_ireturn dX12_stage_19 rfl h
  · replace h := h.2 c
    refine hh_iload_n dX12_stage_8 rfl ?_
    refine hh_iconst dX12_stage_9 (by decide) ?_
    refine hh_iconst dX12_stage_10 (by decide) ?_
    refine hh_cS3 dX12_stage_11 lk_X12_68 mo_X12_in (Nat.le_of_ble_eq_true rfl) h (fun r11 σ11 h => ?_)
    refine hh_if_ne (tgt := 20) dX12_stage_14 (by decide) (fun c => ?_) (fun c => ?_)
    · replace h := h.1 c
      obtain ⟨⟨q1, q2, q3, q4⟩, h⟩ := h
      refine hh_bipush dX12_stage_20 (by decide) ?_
      refine hh_bipush dX12_stage_22 (by decide) ?_
      refine hh_iload_n dX12_stage_24 rfl ?_
      refine hh_imul dX12_stage_25 q1 ?_
      refine hh_iadd dX12_stage_26 q2 ?_
      refine hh_istore_n dX12_stage_27 (by decide) rfl ?_
      refine hh_iload_n dX12_stage_28 rfl ?_
      refine hh_aload_n dX12_stage_29 rfl ?_
      refine hh_getR dX12_stage_30 kf_X12_7 rf_128_0 ?_
      refine hh_iload_n dX12_stage_33 rfl ?_
      refine hh_iconst dX12_stage_34 (by decide) ?_
      refine hh_iadd dX12_stage_35 q3 ?_
      refine hh_iald dX12_stage_36 ra_129 q4 rfl ?_
      refine hh_icmp_gt (tgt := 43) dX12_stage_37 (by decide) (fun c => ?_) (fun c => ?_)
      · replace h := h.1 c
        refine hh_iconst dX12_stage_43 (by decide) ?_
        refine hh_istore dX12_stage_44 (by decide) rfl ?_
        refine hh_iconst dX12_stage_46 (by decide) ?_
        refine hh_istore dX12_stage_47 (by decide) rfl ?_
        obtain ⟨n, h⟩ := h
        exact hh_forget [true, true, true, true, true, true] (l_X12_stage_49 n _ _ _ _ _ _ h)
      · replace h := h.2 c
        refine hh_ldc (n := -1000000002) dX12_stage_40 kc_X12_91 (by decide) ?_
        exact hh_ireturn dX12_stage_42 rfl h
    · replace h := h.2 c
      refine hh_ldc (n := -1000000001) dX12_stage_17 kc_X12_72 (by decide) ?_
      exact hh_ireturn dX12_stage_19 rfl h
theorem wp_X12_stage {d : Nat} (a1 a2 : Int) {σ : hh_S} {Q : Int → hh_S → Prop} (h : hh_cs σ → hh_can a1 → hh_can a2 → P_X12_stage d a1 a2 σ Q) : hh_Sp (d + 1) hm_X12_stage [hh_R 128, hh_I a1, hh_I a2] σ Q :=
  hh_entry rfl (Nat.le_of_ble_eq_true rfl) rfl (fun hs hc => w_X12_stage (h hs (hc _ (List.mem_of_getElem? (i := 1) rfl)) (hc _ (List.mem_of_getElem? (i := 2) rfl))))
def B_X12_foretold_221 (d : Nat) (Q : Int → hh_S → Prop) (x5 : Int) (σ : hh_S) : Prop :=
  (0 ≤ hh_cmp x5 0 → (hh_cmp x5 99999999 ≤ 0 → ((-2147483648 ≤ x5 ∧ x5 ≤ 2147483647)) ∧ (Q x5 σ)) ∧ (¬ hh_cmp x5 99999999 ≤ 0 → Q 99999999 σ)) ∧ (¬ 0 ≤ hh_cmp x5 0 → Q (-1000000005) σ)
def B_X12_foretold_215 (d : Nat) (Q : Int → hh_S → Prop) (k60 : Int → Int → Int → Int → Int → Int → hh_S → Prop) (x1 x2 x3 x4 x5 x7 : Int) (σ : hh_S) : Prop :=
  ((-2147483648 ≤ x7 + 1 ∧ x7 + 1 ≤ 2147483647)) ∧ (k60 x1 x2 x3 x4 x5 (x7 + 1) σ)
def B_X12_foretold_213 (d : Nat) (Q : Int → hh_S → Prop) (k60 : Int → Int → Int → Int → Int → Int → hh_S → Prop) (x1 x2 x3 x4 x7 s0 : Int) (σ : hh_S) : Prop :=
  B_X12_foretold_215 d Q k60 x1 x2 x3 x4 s0 x7 σ
def B_X12_foretold_211 (d : Nat) (Q : Int → hh_S → Prop) (k60 : Int → Int → Int → Int → Int → Int → hh_S → Prop) (x1 x2 x3 x4 x5 x7 : Int) (σ : hh_S) : Prop :=
  B_X12_foretold_213 d Q k60 x1 x2 x3 x4 x7 x5 σ
def B_X12_foretold_206 (d : Nat) (Q : Int → hh_S → Prop) (k60 : Int → Int → Int → Int → Int → Int → hh_S → Prop) (x1 x2 x3 x4 x7 x9 : Int) (σ : hh_S) : Prop :=
  B_X12_foretold_213 d Q k60 x1 x2 x3 x4 x7 x9 σ
def B_X12_foretold_60 (d : Nat) (Q : Int → hh_S → Prop) (k60 : Int → Int → Int → Int → Int → Int → hh_S → Prop) (x1 x2 x3 x4 x5 x7 : Int) (σ : hh_S) : Prop :=
  (σ 129 6 ≤ x7 → B_X12_foretold_221 d Q x5 σ) ∧ (¬ σ 129 6 ≤ x7 → ((-2147483648 ≤ 20 * x7 ∧ 20 * x7 ≤ 2147483647) ∧ (-2147483648 ≤ 50 + 20 * x7 ∧ 50 + 20 * x7 ≤ 2147483647)) ∧ ((x7 = x1 → B_X12_foretold_215 d Q k60 x1 x2 x3 x4 x5 x7 σ) ∧ (¬ x7 = x1 → ((0 ≤ 50 + 20 * x7 ∧ 50 + 20 * x7 < 9100) ∧ (0 ≤ x3 ∧ x3 < 9100)) ∧ ((¬ σ 129 (50 + 20 * x7) = σ 129 x3 → B_X12_foretold_215 d Q k60 x1 x2 x3 x4 x5 x7 σ) ∧ (σ 129 (50 + 20 * x7) = σ 129 x3 → ((-2147483648 ≤ 50 + 20 * x7 + 4 ∧ 50 + 20 * x7 + 4 ≤ 2147483647) ∧ (0 ≤ 50 + 20 * x7 + 4 ∧ 50 + 20 * x7 + 4 < 9100)) ∧ ((¬ σ 129 (50 + 20 * x7 + 4) = 5 → B_X12_foretold_215 d Q k60 x1 x2 x3 x4 x5 x7 σ) ∧ (σ 129 (50 + 20 * x7 + 4) = 5 → ((-2147483648 ≤ 50 + 20 * x7 + 4 ∧ 50 + 20 * x7 + 4 ≤ 2147483647) ∧ (-2147483648 ≤ 50 + 20 * x7 + 4 + x4 ∧ 50 + 20 * x7 + 4 + x4 ≤ 2147483647) ∧ (0 ≤ 50 + 20 * x7 + 4 + x4 ∧ 50 + 20 * x7 + 4 + x4 < 9100)) ∧ ((0 < σ 129 (50 + 20 * x7 + 4 + x4) → ((-2147483648 ≤ x3 + 4 ∧ x3 + 4 ≤ 2147483647) ∧ (-2147483648 ≤ x3 + 4 + x4 ∧ x3 + 4 + x4 ≤ 2147483647) ∧ (0 ≤ x3 + 4 + x4 ∧ x3 + 4 + x4 < 9100) ∧ (-2147483648 ≤ 50 + 20 * x7 + 4 ∧ 50 + 20 * x7 + 4 ≤ 2147483647) ∧ (-2147483648 ≤ 50 + 20 * x7 + 4 + 5 ∧ 50 + 20 * x7 + 4 + 5 ≤ 2147483647) ∧ (0 ≤ 50 + 20 * x7 + 4 + 5 ∧ 50 + 20 * x7 + 4 + 5 < 9100) ∧ (-9223372036854775808 ≤ (σ 129 (x3 + 4 + x4)) * (σ 129 (50 + 20 * x7 + 4 + 5)) ∧ (σ 129 (x3 + 4 + x4)) * (σ 129 (50 + 20 * x7 + 4 + 5)) ≤ 9223372036854775807) ∧ (-2147483648 ≤ 50 + 20 * x7 + 4 + x4 ∧ 50 + 20 * x7 + 4 + x4 ≤ 2147483647) ∧ (0 ≤ 50 + 20 * x7 + 4 + x4 ∧ 50 + 20 * x7 + 4 + x4 < 9100) ∧ 0 ≤ (σ 129 (x3 + 4 + x4)) * (σ 129 (50 + 20 * x7 + 4 + 5)) ∧ 0 < σ 129 (50 + 20 * x7 + 4 + x4)) ∧ ((hh_cmp x5 0 < 0 → B_X12_foretold_206 d Q k60 x1 x2 x3 x4 x7 (((σ 129 (x3 + 4 + x4)) * (σ 129 (50 + 20 * x7 + 4 + 5))) / (σ 129 (50 + 20 * x7 + 4 + x4))) σ) ∧ (¬ hh_cmp x5 0 < 0 → (¬ x2 = 0 → (hh_cmp (((σ 129 (x3 + 4 + x4)) * (σ 129 (50 + 20 * x7 + 4 + 5))) / (σ 129 (50 + 20 * x7 + 4 + x4))) x5 ≤ 0 → B_X12_foretold_211 d Q k60 x1 x2 x3 x4 x5 x7 σ) ∧ (¬ hh_cmp (((σ 129 (x3 + 4 + x4)) * (σ 129 (50 + 20 * x7 + 4 + 5))) / (σ 129 (50 + 20 * x7 + 4 + x4))) x5 ≤ 0 → B_X12_foretold_206 d Q k60 x1 x2 x3 x4 x7 (((σ 129 (x3 + 4 + x4)) * (σ 129 (50 + 20 * x7 + 4 + 5))) / (σ 129 (50 + 20 * x7 + 4 + x4))) σ)) ∧ (x2 = 0 → (0 ≤ hh_cmp (((σ 129 (x3 + 4 + x4)) * (σ 129 (50 + 20 * x7 + 4 + 5))) / (σ 129 (50 + 20 * x7 + 4 + x4))) x5 → B_X12_foretold_211 d Q k60 x1 x2 x3 x4 x5 x7 σ) ∧ (¬ 0 ≤ hh_cmp (((σ 129 (x3 + 4 + x4)) * (σ 129 (50 + 20 * x7 + 4 + 5))) / (σ 129 (50 + 20 * x7 + 4 + x4))) x5 → B_X12_foretold_206 d Q k60 x1 x2 x3 x4 x7 (((σ 129 (x3 + 4 + x4)) * (σ 129 (50 + 20 * x7 + 4 + 5))) / (σ 129 (50 + 20 * x7 + 4 + x4))) σ))))) ∧ (¬ 0 < σ 129 (50 + 20 * x7 + 4 + x4) → B_X12_foretold_215 d Q k60 x1 x2 x3 x4 x5 x7 σ)))))))))
def P_X12_foretold (d : Nat) (a1 a2 : Int) (σ : hh_S) (Q : Int → hh_S → Prop) : Prop :=
  hh_Sp d hm_X12_isMatter [hh_R 128, hh_I a1] σ (fun r2 σ2 => (r2 = 0 → Q (-1000000001) σ2) ∧ (¬ r2 = 0 → hh_Sp d hm_X12_in [hh_I a2, hh_I 0, hh_I 1] σ2 (fun r11 σ11 => (¬ r11 = 0 → ((-2147483648 ≤ 20 * a1 ∧ 20 * a1 ≤ 2147483647) ∧ (-2147483648 ≤ 50 + 20 * a1 ∧ 50 + 20 * a1 ≤ 2147483647) ∧ (-2147483648 ≤ 50 + 20 * a1 + 4 ∧ 50 + 20 * a1 + 4 ≤ 2147483647) ∧ (0 ≤ 50 + 20 * a1 + 4 ∧ 50 + 20 * a1 + 4 < 9100)) ∧ ((σ11 129 (50 + 20 * a1 + 4) = 0 → Q (-1000000002) σ11) ∧ (¬ σ11 129 (50 + 20 * a1 + 4) = 0 → (¬ σ11 129 (50 + 20 * a1 + 4) = 5 → ∃ n, hh_lp6 (B_X12_foretold_60 d Q) n a1 a2 (50 + 20 * a1) (σ11 129 (50 + 20 * a1 + 4)) (-1) 0 σ11) ∧ (σ11 129 (50 + 20 * a1 + 4) = 5 → Q (-1000000002) σ11)))) ∧ (r11 = 0 → Q (-1000000001) σ11))))
set_option maxRecDepth 20000 in
theorem w_X12_foretold_221 {d : Nat} {Q : Int → hh_S → Prop} (x5 : Int) (σ : hh_S) (h : B_X12_foretold_221 d Q x5 σ) : hh_J (d + 1) hm_X12_foretold 221 [none, none, none, none, none, some (hh_L x5), none, none, none, none, none] [] σ Q := by
  unfold B_X12_foretold_221 at h
  refine hh_lload dX12_foretold_221 rfl ?_
  refine hh_lconst0 dX12_foretold_223 ?_
  refine hh_lcmp dX12_foretold_224 ?_
  refine hh_if_ge (tgt := 233) dX12_foretold_225 (by decide) (fun c => ?_) (fun c => ?_)
  · replace h := h.1 c
    refine hh_lload dX12_foretold_233 rfl ?_
    refine hh_ldc2 (n := 99999999) dX12_foretold_235 kc_X12_250 (by decide) ?_
    refine hh_lcmp dX12_foretold_238 ?_
    refine hh_if_le (tgt := 247) dX12_foretold_239 (by decide) (fun c => ?_) (fun c => ?_)
    · replace h := h.1 c
      obtain ⟨q1, h⟩ := h
      refine hh_lload dX12_foretold_247 rfl ?_
      refine hh_l2i dX12_foretold_249 q1 ?_
      exact hh_ireturn dX12_foretold_250 rfl h
    · replace h := h.2 c
      refine hh_ldc (n := 99999999) dX12_foretold_242 kc_X12_252 (by decide) ?_
      refine hh_goto (tgt := 250) dX12_foretold_244 (by decide) ?_
      exact hh_ireturn dX12_foretold_250 rfl h
  · replace h := h.2 c
    refine hh_ldc (n := -1000000005) dX12_foretold_228 kc_X12_67 (by decide) ?_
    refine hh_goto (tgt := 250) dX12_foretold_230 (by decide) ?_
    exact hh_ireturn dX12_foretold_250 rfl h
set_option maxRecDepth 20000 in
theorem w_X12_foretold_215 {d : Nat} {Q : Int → hh_S → Prop} {k60 : Int → Int → Int → Int → Int → Int → hh_S → Prop} (hk60 : ∀ (x1 x2 x3 x4 x5 x7 : Int) (σ : hh_S), k60 x1 x2 x3 x4 x5 x7 σ → hh_J (d + 1) hm_X12_foretold 60 [some (hh_R 128), some (hh_I x1), some (hh_I x2), some (hh_I x3), some (hh_I x4), some (hh_L x5), none, some (hh_I x7), none, none, none] [] σ Q) (x1 x2 x3 x4 x5 x7 : Int) (σ : hh_S) (h : B_X12_foretold_215 d Q k60 x1 x2 x3 x4 x5 x7 σ) : hh_J (d + 1) hm_X12_foretold 215 [some (hh_R 128), some (hh_I x1), some (hh_I x2), some (hh_I x3), some (hh_I x4), some (hh_L x5), none, some (hh_I x7), none, none, none] [] σ Q := by
  unfold B_X12_foretold_215 at h
  obtain ⟨q1, h⟩ := h
  refine hh_iinc dX12_foretold_215 (by decide) rfl rfl q1 ?_
  refine hh_goto (tgt := 60) dX12_foretold_218 (by decide) ?_
  exact hh_forget [true, true, true, true, true, true, false, true, false, false, false] (hk60 _ _ _ _ _ _ _ h)
set_option maxRecDepth 20000 in
theorem w_X12_foretold_213 {d : Nat} {Q : Int → hh_S → Prop} {k60 : Int → Int → Int → Int → Int → Int → hh_S → Prop} (hk60 : ∀ (x1 x2 x3 x4 x5 x7 : Int) (σ : hh_S), k60 x1 x2 x3 x4 x5 x7 σ → hh_J (d + 1) hm_X12_foretold 60 [some (hh_R 128), some (hh_I x1), some (hh_I x2), some (hh_I x3), some (hh_I x4), some (hh_L x5), none, some (hh_I x7), none, none, none] [] σ Q) (x1 x2 x3 x4 x7 s0 : Int) (σ : hh_S) (h : B_X12_foretold_213 d Q k60 x1 x2 x3 x4 x7 s0 σ) : hh_J (d + 1) hm_X12_foretold 213 [some (hh_R 128), some (hh_I x1), some (hh_I x2), some (hh_I x3), some (hh_I x4), none, none, some (hh_I x7), none, none, none] [hh_L s0] σ Q := by
  unfold B_X12_foretold_213 at h
  refine hh_lstore dX12_foretold_213 (by decide) rfl ?_
  exact hh_forget [true, true, true, true, true, true, false, true, false, false, false] (w_X12_foretold_215 hk60 _ _ _ _ _ _ _ h)
set_option maxRecDepth 20000 in
theorem w_X12_foretold_211 {d : Nat} {Q : Int → hh_S → Prop} {k60 : Int → Int → Int → Int → Int → Int → hh_S → Prop} (hk60 : ∀ (x1 x2 x3 x4 x5 x7 : Int) (σ : hh_S), k60 x1 x2 x3 x4 x5 x7 σ → hh_J (d + 1) hm_X12_foretold 60 [some (hh_R 128), some (hh_I x1), some (hh_I x2), some (hh_I x3), some (hh_I x4), some (hh_L x5), none, some (hh_I x7), none, none, none] [] σ Q) (x1 x2 x3 x4 x5 x7 : Int) (σ : hh_S) (h : B_X12_foretold_211 d Q k60 x1 x2 x3 x4 x5 x7 σ) : hh_J (d + 1) hm_X12_foretold 211 [some (hh_R 128), some (hh_I x1), some (hh_I x2), some (hh_I x3), some (hh_I x4), some (hh_L x5), none, some (hh_I x7), none, none, none] [] σ Q := by
  unfold B_X12_foretold_211 at h
  refine hh_lload dX12_foretold_211 rfl ?_
  exact hh_forget [true, true, true, true, true, false, false, true, false, false, false] (w_X12_foretold_213 hk60 _ _ _ _ _ _ _ h)
set_option maxRecDepth 20000 in
theorem w_X12_foretold_206 {d : Nat} {Q : Int → hh_S → Prop} {k60 : Int → Int → Int → Int → Int → Int → hh_S → Prop} (hk60 : ∀ (x1 x2 x3 x4 x5 x7 : Int) (σ : hh_S), k60 x1 x2 x3 x4 x5 x7 σ → hh_J (d + 1) hm_X12_foretold 60 [some (hh_R 128), some (hh_I x1), some (hh_I x2), some (hh_I x3), some (hh_I x4), some (hh_L x5), none, some (hh_I x7), none, none, none] [] σ Q) (x1 x2 x3 x4 x7 x9 : Int) (σ : hh_S) (h : B_X12_foretold_206 d Q k60 x1 x2 x3 x4 x7 x9 σ) : hh_J (d + 1) hm_X12_foretold 206 [some (hh_R 128), some (hh_I x1), some (hh_I x2), some (hh_I x3), some (hh_I x4), none, none, some (hh_I x7), none, some (hh_L x9), none] [] σ Q := by
  unfold B_X12_foretold_206 at h
  refine hh_lload dX12_foretold_206 rfl ?_
  refine hh_goto (tgt := 213) dX12_foretold_208 (by decide) ?_
  exact hh_forget [true, true, true, true, true, false, false, true, false, false, false] (w_X12_foretold_213 hk60 _ _ _ _ _ _ _ h)
set_option maxRecDepth 20000 in
theorem w_X12_foretold_60 {d : Nat} {Q : Int → hh_S → Prop} {k60 : Int → Int → Int → Int → Int → Int → hh_S → Prop} (hk60 : ∀ (x1 x2 x3 x4 x5 x7 : Int) (σ : hh_S), k60 x1 x2 x3 x4 x5 x7 σ → hh_J (d + 1) hm_X12_foretold 60 [some (hh_R 128), some (hh_I x1), some (hh_I x2), some (hh_I x3), some (hh_I x4), some (hh_L x5), none, some (hh_I x7), none, none, none] [] σ Q) (x1 x2 x3 x4 x5 x7 : Int) (σ : hh_S) (h : B_X12_foretold_60 d Q k60 x1 x2 x3 x4 x5 x7 σ) : hh_J (d + 1) hm_X12_foretold 60 [some (hh_R 128), some (hh_I x1), some (hh_I x2), some (hh_I x3), some (hh_I x4), some (hh_L x5), none, some (hh_I x7), none, none, none] [] σ Q := by
  unfold B_X12_foretold_60 at h
  refine hh_iload dX12_foretold_60 rfl ?_
  refine hh_aload_n dX12_foretold_62 rfl ?_
  refine hh_getR dX12_foretold_63 kf_X12_7 rf_128_0 ?_
  refine hh_bipush dX12_foretold_66 (by decide) ?_
  refine hh_iald dX12_foretold_68 ra_129 (by decide) rfl ?_
  refine hh_icmp_ge (tgt := 221) dX12_foretold_69 (by decide) (fun c => ?_) (fun c => ?_)
  · replace h := h.1 c
    exact hh_forget [false, false, false, false, false, true, false, false, false, false, false] (w_X12_foretold_221 _ _ h)
  · replace h := h.2 c
    obtain ⟨⟨q1, q2⟩, h⟩ := h
    refine hh_bipush dX12_foretold_72 (by decide) ?_
    refine hh_bipush dX12_foretold_74 (by decide) ?_
    refine hh_iload dX12_foretold_76 rfl ?_
    refine hh_imul dX12_foretold_78 q1 ?_
    refine hh_iadd dX12_foretold_79 q2 ?_
    refine hh_istore dX12_foretold_80 (by decide) rfl ?_
    refine hh_iload dX12_foretold_82 rfl ?_
    refine hh_iload_n dX12_foretold_84 rfl ?_
    refine hh_icmp_eq (tgt := 215) dX12_foretold_85 (by decide) (fun c => ?_) (fun c => ?_)
    · replace h := h.1 c
      exact hh_forget [true, true, true, true, true, true, false, true, false, false, false] (w_X12_foretold_215 hk60 _ _ _ _ _ _ _ h)
    · replace h := h.2 c
      obtain ⟨⟨q1, q2⟩, h⟩ := h
      refine hh_aload_n dX12_foretold_88 rfl ?_
      refine hh_getR dX12_foretold_89 kf_X12_7 rf_128_0 ?_
      refine hh_iload dX12_foretold_92 rfl ?_
      refine hh_iald dX12_foretold_94 ra_129 q1 rfl ?_
      refine hh_aload_n dX12_foretold_95 rfl ?_
      refine hh_getR dX12_foretold_96 kf_X12_7 rf_128_0 ?_
      refine hh_iload_n dX12_foretold_99 rfl ?_
      refine hh_iald dX12_foretold_100 ra_129 q2 rfl ?_
      refine hh_icmp_ne (tgt := 215) dX12_foretold_101 (by decide) (fun c => ?_) (fun c => ?_)
      · replace h := h.1 c
        exact hh_forget [true, true, true, true, true, true, false, true, false, false, false] (w_X12_foretold_215 hk60 _ _ _ _ _ _ _ h)
      · replace h := h.2 c
        obtain ⟨⟨q1, q2⟩, h⟩ := h
        refine hh_aload_n dX12_foretold_104 rfl ?_
        refine hh_getR dX12_foretold_105 kf_X12_7 rf_128_0 ?_
        refine hh_iload dX12_foretold_108 rfl ?_
        refine hh_iconst dX12_foretold_110 (by decide) ?_
        refine hh_iadd dX12_foretold_111 q1 ?_
        refine hh_iald dX12_foretold_112 ra_129 q2 rfl ?_
        refine hh_iconst dX12_foretold_113 (by decide) ?_
        refine hh_icmp_ne (tgt := 215) dX12_foretold_114 (by decide) (fun c => ?_) (fun c => ?_)
        · replace h := h.1 c
          exact hh_forget [true, true, true, true, true, true, false, true, false, false, false] (w_X12_foretold_215 hk60 _ _ _ _ _ _ _ h)
        · replace h := h.2 c
          obtain ⟨⟨q1, q2, q3⟩, h⟩ := h
          refine hh_aload_n dX12_foretold_117 rfl ?_
          refine hh_getR dX12_foretold_118 kf_X12_7 rf_128_0 ?_
          refine hh_iload dX12_foretold_121 rfl ?_
          refine hh_iconst dX12_foretold_123 (by decide) ?_
          refine hh_iadd dX12_foretold_124 q1 ?_
          refine hh_iload dX12_foretold_125 rfl ?_
          refine hh_iadd dX12_foretold_127 q2 ?_
          refine hh_iald dX12_foretold_128 ra_129 q3 rfl ?_
          refine hh_if_gt (tgt := 135) dX12_foretold_129 (by decide) (fun c => ?_) (fun c => ?_)
          · replace h := h.1 c
            obtain ⟨⟨q1, q2, q3, q4, q5, q6, q7, q8, q9, q10, q11⟩, h⟩ := h
            refine hh_aload_n dX12_foretold_135 rfl ?_
            refine hh_getR dX12_foretold_136 kf_X12_7 rf_128_0 ?_
            refine hh_iload_n dX12_foretold_139 rfl ?_
            refine hh_iconst dX12_foretold_140 (by decide) ?_
            refine hh_iadd dX12_foretold_141 q1 ?_
            refine hh_iload dX12_foretold_142 rfl ?_
            refine hh_iadd dX12_foretold_144 q2 ?_
            refine hh_iald dX12_foretold_145 ra_129 q3 rfl ?_
            refine hh_i2l dX12_foretold_146 ?_
            refine hh_aload_n dX12_foretold_147 rfl ?_
            refine hh_getR dX12_foretold_148 kf_X12_7 rf_128_0 ?_
            refine hh_iload dX12_foretold_151 rfl ?_
            refine hh_iconst dX12_foretold_153 (by decide) ?_
            refine hh_iadd dX12_foretold_154 q4 ?_
            refine hh_iconst dX12_foretold_155 (by decide) ?_
            refine hh_iadd dX12_foretold_156 q5 ?_
            refine hh_iald dX12_foretold_157 ra_129 q6 rfl ?_
            refine hh_i2l dX12_foretold_158 ?_
            refine hh_lmul dX12_foretold_159 q7 ?_
            refine hh_aload_n dX12_foretold_160 rfl ?_
            refine hh_getR dX12_foretold_161 kf_X12_7 rf_128_0 ?_
            refine hh_iload dX12_foretold_164 rfl ?_
            refine hh_iconst dX12_foretold_166 (by decide) ?_
            refine hh_iadd dX12_foretold_167 q4 ?_
            refine hh_iload dX12_foretold_168 rfl ?_
            refine hh_iadd dX12_foretold_170 q8 ?_
            refine hh_iald dX12_foretold_171 ra_129 q9 rfl ?_
            refine hh_i2l dX12_foretold_172 ?_
            refine hh_ldiv dX12_foretold_173 q10 q11 ?_
            refine hh_lstore dX12_foretold_174 (by decide) rfl ?_
            refine hh_lload dX12_foretold_176 rfl ?_
            refine hh_lconst0 dX12_foretold_178 ?_
            refine hh_lcmp dX12_foretold_179 ?_
            refine hh_if_lt (tgt := 206) dX12_foretold_180 (by decide) (fun c => ?_) (fun c => ?_)
            · replace h := h.1 c
              exact hh_forget [true, true, true, true, true, false, false, true, false, true, false] (w_X12_foretold_206 hk60 _ _ _ _ _ _ _ h)
            · replace h := h.2 c
              refine hh_iload_n dX12_foretold_183 rfl ?_
              refine hh_if_ne (tgt := 198) dX12_foretold_184 (by decide) (fun c => ?_) (fun c => ?_)
              · replace h := h.1 c
                refine hh_lload dX12_foretold_198 rfl ?_
                refine hh_lload dX12_foretold_200 rfl ?_
                refine hh_lcmp dX12_foretold_202 ?_
                refine hh_if_le (tgt := 211) dX12_foretold_203 (by decide) (fun c => ?_) (fun c => ?_)
                · replace h := h.1 c
                  exact hh_forget [true, true, true, true, true, true, false, true, false, false, false] (w_X12_foretold_211 hk60 _ _ _ _ _ _ _ h)
                · replace h := h.2 c
                  exact hh_forget [true, true, true, true, true, false, false, true, false, true, false] (w_X12_foretold_206 hk60 _ _ _ _ _ _ _ h)
              · replace h := h.2 c
                refine hh_lload dX12_foretold_187 rfl ?_
                refine hh_lload dX12_foretold_189 rfl ?_
                refine hh_lcmp dX12_foretold_191 ?_
                refine hh_if_ge (tgt := 211) dX12_foretold_192 (by decide) (fun c => ?_) (fun c => ?_)
                · replace h := h.1 c
                  exact hh_forget [true, true, true, true, true, true, false, true, false, false, false] (w_X12_foretold_211 hk60 _ _ _ _ _ _ _ h)
                · replace h := h.2 c
                  refine hh_goto (tgt := 206) dX12_foretold_195 (by decide) ?_
                  exact hh_forget [true, true, true, true, true, false, false, true, false, true, false] (w_X12_foretold_206 hk60 _ _ _ _ _ _ _ h)
          · replace h := h.2 c
            refine hh_goto (tgt := 215) dX12_foretold_132 (by decide) ?_
            exact hh_forget [true, true, true, true, true, true, false, true, false, false, false] (w_X12_foretold_215 hk60 _ _ _ _ _ _ _ h)
theorem l_X12_foretold_60 {d : Nat} {Q : Int → hh_S → Prop} : ∀ (n : Nat) (x1 x2 x3 x4 x5 x7 : Int) (σ : hh_S), hh_lp6 (B_X12_foretold_60 d Q) n x1 x2 x3 x4 x5 x7 σ → hh_J (d + 1) hm_X12_foretold 60 [some (hh_R 128), some (hh_I x1), some (hh_I x2), some (hh_I x3), some (hh_I x4), some (hh_L x5), none, some (hh_I x7), none, none, none] [] σ Q := by
  intro n
  induction n with
  | zero => intro _ _ _ _ _ _ _ h; exact h.elim
  | succ n ih => intro x1 x2 x3 x4 x5 x7 σ h; exact w_X12_foretold_60 ih x1 x2 x3 x4 x5 x7 σ h
set_option maxRecDepth 20000 in
theorem w_X12_foretold {d : Nat} {a1 a2 : Int} {σ : hh_S} {Q : Int → hh_S → Prop} (h : P_X12_foretold d a1 a2 σ Q) : hh_J (d + 1) hm_X12_foretold 0 [some (hh_R 128), some (hh_I a1), some (hh_I a2), none, none, none, none, none, none, none, none] [] σ Q := by
  unfold P_X12_foretold at h
  refine hh_aload_n dX12_foretold_0 rfl ?_
  refine hh_iload_n dX12_foretold_1 rfl ?_
  refine hh_cV1 dX12_foretold_2 lk_X12_82 mo_X12_isMatter rc_128 (Nat.le_of_ble_eq_true rfl) h (fun r2 σ2 h => ?_)
  refine hh_if_eq (tgt := 17) dX12_foretold_5 (by decide) (fun c => ?_) (fun c => ?_)
  · replace h := h.1 c
    refine hh_ldc (n := -1000000001) dX12_foretold_17 kc_X12_72 (by decide) ?_
    exact hh_ireturn dX12_foretold_19 rfl h
  · replace h := h.2 c
    refine hh_iload_n dX12_foretold_8 rfl ?_
    refine hh_iconst dX12_foretold_9 (by decide) ?_
    refine hh_iconst dX12_foretold_10 (by decide) ?_
    refine hh_cS3 dX12_foretold_11 lk_X12_68 mo_X12_in (Nat.le_of_ble_eq_true rfl) h (fun r11 σ11 h => ?_)
    refine hh_if_ne (tgt := 20) dX12_foretold_14 (by decide) (fun c => ?_) (fun c => ?_)
    · replace h := h.1 c
      obtain ⟨⟨q1, q2, q3, q4⟩, h⟩ := h
      refine hh_bipush dX12_foretold_20 (by decide) ?_
      refine hh_bipush dX12_foretold_22 (by decide) ?_
      refine hh_iload_n dX12_foretold_24 rfl ?_
      refine hh_imul dX12_foretold_25 q1 ?_
      refine hh_iadd dX12_foretold_26 q2 ?_
      refine hh_istore_n dX12_foretold_27 (by decide) rfl ?_
      refine hh_aload_n dX12_foretold_28 rfl ?_
      refine hh_getR dX12_foretold_29 kf_X12_7 rf_128_0 ?_
      refine hh_iload_n dX12_foretold_32 rfl ?_
      refine hh_iconst dX12_foretold_33 (by decide) ?_
      refine hh_iadd dX12_foretold_34 q3 ?_
      refine hh_iald dX12_foretold_35 ra_129 q4 rfl ?_
      refine hh_istore dX12_foretold_36 (by decide) rfl ?_
      refine hh_iload dX12_foretold_38 rfl ?_
      refine hh_if_eq (tgt := 49) dX12_foretold_40 (by decide) (fun c => ?_) (fun c => ?_)
      · replace h := h.1 c
        refine hh_ldc (n := -1000000002) dX12_foretold_49 kc_X12_91 (by decide) ?_
        exact hh_ireturn dX12_foretold_51 rfl h
      · replace h := h.2 c
        refine hh_iload dX12_foretold_43 rfl ?_
        refine hh_iconst dX12_foretold_45 (by decide) ?_
        refine hh_icmp_ne (tgt := 52) dX12_foretold_46 (by decide) (fun c => ?_) (fun c => ?_)
        · replace h := h.1 c
          refine hh_ldc2 (n := -1) dX12_foretold_52 kc_X12_248 (by decide) ?_
          refine hh_lstore dX12_foretold_55 (by decide) rfl ?_
          refine hh_iconst dX12_foretold_57 (by decide) ?_
          refine hh_istore dX12_foretold_58 (by decide) rfl ?_
          obtain ⟨n, h⟩ := h
          exact hh_forget [true, true, true, true, true, true, false, true, false, false, false] (l_X12_foretold_60 n _ _ _ _ _ _ _ h)
        · replace h := h.2 c
          refine hh_ldc (n := -1000000002) dX12_foretold_49 kc_X12_91 (by decide) ?_
          exact hh_ireturn dX12_foretold_51 rfl h
    · replace h := h.2 c
      refine hh_ldc (n := -1000000001) dX12_foretold_17 kc_X12_72 (by decide) ?_
      exact hh_ireturn dX12_foretold_19 rfl h
theorem wp_X12_foretold {d : Nat} (a1 a2 : Int) {σ : hh_S} {Q : Int → hh_S → Prop} (h : hh_cs σ → hh_can a1 → hh_can a2 → P_X12_foretold d a1 a2 σ Q) : hh_Sp (d + 1) hm_X12_foretold [hh_R 128, hh_I a1, hh_I a2] σ Q :=
  hh_entry rfl (Nat.le_of_ble_eq_true rfl) rfl (fun hs hc => w_X12_foretold (h hs (hc _ (List.mem_of_getElem? (i := 1) rfl)) (hc _ (List.mem_of_getElem? (i := 2) rfl))))
def P_X12_task (d : Nat) (a1 a2 a3 : Int) (σ : hh_S) (Q : Int → hh_S → Prop) : Prop :=
  hh_Sp d hm_X12_isMatter [hh_R 128, hh_I a1] σ (fun r2 σ2 => (r2 = 0 → Q (-1000000001) σ2) ∧ (¬ r2 = 0 → hh_Sp d hm_X12_in [hh_I a2, hh_I 1, hh_I 999] σ2 (fun r13 σ13 => (r13 = 0 → Q (-1000000001) σ13) ∧ (¬ r13 = 0 → hh_Sp d hm_X12_in [hh_I a3, hh_I 0, hh_I 2] σ13 (fun r22 σ22 => (¬ r22 = 0 → (¬ σ22 129 11 = 6 → ((-2147483648 ≤ 3 * (σ22 129 11) ∧ 3 * (σ22 129 11) ≤ 2147483647) ∧ (-2147483648 ≤ 1822 + (3 * (σ22 129 11)) ∧ 1822 + (3 * (σ22 129 11)) ≤ 2147483647) ∧ (0 ≤ 1822 + (3 * (σ22 129 11)) ∧ 1822 + (3 * (σ22 129 11)) < 9100) ∧ (-2147483648 ≤ 1822 + (3 * (σ22 129 11)) + 1 ∧ 1822 + (3 * (σ22 129 11)) + 1 ≤ 2147483647) ∧ (0 ≤ 1822 + (3 * (σ22 129 11)) + 1 ∧ 1822 + (3 * (σ22 129 11)) + 1 < 9100) ∧ (-2147483648 ≤ 1822 + (3 * (σ22 129 11)) + 2 ∧ 1822 + (3 * (σ22 129 11)) + 2 ≤ 2147483647) ∧ (0 ≤ 1822 + (3 * (σ22 129 11)) + 2 ∧ 1822 + (3 * (σ22 129 11)) + 2 < 9100)) ∧ (∀ τ96 : hh_S, τ96 = (hh_up (hh_up (hh_up σ22 129 (1822 + (3 * (σ22 129 11))) a1) 129 (1822 + (3 * (σ22 129 11)) + 1) a2) 129 (1822 + (3 * (σ22 129 11)) + 2) a3) → ((-2147483648 ≤ τ96 129 11 + 1 ∧ τ96 129 11 + 1 ≤ 2147483647) ∧ (-2147483648 ≤ τ96 129 11 + 1 - 1 ∧ τ96 129 11 + 1 - 1 ≤ 2147483647)) ∧ (Q (τ96 129 11 + 1 - 1) (hh_up τ96 129 11 (τ96 129 11 + 1))))) ∧ (σ22 129 11 = 6 → Q (-1000000003) σ22)) ∧ (r22 = 0 → Q (-1000000001) σ22))))))
set_option maxRecDepth 20000 in
theorem w_X12_task {d : Nat} {a1 a2 a3 : Int} {σ : hh_S} {Q : Int → hh_S → Prop} (h : P_X12_task d a1 a2 a3 σ Q) : hh_J (d + 1) hm_X12_task 0 [some (hh_R 128), some (hh_I a1), some (hh_I a2), some (hh_I a3), none] [] σ Q := by
  unfold P_X12_task at h
  refine hh_aload_n dX12_task_0 rfl ?_
  refine hh_iload_n dX12_task_1 rfl ?_
  refine hh_cV1 dX12_task_2 lk_X12_82 mo_X12_isMatter rc_128 (Nat.le_of_ble_eq_true rfl) h (fun r2 σ2 h => ?_)
  refine hh_if_eq (tgt := 28) dX12_task_5 (by decide) (fun c => ?_) (fun c => ?_)
  · replace h := h.1 c
    refine hh_ldc (n := -1000000001) dX12_task_28 kc_X12_72 (by decide) ?_
    exact hh_ireturn dX12_task_30 rfl h
  · replace h := h.2 c
    refine hh_iload_n dX12_task_8 rfl ?_
    refine hh_iconst dX12_task_9 (by decide) ?_
    refine hh_sipush dX12_task_10 (by decide) ?_
    refine hh_cS3 dX12_task_13 lk_X12_68 mo_X12_in (Nat.le_of_ble_eq_true rfl) h (fun r13 σ13 h => ?_)
    refine hh_if_eq (tgt := 28) dX12_task_16 (by decide) (fun c => ?_) (fun c => ?_)
    · replace h := h.1 c
      refine hh_ldc (n := -1000000001) dX12_task_28 kc_X12_72 (by decide) ?_
      exact hh_ireturn dX12_task_30 rfl h
    · replace h := h.2 c
      refine hh_iload_n dX12_task_19 rfl ?_
      refine hh_iconst dX12_task_20 (by decide) ?_
      refine hh_iconst dX12_task_21 (by decide) ?_
      refine hh_cS3 dX12_task_22 lk_X12_68 mo_X12_in (Nat.le_of_ble_eq_true rfl) h (fun r22 σ22 h => ?_)
      refine hh_if_ne (tgt := 31) dX12_task_25 (by decide) (fun c => ?_) (fun c => ?_)
      · replace h := h.1 c
        refine hh_aload_n dX12_task_31 rfl ?_
        refine hh_getR dX12_task_32 kf_X12_7 rf_128_0 ?_
        refine hh_bipush dX12_task_35 (by decide) ?_
        refine hh_iald dX12_task_37 ra_129 (by decide) rfl ?_
        refine hh_bipush dX12_task_38 (by decide) ?_
        refine hh_icmp_ne (tgt := 46) dX12_task_40 (by decide) (fun c => ?_) (fun c => ?_)
        · replace h := h.1 c
          obtain ⟨⟨q1, q2, q3, q4, q5, q6, q7⟩, h⟩ := h
          refine hh_sipush dX12_task_46 (by decide) ?_
          refine hh_iconst dX12_task_49 (by decide) ?_
          refine hh_aload_n dX12_task_50 rfl ?_
          refine hh_getR dX12_task_51 kf_X12_7 rf_128_0 ?_
          refine hh_bipush dX12_task_54 (by decide) ?_
          refine hh_iald dX12_task_56 ra_129 (by decide) rfl ?_
          refine hh_imul dX12_task_57 q1 ?_
          refine hh_iadd dX12_task_58 q2 ?_
          refine hh_istore dX12_task_59 (by decide) rfl ?_
          refine hh_aload_n dX12_task_61 rfl ?_
          refine hh_getR dX12_task_62 kf_X12_7 rf_128_0 ?_
          refine hh_iload dX12_task_65 rfl ?_
          refine hh_iload_n dX12_task_67 rfl ?_
          refine hh_iast dX12_task_68 ra_129 q3 ?_
          refine hh_aload_n dX12_task_69 rfl ?_
          refine hh_getR dX12_task_70 kf_X12_7 rf_128_0 ?_
          refine hh_iload dX12_task_73 rfl ?_
          refine hh_iconst dX12_task_75 (by decide) ?_
          refine hh_iadd dX12_task_76 q4 ?_
          refine hh_iload_n dX12_task_77 rfl ?_
          refine hh_iast dX12_task_78 ra_129 q5 ?_
          refine hh_aload_n dX12_task_79 rfl ?_
          refine hh_getR dX12_task_80 kf_X12_7 rf_128_0 ?_
          refine hh_iload dX12_task_83 rfl ?_
          refine hh_iconst dX12_task_85 (by decide) ?_
          refine hh_iadd dX12_task_86 q6 ?_
          refine hh_iload_n dX12_task_87 rfl ?_
          refine hh_iast dX12_task_88 ra_129 q7 ?_
          refine hh_aload_n dX12_task_89 rfl ?_
          refine hh_getR dX12_task_90 kf_X12_7 rf_128_0 ?_
          refine hh_bipush dX12_task_93 (by decide) ?_
          refine hh_dup2 dX12_task_95 (fun _ => rfl) (fun _ => rfl) ?_
          replace h := h _ rfl
          obtain ⟨⟨q1, q2⟩, h⟩ := h
          refine hh_iald dX12_task_96 ra_129 (by decide) rfl ?_
          refine hh_iconst dX12_task_97 (by decide) ?_
          refine hh_iadd dX12_task_98 q1 ?_
          refine hh_iast dX12_task_99 ra_129 (by decide) ?_
          refine hh_aload_n dX12_task_100 rfl ?_
          refine hh_getR dX12_task_101 kf_X12_7 rf_128_0 ?_
          refine hh_bipush dX12_task_104 (by decide) ?_
          refine hh_iald dX12_task_106 ra_129 (by decide) rfl ?_
          refine hh_iconst dX12_task_107 (by decide) ?_
          refine hh_isub dX12_task_108 q2 ?_
          exact hh_ireturn dX12_task_109 rfl h
        · replace h := h.2 c
          refine hh_ldc (n := -1000000003) dX12_task_43 kc_X12_73 (by decide) ?_
          exact hh_ireturn dX12_task_45 rfl h
      · replace h := h.2 c
        refine hh_ldc (n := -1000000001) dX12_task_28 kc_X12_72 (by decide) ?_
        exact hh_ireturn dX12_task_30 rfl h
theorem wp_X12_task {d : Nat} (a1 a2 a3 : Int) {σ : hh_S} {Q : Int → hh_S → Prop} (h : hh_cs σ → hh_can a1 → hh_can a2 → hh_can a3 → P_X12_task d a1 a2 a3 σ Q) : hh_Sp (d + 1) hm_X12_task [hh_R 128, hh_I a1, hh_I a2, hh_I a3] σ Q :=
  hh_entry rfl (Nat.le_of_ble_eq_true rfl) rfl (fun hs hc => w_X12_task (h hs (hc _ (List.mem_of_getElem? (i := 1) rfl)) (hc _ (List.mem_of_getElem? (i := 2) rfl)) (hc _ (List.mem_of_getElem? (i := 3) rfl))))
def P_X12_clear (d : Nat) (σ : hh_S) (Q : Int → hh_S → Prop) : Prop :=
  Q (σ 129 11) (hh_up σ 129 11 0)
set_option maxRecDepth 20000 in
theorem w_X12_clear {d : Nat} {σ : hh_S} {Q : Int → hh_S → Prop} (h : P_X12_clear d σ Q) : hh_J (d + 1) hm_X12_clear 0 [some (hh_R 128), none] [] σ Q := by
  unfold P_X12_clear at h
  refine hh_aload_n dX12_clear_0 rfl ?_
  refine hh_getR dX12_clear_1 kf_X12_7 rf_128_0 ?_
  refine hh_bipush dX12_clear_4 (by decide) ?_
  refine hh_iald dX12_clear_6 ra_129 (by decide) rfl ?_
  refine hh_istore_n dX12_clear_7 (by decide) rfl ?_
  refine hh_aload_n dX12_clear_8 rfl ?_
  refine hh_getR dX12_clear_9 kf_X12_7 rf_128_0 ?_
  refine hh_bipush dX12_clear_12 (by decide) ?_
  refine hh_iconst dX12_clear_14 (by decide) ?_
  refine hh_iast dX12_clear_15 ra_129 (by decide) ?_
  refine hh_iload_n dX12_clear_16 rfl ?_
  exact hh_ireturn dX12_clear_17 rfl h
theorem wp_X12_clear {d : Nat} {σ : hh_S} {Q : Int → hh_S → Prop} (h : hh_cs σ → P_X12_clear d σ Q) : hh_Sp (d + 1) hm_X12_clear [hh_R 128] σ Q :=
  hh_entry rfl (Nat.le_of_ble_eq_true rfl) rfl (fun hs hc => w_X12_clear (h hs))
def P_X12_free (d : Nat) (a1 a2 : Int) (σ : hh_S) (Q : Int → hh_S → Prop) : Prop :=
  hh_Sp d hm_X12_isPerson [hh_R 128, hh_I a1] σ (fun r2 σ2 => (r2 = 0 → Q (-1000000001) σ2) ∧ (¬ r2 = 0 → hh_Sp d hm_X12_in [hh_I a2, hh_I 0, hh_I 9999] σ2 (fun r13 σ13 => (¬ r13 = 0 → ((-2147483648 ≤ 3 * a1 ∧ 3 * a1 ≤ 2147483647) ∧ (-2147483648 ≤ 20 + 3 * a1 ∧ 20 + 3 * a1 ≤ 2147483647) ∧ (-2147483648 ≤ 20 + 3 * a1 + 2 ∧ 20 + 3 * a1 + 2 ≤ 2147483647) ∧ (0 ≤ 20 + 3 * a1 + 2 ∧ 20 + 3 * a1 + 2 < 9100)) ∧ (Q (σ13 129 (20 + 3 * a1 + 2)) (hh_up σ13 129 (20 + 3 * a1 + 2) a2))) ∧ (r13 = 0 → Q (-1000000001) σ13))))
set_option maxRecDepth 20000 in
theorem w_X12_free {d : Nat} {a1 a2 : Int} {σ : hh_S} {Q : Int → hh_S → Prop} (h : P_X12_free d a1 a2 σ Q) : hh_J (d + 1) hm_X12_free 0 [some (hh_R 128), some (hh_I a1), some (hh_I a2), none] [] σ Q := by
  unfold P_X12_free at h
  refine hh_aload_n dX12_free_0 rfl ?_
  refine hh_iload_n dX12_free_1 rfl ?_
  refine hh_cV1 dX12_free_2 lk_X12_74 mo_X12_isPerson rc_128 (Nat.le_of_ble_eq_true rfl) h (fun r2 σ2 h => ?_)
  refine hh_if_eq (tgt := 19) dX12_free_5 (by decide) (fun c => ?_) (fun c => ?_)
  · replace h := h.1 c
    refine hh_ldc (n := -1000000001) dX12_free_19 kc_X12_72 (by decide) ?_
    exact hh_ireturn dX12_free_21 rfl h
  · replace h := h.2 c
    refine hh_iload_n dX12_free_8 rfl ?_
    refine hh_iconst dX12_free_9 (by decide) ?_
    refine hh_sipush dX12_free_10 (by decide) ?_
    refine hh_cS3 dX12_free_13 lk_X12_68 mo_X12_in (Nat.le_of_ble_eq_true rfl) h (fun r13 σ13 h => ?_)
    refine hh_if_ne (tgt := 22) dX12_free_16 (by decide) (fun c => ?_) (fun c => ?_)
    · replace h := h.1 c
      obtain ⟨⟨q1, q2, q3, q4⟩, h⟩ := h
      refine hh_aload_n dX12_free_22 rfl ?_
      refine hh_getR dX12_free_23 kf_X12_7 rf_128_0 ?_
      refine hh_bipush dX12_free_26 (by decide) ?_
      refine hh_iconst dX12_free_28 (by decide) ?_
      refine hh_iload_n dX12_free_29 rfl ?_
      refine hh_imul dX12_free_30 q1 ?_
      refine hh_iadd dX12_free_31 q2 ?_
      refine hh_iconst dX12_free_32 (by decide) ?_
      refine hh_iadd dX12_free_33 q3 ?_
      refine hh_iald dX12_free_34 ra_129 q4 rfl ?_
      refine hh_istore_n dX12_free_35 (by decide) rfl ?_
      refine hh_aload_n dX12_free_36 rfl ?_
      refine hh_getR dX12_free_37 kf_X12_7 rf_128_0 ?_
      refine hh_bipush dX12_free_40 (by decide) ?_
      refine hh_iconst dX12_free_42 (by decide) ?_
      refine hh_iload_n dX12_free_43 rfl ?_
      refine hh_imul dX12_free_44 q1 ?_
      refine hh_iadd dX12_free_45 q2 ?_
      refine hh_iconst dX12_free_46 (by decide) ?_
      refine hh_iadd dX12_free_47 q3 ?_
      refine hh_iload_n dX12_free_48 rfl ?_
      refine hh_iast dX12_free_49 ra_129 q4 ?_
      refine hh_iload_n dX12_free_50 rfl ?_
      exact hh_ireturn dX12_free_51 rfl h
    · replace h := h.2 c
      refine hh_ldc (n := -1000000001) dX12_free_19 kc_X12_72 (by decide) ?_
      exact hh_ireturn dX12_free_21 rfl h
theorem wp_X12_free {d : Nat} (a1 a2 : Int) {σ : hh_S} {Q : Int → hh_S → Prop} (h : hh_cs σ → hh_can a1 → hh_can a2 → P_X12_free d a1 a2 σ Q) : hh_Sp (d + 1) hm_X12_free [hh_R 128, hh_I a1, hh_I a2] σ Q :=
  hh_entry rfl (Nat.le_of_ble_eq_true rfl) rfl (fun hs hc => w_X12_free (h hs (hc _ (List.mem_of_getElem? (i := 1) rfl)) (hc _ (List.mem_of_getElem? (i := 2) rfl))))
def B_X12_lay_43 (d : Nat) (Q : Int → hh_S → Prop) (k43 : Int → Int → Int → hh_S → Prop) (x1 x2 x3 : Int) (σ : hh_S) : Prop :=
  (x2 ≤ x3 → Q x2 σ) ∧ (¬ x2 ≤ x3 → ((-2147483648 ≤ 3 * x3 ∧ 3 * x3 ≤ 2147483647) ∧ (-2147483648 ≤ 20 + 3 * x3 ∧ 20 + 3 * x3 ≤ 2147483647) ∧ (-2147483648 ≤ 20 + 3 * x3 + 2 ∧ 20 + 3 * x3 + 2 ≤ 2147483647) ∧ (-2147483648 ≤ 20 * x1 ∧ 20 * x1 ≤ 2147483647) ∧ (-2147483648 ≤ 20 * x1 + x3 ∧ 20 * x1 + x3 ≤ 2147483647) ∧ (0 ≤ 20 * x1 + x3 ∧ 20 * x1 + x3 < 40)) ∧ (hh_Sp d hm_X12_more [hh_I 0, hh_I (σ 145 (20 * x1 + x3))] σ (fun r75 σ75 => hh_Sp d hm_X12_less [hh_I 9999, hh_I r75] σ75 (fun r78 σ78 => ((0 ≤ 20 + 3 * x3 + 2 ∧ 20 + 3 * x3 + 2 < 9100) ∧ (-2147483648 ≤ x3 + 1 ∧ x3 + 1 ≤ 2147483647)) ∧ (k43 x1 x2 (x3 + 1) (hh_up σ78 129 (20 + 3 * x3 + 2) r78))))))
def P_X12_lay (d : Nat) (a1 : Int) (σ : hh_S) (Q : Int → hh_S → Prop) : Prop :=
  hh_Sp d hm_X12_in [hh_I a1, hh_I 0, hh_I 1] σ (fun r3 σ3 => (¬ r3 = 0 → ((0 ≤ a1 ∧ a1 < 2)) ∧ ((¬ σ3 146 a1 = (-1) → ((0 ≤ a1 ∧ a1 < 2)) ∧ (hh_Sp d hm_X12_less [hh_I (σ3 146 a1), hh_I (σ3 129 4)] σ3 (fun r37 σ37 => ∃ n, hh_lp3 (B_X12_lay_43 d Q) n a1 r37 0 σ37))) ∧ (σ3 146 a1 = (-1) → Q (-1000000011) σ3))) ∧ (r3 = 0 → Q (-1000000001) σ3))
set_option maxRecDepth 20000 in
theorem w_X12_lay_43 {d : Nat} {Q : Int → hh_S → Prop} {k43 : Int → Int → Int → hh_S → Prop} (hk43 : ∀ (x1 x2 x3 : Int) (σ : hh_S), k43 x1 x2 x3 σ → hh_J (d + 1) hm_X12_lay 43 [some (hh_R 128), some (hh_I x1), some (hh_I x2), some (hh_I x3)] [] σ Q) (x1 x2 x3 : Int) (σ : hh_S) (h : B_X12_lay_43 d Q k43 x1 x2 x3 σ) : hh_J (d + 1) hm_X12_lay 43 [some (hh_R 128), some (hh_I x1), some (hh_I x2), some (hh_I x3)] [] σ Q := by
  unfold B_X12_lay_43 at h
  refine hh_iload_n dX12_lay_43 rfl ?_
  refine hh_iload_n dX12_lay_44 rfl ?_
  refine hh_icmp_ge (tgt := 88) dX12_lay_45 (by decide) (fun c => ?_) (fun c => ?_)
  · replace h := h.1 c
    refine hh_iload_n dX12_lay_88 rfl ?_
    exact hh_ireturn dX12_lay_89 rfl h
  · replace h := h.2 c
    obtain ⟨⟨q1, q2, q3, q4, q5, q6⟩, h⟩ := h
    refine hh_aload_n dX12_lay_48 rfl ?_
    refine hh_getR dX12_lay_49 kf_X12_7 rf_128_0 ?_
    refine hh_bipush dX12_lay_52 (by decide) ?_
    refine hh_iconst dX12_lay_54 (by decide) ?_
    refine hh_iload_n dX12_lay_55 rfl ?_
    refine hh_imul dX12_lay_56 q1 ?_
    refine hh_iadd dX12_lay_57 q2 ?_
    refine hh_iconst dX12_lay_58 (by decide) ?_
    refine hh_iadd dX12_lay_59 q3 ?_
    refine hh_sipush dX12_lay_60 (by decide) ?_
    refine hh_iconst dX12_lay_63 (by decide) ?_
    refine hh_aload_n dX12_lay_64 rfl ?_
    refine hh_getR dX12_lay_65 kf_X12_58 rf_128_32 ?_
    refine hh_bipush dX12_lay_68 (by decide) ?_
    refine hh_iload_n dX12_lay_70 rfl ?_
    refine hh_imul dX12_lay_71 q4 ?_
    refine hh_iload_n dX12_lay_72 rfl ?_
    refine hh_iadd dX12_lay_73 q5 ?_
    refine hh_iald dX12_lay_74 ra_145 q6 rfl ?_
    refine hh_cS2 dX12_lay_75 lk_X12_105 mo_X12_more (Nat.le_of_ble_eq_true rfl) h (fun r75 σ75 h => ?_)
    refine hh_cS2 dX12_lay_78 lk_X12_218 mo_X12_less (Nat.le_of_ble_eq_true rfl) h (fun r78 σ78 h => ?_)
    obtain ⟨⟨q1, q2⟩, h⟩ := h
    refine hh_iast dX12_lay_81 ra_129 q1 ?_
    refine hh_iinc dX12_lay_82 (by decide) rfl rfl q2 ?_
    refine hh_goto (tgt := 43) dX12_lay_85 (by decide) ?_
    exact hh_forget [true, true, true, true] (hk43 _ _ _ _ h)
theorem l_X12_lay_43 {d : Nat} {Q : Int → hh_S → Prop} : ∀ (n : Nat) (x1 x2 x3 : Int) (σ : hh_S), hh_lp3 (B_X12_lay_43 d Q) n x1 x2 x3 σ → hh_J (d + 1) hm_X12_lay 43 [some (hh_R 128), some (hh_I x1), some (hh_I x2), some (hh_I x3)] [] σ Q := by
  intro n
  induction n with
  | zero => intro _ _ _ _ h; exact h.elim
  | succ n ih => intro x1 x2 x3 σ h; exact w_X12_lay_43 ih x1 x2 x3 σ h
set_option maxRecDepth 20000 in
theorem w_X12_lay {d : Nat} {a1 : Int} {σ : hh_S} {Q : Int → hh_S → Prop} (h : P_X12_lay d a1 σ Q) : hh_J (d + 1) hm_X12_lay 0 [some (hh_R 128), some (hh_I a1), none, none] [] σ Q := by
  unfold P_X12_lay at h
  refine hh_iload_n dX12_lay_0 rfl ?_
  refine hh_iconst dX12_lay_1 (by decide) ?_
  refine hh_iconst dX12_lay_2 (by decide) ?_
  refine hh_cS3 dX12_lay_3 lk_X12_68 mo_X12_in (Nat.le_of_ble_eq_true rfl) h (fun r3 σ3 h => ?_)
  refine hh_if_ne (tgt := 12) dX12_lay_6 (by decide) (fun c => ?_) (fun c => ?_)
  · replace h := h.1 c
    obtain ⟨q1, h⟩ := h
    refine hh_aload_n dX12_lay_12 rfl ?_
    refine hh_getR dX12_lay_13 kf_X12_61 rf_128_33 ?_
    refine hh_iload_n dX12_lay_16 rfl ?_
    refine hh_iald dX12_lay_17 ra_146 q1 rfl ?_
    refine hh_iconst dX12_lay_18 (by decide) ?_
    refine hh_icmp_ne (tgt := 25) dX12_lay_19 (by decide) (fun c => ?_) (fun c => ?_)
    · replace h := h.1 c
      obtain ⟨q1, h⟩ := h
      refine hh_aload_n dX12_lay_25 rfl ?_
      refine hh_getR dX12_lay_26 kf_X12_61 rf_128_33 ?_
      refine hh_iload_n dX12_lay_29 rfl ?_
      refine hh_iald dX12_lay_30 ra_146 q1 rfl ?_
      refine hh_aload_n dX12_lay_31 rfl ?_
      refine hh_getR dX12_lay_32 kf_X12_7 rf_128_0 ?_
      refine hh_iconst dX12_lay_35 (by decide) ?_
      refine hh_iald dX12_lay_36 ra_129 (by decide) rfl ?_
      refine hh_cS2 dX12_lay_37 lk_X12_218 mo_X12_less (Nat.le_of_ble_eq_true rfl) h (fun r37 σ37 h => ?_)
      refine hh_istore_n dX12_lay_40 (by decide) rfl ?_
      refine hh_iconst dX12_lay_41 (by decide) ?_
      refine hh_istore_n dX12_lay_42 (by decide) rfl ?_
      obtain ⟨n, h⟩ := h
      exact hh_forget [true, true, true, true] (l_X12_lay_43 n _ _ _ _ h)
    · replace h := h.2 c
      refine hh_ldc (n := -1000000011) dX12_lay_22 kc_X12_253 (by decide) ?_
      exact hh_ireturn dX12_lay_24 rfl h
  · replace h := h.2 c
    refine hh_ldc (n := -1000000001) dX12_lay_9 kc_X12_72 (by decide) ?_
    exact hh_ireturn dX12_lay_11 rfl h
theorem wp_X12_lay {d : Nat} (a1 : Int) {σ : hh_S} {Q : Int → hh_S → Prop} (h : hh_cs σ → hh_can a1 → P_X12_lay d a1 σ Q) : hh_Sp (d + 1) hm_X12_lay [hh_R 128, hh_I a1] σ Q :=
  hh_entry rfl (Nat.le_of_ble_eq_true rfl) rfl (fun hs hc => w_X12_lay (h hs (hc _ (List.mem_of_getElem? (i := 1) rfl))))
def P_X12_costOf (d : Nat) (a1 a2 : Int) (σ : hh_S) (Q : Int → hh_S → Prop) : Prop :=
  ((-2147483648 ≤ 3 * a1 ∧ 3 * a1 ≤ 2147483647) ∧ (-2147483648 ≤ 1822 + 3 * a1 ∧ 1822 + 3 * a1 ≤ 2147483647) ∧ (-2147483648 ≤ 1822 + 3 * a1 + 1 ∧ 1822 + 3 * a1 + 1 ≤ 2147483647) ∧ (0 ≤ 1822 + 3 * a1 + 1 ∧ 1822 + 3 * a1 + 1 < 9100) ∧ (-2147483648 ≤ 3 * a2 ∧ 3 * a2 ≤ 2147483647) ∧ (-2147483648 ≤ 20 + 3 * a2 ∧ 20 + 3 * a2 ≤ 2147483647) ∧ (-2147483648 ≤ 20 + 3 * a2 + 1 ∧ 20 + 3 * a2 + 1 ≤ 2147483647) ∧ (0 ≤ 20 + 3 * a2 + 1 ∧ 20 + 3 * a2 + 1 < 9100) ∧ (-2147483648 ≤ (σ 129 (1822 + 3 * a1 + 1)) * (σ 129 (20 + 3 * a2 + 1)) ∧ (σ 129 (1822 + 3 * a1 + 1)) * (σ 129 (20 + 3 * a2 + 1)) ≤ 2147483647) ∧ 0 ≤ (σ 129 (1822 + 3 * a1 + 1)) * (σ 129 (20 + 3 * a2 + 1))) ∧ (Q (((σ 129 (1822 + 3 * a1 + 1)) * (σ 129 (20 + 3 * a2 + 1))) / 10) σ)
set_option maxRecDepth 20000 in
theorem w_X12_costOf {d : Nat} {a1 a2 : Int} {σ : hh_S} {Q : Int → hh_S → Prop} (h : P_X12_costOf d a1 a2 σ Q) : hh_J (d + 1) hm_X12_costOf 0 [some (hh_R 128), some (hh_I a1), some (hh_I a2)] [] σ Q := by
  unfold P_X12_costOf at h
  obtain ⟨⟨q1, q2, q3, q4, q5, q6, q7, q8, q9, q10⟩, h⟩ := h
  refine hh_aload_n dX12_costOf_0 rfl ?_
  refine hh_getR dX12_costOf_1 kf_X12_7 rf_128_0 ?_
  refine hh_sipush dX12_costOf_4 (by decide) ?_
  refine hh_iconst dX12_costOf_7 (by decide) ?_
  refine hh_iload_n dX12_costOf_8 rfl ?_
  refine hh_imul dX12_costOf_9 q1 ?_
  refine hh_iadd dX12_costOf_10 q2 ?_
  refine hh_iconst dX12_costOf_11 (by decide) ?_
  refine hh_iadd dX12_costOf_12 q3 ?_
  refine hh_iald dX12_costOf_13 ra_129 q4 rfl ?_
  refine hh_aload_n dX12_costOf_14 rfl ?_
  refine hh_getR dX12_costOf_15 kf_X12_7 rf_128_0 ?_
  refine hh_bipush dX12_costOf_18 (by decide) ?_
  refine hh_iconst dX12_costOf_20 (by decide) ?_
  refine hh_iload_n dX12_costOf_21 rfl ?_
  refine hh_imul dX12_costOf_22 q5 ?_
  refine hh_iadd dX12_costOf_23 q6 ?_
  refine hh_iconst dX12_costOf_24 (by decide) ?_
  refine hh_iadd dX12_costOf_25 q7 ?_
  refine hh_iald dX12_costOf_26 ra_129 q8 rfl ?_
  refine hh_imul dX12_costOf_27 q9 ?_
  refine hh_bipush dX12_costOf_28 (by decide) ?_
  refine hh_idiv dX12_costOf_30 q10 (by decide) ?_
  exact hh_ireturn dX12_costOf_31 rfl h
theorem wp_X12_costOf {d : Nat} (a1 a2 : Int) {σ : hh_S} {Q : Int → hh_S → Prop} (h : hh_cs σ → hh_can a1 → hh_can a2 → P_X12_costOf d a1 a2 σ Q) : hh_Sp (d + 1) hm_X12_costOf [hh_R 128, hh_I a1, hh_I a2] σ Q :=
  hh_entry rfl (Nat.le_of_ble_eq_true rfl) rfl (fun hs hc => w_X12_costOf (h hs (hc _ (List.mem_of_getElem? (i := 1) rfl)) (hc _ (List.mem_of_getElem? (i := 2) rfl))))
def B_X12_may_61 (d : Nat) (Q : Int → hh_S → Prop) (x1 x2 s0 : Int) (σ : hh_S) : Prop :=
  (s0 = 0 → Q 0 σ) ∧ (¬ s0 = 0 → ((-2147483648 ≤ 3 * x1 ∧ 3 * x1 ≤ 2147483647) ∧ (-2147483648 ≤ 1822 + 3 * x1 ∧ 1822 + 3 * x1 ≤ 2147483647) ∧ (0 ≤ 1822 + 3 * x1 ∧ 1822 + 3 * x1 < 9100) ∧ (-2147483648 ≤ 20 * (σ 129 (1822 + 3 * x1)) ∧ 20 * (σ 129 (1822 + 3 * x1)) ≤ 2147483647) ∧ (-2147483648 ≤ 50 + (20 * (σ 129 (1822 + 3 * x1))) ∧ 50 + (20 * (σ 129 (1822 + 3 * x1))) ≤ 2147483647) ∧ (-2147483648 ≤ 50 + (20 * (σ 129 (1822 + 3 * x1))) + 17 ∧ 50 + (20 * (σ 129 (1822 + 3 * x1))) + 17 ≤ 2147483647) ∧ (0 ≤ 50 + (20 * (σ 129 (1822 + 3 * x1))) + 17 ∧ 50 + (20 * (σ 129 (1822 + 3 * x1))) + 17 < 9100)) ∧ ((¬ hh_and (hh_shr (σ 129 (50 + (20 * (σ 129 (1822 + 3 * x1))) + 17)) x2) 1 = 0 → Q 0 σ) ∧ (hh_and (hh_shr (σ 129 (50 + (20 * (σ 129 (1822 + 3 * x1))) + 17)) x2) 1 = 0 → ((0 ≤ x2 ∧ x2 < 8) ∧ (-2147483648 ≤ 3 * x1 ∧ 3 * x1 ≤ 2147483647) ∧ (-2147483648 ≤ 1822 + 3 * x1 ∧ 1822 + 3 * x1 ≤ 2147483647) ∧ (-2147483648 ≤ 1822 + 3 * x1 + 1 ∧ 1822 + 3 * x1 + 1 ≤ 2147483647) ∧ (0 ≤ 1822 + 3 * x1 + 1 ∧ 1822 + 3 * x1 + 1 < 9100)) ∧ ((σ 143 x2 < σ 129 (1822 + 3 * x1 + 1) → Q 0 σ) ∧ (¬ σ 143 x2 < σ 129 (1822 + 3 * x1 + 1) → Q 1 σ)))))
def B_X12_may_60 (d : Nat) (Q : Int → hh_S → Prop) (x1 x2 : Int) (σ : hh_S) : Prop :=
  B_X12_may_61 d Q x1 x2 0 σ
def B_X12_may_56 (d : Nat) (Q : Int → hh_S → Prop) (x1 x2 : Int) (σ : hh_S) : Prop :=
  B_X12_may_61 d Q x1 x2 1 σ
def P_X12_may (d : Nat) (a1 a2 : Int) (σ : hh_S) (Q : Int → hh_S → Prop) : Prop :=
  ((-2147483648 ≤ 3 * a2 ∧ 3 * a2 ≤ 2147483647) ∧ (-2147483648 ≤ 20 + 3 * a2 ∧ 20 + 3 * a2 ≤ 2147483647) ∧ (0 ≤ 20 + 3 * a2 ∧ 20 + 3 * a2 < 9100) ∧ (-2147483648 ≤ 3 * a1 ∧ 3 * a1 ≤ 2147483647) ∧ (-2147483648 ≤ 1822 + 3 * a1 ∧ 1822 + 3 * a1 ≤ 2147483647) ∧ (-2147483648 ≤ 1822 + 3 * a1 + 2 ∧ 1822 + 3 * a1 + 2 ≤ 2147483647) ∧ (0 ≤ 1822 + 3 * a1 + 2 ∧ 1822 + 3 * a1 + 2 < 9100)) ∧ ((σ 129 (1822 + 3 * a1 + 2) = 0 → B_X12_may_56 d Q a1 a2 σ) ∧ (¬ σ 129 (1822 + 3 * a1 + 2) = 0 → (¬ σ 129 (1822 + 3 * a1 + 2) = 1 → (¬ σ 129 (20 + 3 * a2) = 2 → B_X12_may_60 d Q a1 a2 σ) ∧ (σ 129 (20 + 3 * a2) = 2 → B_X12_may_56 d Q a1 a2 σ)) ∧ (σ 129 (1822 + 3 * a1 + 2) = 1 → hh_Sp d hm_X12_in [hh_I (σ 129 (20 + 3 * a2)), hh_I 1, hh_I 2] σ (fun r42 σ42 => (r42 = 0 → B_X12_may_60 d Q a1 a2 σ42) ∧ (¬ r42 = 0 → B_X12_may_56 d Q a1 a2 σ42)))))
set_option maxRecDepth 20000 in
theorem w_X12_may_61 {d : Nat} {Q : Int → hh_S → Prop} (x1 x2 s0 : Int) (σ : hh_S) (h : B_X12_may_61 d Q x1 x2 s0 σ) : hh_J (d + 1) hm_X12_may 61 [some (hh_R 128), some (hh_I x1), some (hh_I x2), none, none, none] [hh_I s0] σ Q := by
  unfold B_X12_may_61 at h
  refine hh_istore dX12_may_61 (by decide) rfl ?_
  refine hh_iload dX12_may_63 rfl ?_
  refine hh_if_eq (tgt := 128) dX12_may_65 (by decide) (fun c => ?_) (fun c => ?_)
  · replace h := h.1 c
    refine hh_iconst dX12_may_128 (by decide) ?_
    exact hh_zreturn dX12_may_129 rfl (by decide) h
  · replace h := h.2 c
    obtain ⟨⟨q1, q2, q3, q4, q5, q6, q7⟩, h⟩ := h
    refine hh_aload_n dX12_may_68 rfl ?_
    refine hh_getR dX12_may_69 kf_X12_7 rf_128_0 ?_
    refine hh_bipush dX12_may_72 (by decide) ?_
    refine hh_bipush dX12_may_74 (by decide) ?_
    refine hh_aload_n dX12_may_76 rfl ?_
    refine hh_getR dX12_may_77 kf_X12_7 rf_128_0 ?_
    refine hh_sipush dX12_may_80 (by decide) ?_
    refine hh_iconst dX12_may_83 (by decide) ?_
    refine hh_iload_n dX12_may_84 rfl ?_
    refine hh_imul dX12_may_85 q1 ?_
    refine hh_iadd dX12_may_86 q2 ?_
    refine hh_iald dX12_may_87 ra_129 q3 rfl ?_
    refine hh_imul dX12_may_88 q4 ?_
    refine hh_iadd dX12_may_89 q5 ?_
    refine hh_bipush dX12_may_90 (by decide) ?_
    refine hh_iadd dX12_may_92 q6 ?_
    refine hh_iald dX12_may_93 ra_129 q7 rfl ?_
    refine hh_iload_n dX12_may_94 rfl ?_
    refine hh_ishr dX12_may_95 ?_
    refine hh_iconst dX12_may_96 (by decide) ?_
    refine hh_iand dX12_may_97 ?_
    refine hh_if_ne (tgt := 128) dX12_may_98 (by decide) (fun c => ?_) (fun c => ?_)
    · replace h := h.1 c
      refine hh_iconst dX12_may_128 (by decide) ?_
      exact hh_zreturn dX12_may_129 rfl (by decide) h
    · replace h := h.2 c
      obtain ⟨⟨q1, q2, q3, q4, q5⟩, h⟩ := h
      refine hh_aload_n dX12_may_101 rfl ?_
      refine hh_getR dX12_may_102 kf_X12_52 rf_128_28 ?_
      refine hh_iload_n dX12_may_105 rfl ?_
      refine hh_iald dX12_may_106 ra_143 q1 rfl ?_
      refine hh_aload_n dX12_may_107 rfl ?_
      refine hh_getR dX12_may_108 kf_X12_7 rf_128_0 ?_
      refine hh_sipush dX12_may_111 (by decide) ?_
      refine hh_iconst dX12_may_114 (by decide) ?_
      refine hh_iload_n dX12_may_115 rfl ?_
      refine hh_imul dX12_may_116 q2 ?_
      refine hh_iadd dX12_may_117 q3 ?_
      refine hh_iconst dX12_may_118 (by decide) ?_
      refine hh_iadd dX12_may_119 q4 ?_
      refine hh_iald dX12_may_120 ra_129 q5 rfl ?_
      refine hh_icmp_lt (tgt := 128) dX12_may_121 (by decide) (fun c => ?_) (fun c => ?_)
      · replace h := h.1 c
        refine hh_iconst dX12_may_128 (by decide) ?_
        exact hh_zreturn dX12_may_129 rfl (by decide) h
      · replace h := h.2 c
        refine hh_iconst dX12_may_124 (by decide) ?_
        refine hh_goto (tgt := 129) dX12_may_125 (by decide) ?_
        exact hh_zreturn dX12_may_129 rfl (by decide) h
set_option maxRecDepth 20000 in
theorem w_X12_may_60 {d : Nat} {Q : Int → hh_S → Prop} (x1 x2 : Int) (σ : hh_S) (h : B_X12_may_60 d Q x1 x2 σ) : hh_J (d + 1) hm_X12_may 60 [some (hh_R 128), some (hh_I x1), some (hh_I x2), none, none, none] [] σ Q := by
  unfold B_X12_may_60 at h
  refine hh_iconst dX12_may_60 (by decide) ?_
  exact hh_forget [true, true, true, false, false, false] (w_X12_may_61 _ _ _ _ h)
set_option maxRecDepth 20000 in
theorem w_X12_may_56 {d : Nat} {Q : Int → hh_S → Prop} (x1 x2 : Int) (σ : hh_S) (h : B_X12_may_56 d Q x1 x2 σ) : hh_J (d + 1) hm_X12_may 56 [some (hh_R 128), some (hh_I x1), some (hh_I x2), none, none, none] [] σ Q := by
  unfold B_X12_may_56 at h
  refine hh_iconst dX12_may_56 (by decide) ?_
  refine hh_goto (tgt := 61) dX12_may_57 (by decide) ?_
  exact hh_forget [true, true, true, false, false, false] (w_X12_may_61 _ _ _ _ h)
set_option maxRecDepth 20000 in
theorem w_X12_may {d : Nat} {a1 a2 : Int} {σ : hh_S} {Q : Int → hh_S → Prop} (h : P_X12_may d a1 a2 σ Q) : hh_J (d + 1) hm_X12_may 0 [some (hh_R 128), some (hh_I a1), some (hh_I a2), none, none, none] [] σ Q := by
  unfold P_X12_may at h
  obtain ⟨⟨q1, q2, q3, q4, q5, q6, q7⟩, h⟩ := h
  refine hh_aload_n dX12_may_0 rfl ?_
  refine hh_getR dX12_may_1 kf_X12_7 rf_128_0 ?_
  refine hh_bipush dX12_may_4 (by decide) ?_
  refine hh_iconst dX12_may_6 (by decide) ?_
  refine hh_iload_n dX12_may_7 rfl ?_
  refine hh_imul dX12_may_8 q1 ?_
  refine hh_iadd dX12_may_9 q2 ?_
  refine hh_iald dX12_may_10 ra_129 q3 rfl ?_
  refine hh_istore_n dX12_may_11 (by decide) rfl ?_
  refine hh_aload_n dX12_may_12 rfl ?_
  refine hh_getR dX12_may_13 kf_X12_7 rf_128_0 ?_
  refine hh_sipush dX12_may_16 (by decide) ?_
  refine hh_iconst dX12_may_19 (by decide) ?_
  refine hh_iload_n dX12_may_20 rfl ?_
  refine hh_imul dX12_may_21 q4 ?_
  refine hh_iadd dX12_may_22 q5 ?_
  refine hh_iconst dX12_may_23 (by decide) ?_
  refine hh_iadd dX12_may_24 q6 ?_
  refine hh_iald dX12_may_25 ra_129 q7 rfl ?_
  refine hh_istore dX12_may_26 (by decide) rfl ?_
  refine hh_iload dX12_may_28 rfl ?_
  refine hh_if_eq (tgt := 56) dX12_may_30 (by decide) (fun c => ?_) (fun c => ?_)
  · replace h := h.1 c
    exact hh_forget [true, true, true, false, false, false] (w_X12_may_56 _ _ _ h)
  · replace h := h.2 c
    refine hh_iload dX12_may_33 rfl ?_
    refine hh_iconst dX12_may_35 (by decide) ?_
    refine hh_icmp_ne (tgt := 51) dX12_may_36 (by decide) (fun c => ?_) (fun c => ?_)
    · replace h := h.1 c
      refine hh_iload_n dX12_may_51 rfl ?_
      refine hh_iconst dX12_may_52 (by decide) ?_
      refine hh_icmp_ne (tgt := 60) dX12_may_53 (by decide) (fun c => ?_) (fun c => ?_)
      · replace h := h.1 c
        exact hh_forget [true, true, true, false, false, false] (w_X12_may_60 _ _ _ h)
      · replace h := h.2 c
        exact hh_forget [true, true, true, false, false, false] (w_X12_may_56 _ _ _ h)
    · replace h := h.2 c
      refine hh_iload_n dX12_may_39 rfl ?_
      refine hh_iconst dX12_may_40 (by decide) ?_
      refine hh_iconst dX12_may_41 (by decide) ?_
      refine hh_cS3 dX12_may_42 lk_X12_68 mo_X12_in (Nat.le_of_ble_eq_true rfl) h (fun r42 σ42 h => ?_)
      refine hh_if_eq (tgt := 60) dX12_may_45 (by decide) (fun c => ?_) (fun c => ?_)
      · replace h := h.1 c
        exact hh_forget [true, true, true, false, false, false] (w_X12_may_60 _ _ _ h)
      · replace h := h.2 c
        refine hh_goto (tgt := 56) dX12_may_48 (by decide) ?_
        exact hh_forget [true, true, true, false, false, false] (w_X12_may_56 _ _ _ h)
theorem wp_X12_may {d : Nat} (a1 a2 : Int) {σ : hh_S} {Q : Int → hh_S → Prop} (h : hh_cs σ → hh_can a1 → hh_can a2 → P_X12_may d a1 a2 σ Q) : hh_Sp (d + 1) hm_X12_may [hh_R 128, hh_I a1, hh_I a2] σ Q :=
  hh_entry rfl (Nat.le_of_ble_eq_true rfl) rfl (fun hs hc => w_X12_may (h hs (hc _ (List.mem_of_getElem? (i := 1) rfl)) (hc _ (List.mem_of_getElem? (i := 2) rfl))))
def B_X12_seeks_307 (d : Nat) (Q : Int → hh_S → Prop) (σ : hh_S) : Prop :=
  (¬ σ 128 29 = (-1) → Q 0 σ) ∧ (σ 128 29 = (-1) → Q (-1000000002) σ)
def B_X12_seeks_182 (d : Nat) (Q : Int → hh_S → Prop) (k53 : Int → Int → hh_S → Prop) (x2 x3 : Int) (σ : hh_S) : Prop :=
  ((-2147483648 ≤ x3 + (-1) ∧ x3 + (-1) ≤ 2147483647)) ∧ ((x3 + (-1) < 0 → k53 x2 (x3 + (-1)) σ) ∧ (¬ x3 + (-1) < 0 → ((0 ≤ x3 + (-1) ∧ x3 + (-1) < 7) ∧ (0 ≤ σ 140 (x3 + (-1)) ∧ σ 140 (x3 + (-1)) < 8) ∧ (-2147483648 ≤ 3 * (x3 + (-1)) ∧ 3 * (x3 + (-1)) ≤ 2147483647) ∧ (-2147483648 ≤ 1822 + (3 * (x3 + (-1))) ∧ 1822 + (3 * (x3 + (-1))) ≤ 2147483647) ∧ (-2147483648 ≤ 1822 + (3 * (x3 + (-1))) + 1 ∧ 1822 + (3 * (x3 + (-1))) + 1 ≤ 2147483647) ∧ (0 ≤ 1822 + (3 * (x3 + (-1))) + 1 ∧ 1822 + (3 * (x3 + (-1))) + 1 < 9100) ∧ (-2147483648 ≤ σ 143 (σ 140 (x3 + (-1))) + (σ 129 (1822 + (3 * (x3 + (-1))) + 1)) ∧ σ 143 (σ 140 (x3 + (-1))) + (σ 129 (1822 + (3 * (x3 + (-1))) + 1)) ≤ 2147483647)) ∧ (k53 x2 (x3 + (-1)) (hh_up σ 143 (σ 140 (x3 + (-1))) (σ 143 (σ 140 (x3 + (-1))) + (σ 129 (1822 + (3 * (x3 + (-1))) + 1)))))))
def B_X12_seeks_156 (d : Nat) (Q : Int → hh_S → Prop) (k53 : Int → Int → hh_S → Prop) (x2 x3 : Int) (σ : hh_S) : Prop :=
  (x3 = σ 129 11 → B_X12_seeks_182 d Q k53 x2 x3 σ) ∧ (¬ x3 = σ 129 11 → ((0 ≤ x3 ∧ x3 < 7)) ∧ ((¬ σ 141 x3 = σ 129 4 → ((0 ≤ x3 ∧ x3 < 7) ∧ (-2147483648 ≤ σ 141 x3 + 1 ∧ σ 141 x3 + 1 ≤ 2147483647)) ∧ (hh_Sp d hm_X12_may [hh_R 128, hh_I x3, hh_I (σ 141 x3)] (hh_up σ 141 x3 (σ 141 x3 + 1)) (fun r242 σ242 => (¬ r242 = 0 → (¬ x2 = 0 → ((-2147483648 ≤ x2 + (-1) ∧ x2 + (-1) ≤ 2147483647) ∧ (0 ≤ x3 ∧ x3 < 7) ∧ (0 ≤ σ 141 x3 ∧ σ 141 x3 < 8) ∧ (-2147483648 ≤ 3 * x3 ∧ 3 * x3 ≤ 2147483647) ∧ (-2147483648 ≤ 1822 + 3 * x3 ∧ 1822 + 3 * x3 ≤ 2147483647) ∧ (-2147483648 ≤ 1822 + 3 * x3 + 1 ∧ 1822 + 3 * x3 + 1 ≤ 2147483647) ∧ (0 ≤ 1822 + 3 * x3 + 1 ∧ 1822 + 3 * x3 + 1 < 9100) ∧ (-2147483648 ≤ σ242 143 (σ 141 x3) - (σ242 129 (1822 + 3 * x3 + 1)) ∧ σ242 143 (σ 141 x3) - (σ242 129 (1822 + 3 * x3 + 1)) ≤ 2147483647) ∧ (-2147483648 ≤ x3 + 1 ∧ x3 + 1 ≤ 2147483647) ∧ (0 ≤ x3 + 1 ∧ x3 + 1 < 7)) ∧ (k53 (x2 + (-1)) (x3 + 1) (hh_up (hh_up (hh_up σ242 140 x3 (σ 141 x3)) 143 (σ 141 x3) (σ242 143 (σ 141 x3) - (σ242 129 (1822 + 3 * x3 + 1)))) 141 (x3 + 1) 0))) ∧ (x2 = 0 → Q (-1000000004) σ242)) ∧ (r242 = 0 → k53 x2 x3 σ242)))) ∧ (σ 141 x3 = σ 129 4 → B_X12_seeks_182 d Q k53 x2 x3 σ)))
def B_X12_seeks_130 (d : Nat) (Q : Int → hh_S → Prop) (k53 : Int → Int → hh_S → Prop) (k130 : Int → Int → Int → hh_S → Prop) (x2 x3 x5 : Int) (σ : hh_S) : Prop :=
  (x3 ≤ x5 → B_X12_seeks_156 d Q k53 x2 x3 σ) ∧ (¬ x3 ≤ x5 → ((0 ≤ x5 ∧ x5 < 7) ∧ (-2147483648 ≤ x5 + 1 ∧ x5 + 1 ≤ 2147483647)) ∧ (k130 x2 x3 (x5 + 1) (hh_up σ 142 x5 (σ 140 x5))))
def B_X12_seeks_121 (d : Nat) (Q : Int → hh_S → Prop) (k53 : Int → Int → hh_S → Prop) (x2 x3 x4 : Int) (σ : hh_S) : Prop :=
  ∃ n, hh_lp3 (B_X12_seeks_130 d Q k53) n x2 x3 0 (hh_up σ 128 29 x4)
def B_X12_seeks_104 (d : Nat) (Q : Int → hh_S → Prop) (k53 : Int → Int → hh_S → Prop) (x2 x3 x4 : Int) (σ : hh_S) : Prop :=
  (σ 128 29 = (-1) → B_X12_seeks_121 d Q k53 x2 x3 x4 σ) ∧ (¬ σ 128 29 = (-1) → (σ 128 29 ≤ x4 → B_X12_seeks_156 d Q k53 x2 x3 σ) ∧ (¬ σ 128 29 ≤ x4 → B_X12_seeks_121 d Q k53 x2 x3 x4 σ))
def B_X12_seeks_74 (d : Nat) (Q : Int → hh_S → Prop) (k53 : Int → Int → hh_S → Prop) (k74 : Int → Int → Int → Int → hh_S → Prop) (x2 x3 x4 x5 : Int) (σ : hh_S) : Prop :=
  (x3 ≤ x5 → B_X12_seeks_104 d Q k53 x2 x3 x4 σ) ∧ (¬ x3 ≤ x5 → ((0 ≤ x5 ∧ x5 < 7)) ∧ (hh_Sp d hm_X12_costOf [hh_R 128, hh_I x5, hh_I (σ 140 x5)] σ (fun r92 σ92 => ((-2147483648 ≤ x4 + r92 ∧ x4 + r92 ≤ 2147483647) ∧ (-2147483648 ≤ x5 + 1 ∧ x5 + 1 ≤ 2147483647)) ∧ (k74 x2 x3 (x4 + r92) (x5 + 1) σ92))))
def B_X12_seeks_53 (d : Nat) (Q : Int → hh_S → Prop) (k53 : Int → Int → hh_S → Prop) (x2 x3 : Int) (σ : hh_S) : Prop :=
  (x3 < 0 → B_X12_seeks_307 d Q σ) ∧ (¬ x3 < 0 → (¬ x3 = σ 129 11 → B_X12_seeks_156 d Q k53 x2 x3 σ) ∧ (x3 = σ 129 11 → ∃ n, hh_lp4 (B_X12_seeks_74 d Q k53) n x2 x3 0 0 σ))
def B_X12_seeks_37 (d : Nat) (Q : Int → hh_S → Prop) (x1 : Int) (σ : hh_S) : Prop :=
  ∃ n, hh_lp2 (B_X12_seeks_53 d Q) n x1 0 (hh_up (hh_up σ 128 29 (-1)) 141 0 0)
def B_X12_seeks_2 (d : Nat) (Q : Int → hh_S → Prop) (k2 : Int → Int → hh_S → Prop) (x1 x2 : Int) (σ : hh_S) : Prop :=
  (σ 129 4 ≤ x2 → B_X12_seeks_37 d Q x1 σ) ∧ (¬ σ 129 4 ≤ x2 → ((-2147483648 ≤ 3 * x2 ∧ 3 * x2 ≤ 2147483647) ∧ (-2147483648 ≤ 20 + 3 * x2 ∧ 20 + 3 * x2 ≤ 2147483647) ∧ (-2147483648 ≤ 20 + 3 * x2 + 2 ∧ 20 + 3 * x2 + 2 ≤ 2147483647) ∧ (0 ≤ 20 + 3 * x2 + 2 ∧ 20 + 3 * x2 + 2 < 9100) ∧ (0 ≤ x2 ∧ x2 < 8) ∧ (-2147483648 ≤ x2 + 1 ∧ x2 + 1 ≤ 2147483647)) ∧ (k2 x1 (x2 + 1) (hh_up σ 143 x2 (σ 129 (20 + 3 * x2 + 2)))))
def P_X12_seeks (d : Nat) (a1 : Int) (σ : hh_S) (Q : Int → hh_S → Prop) : Prop :=
  ∃ n, hh_lp2 (B_X12_seeks_2 d Q) n a1 0 σ
set_option maxRecDepth 20000 in
theorem w_X12_seeks_307 {d : Nat} {Q : Int → hh_S → Prop} (σ : hh_S) (h : B_X12_seeks_307 d Q σ) : hh_J (d + 1) hm_X12_seeks 307 [some (hh_R 128), none, none, none, none, none] [] σ Q := by
  unfold B_X12_seeks_307 at h
  refine hh_aload_n dX12_seeks_307 rfl ?_
  refine hh_getI dX12_seeks_308 kf_X12_254 rf_128_29 rfl ?_
  refine hh_iconst dX12_seeks_311 (by decide) ?_
  refine hh_icmp_ne (tgt := 320) dX12_seeks_312 (by decide) (fun c => ?_) (fun c => ?_)
  · replace h := h.1 c
    refine hh_iconst dX12_seeks_320 (by decide) ?_
    exact hh_ireturn dX12_seeks_321 rfl h
  · replace h := h.2 c
    refine hh_ldc (n := -1000000002) dX12_seeks_315 kc_X12_91 (by decide) ?_
    refine hh_goto (tgt := 321) dX12_seeks_317 (by decide) ?_
    exact hh_ireturn dX12_seeks_321 rfl h
set_option maxRecDepth 20000 in
theorem w_X12_seeks_182 {d : Nat} {Q : Int → hh_S → Prop} {k53 : Int → Int → hh_S → Prop} (hk53 : ∀ (x2 x3 : Int) (σ : hh_S), k53 x2 x3 σ → hh_J (d + 1) hm_X12_seeks 53 [some (hh_R 128), none, some (hh_I x2), some (hh_I x3), none, none] [] σ Q) (x2 x3 : Int) (σ : hh_S) (h : B_X12_seeks_182 d Q k53 x2 x3 σ) : hh_J (d + 1) hm_X12_seeks 182 [some (hh_R 128), none, some (hh_I x2), some (hh_I x3), none, none] [] σ Q := by
  unfold B_X12_seeks_182 at h
  obtain ⟨q1, h⟩ := h
  refine hh_iinc dX12_seeks_182 (by decide) rfl rfl q1 ?_
  refine hh_iload_n dX12_seeks_185 rfl ?_
  refine hh_if_lt (tgt := 53) dX12_seeks_186 (by decide) (fun c => ?_) (fun c => ?_)
  · replace h := h.1 c
    exact hh_forget [true, false, true, true, false, false] (hk53 _ _ _ h)
  · replace h := h.2 c
    obtain ⟨⟨q1, q2, q3, q4, q5, q6, q7⟩, h⟩ := h
    refine hh_aload_n dX12_seeks_189 rfl ?_
    refine hh_getR dX12_seeks_190 kf_X12_52 rf_128_28 ?_
    refine hh_aload_n dX12_seeks_193 rfl ?_
    refine hh_getR dX12_seeks_194 kf_X12_43 rf_128_25 ?_
    refine hh_iload_n dX12_seeks_197 rfl ?_
    refine hh_iald dX12_seeks_198 ra_140 q1 rfl ?_
    refine hh_dup2 dX12_seeks_199 (fun _ => rfl) (fun _ => rfl) ?_
    refine hh_iald dX12_seeks_200 ra_143 q2 rfl ?_
    refine hh_aload_n dX12_seeks_201 rfl ?_
    refine hh_getR dX12_seeks_202 kf_X12_7 rf_128_0 ?_
    refine hh_sipush dX12_seeks_205 (by decide) ?_
    refine hh_iconst dX12_seeks_208 (by decide) ?_
    refine hh_iload_n dX12_seeks_209 rfl ?_
    refine hh_imul dX12_seeks_210 q3 ?_
    refine hh_iadd dX12_seeks_211 q4 ?_
    refine hh_iconst dX12_seeks_212 (by decide) ?_
    refine hh_iadd dX12_seeks_213 q5 ?_
    refine hh_iald dX12_seeks_214 ra_129 q6 rfl ?_
    refine hh_iadd dX12_seeks_215 q7 ?_
    refine hh_iast dX12_seeks_216 ra_143 q2 ?_
    refine hh_goto (tgt := 53) dX12_seeks_217 (by decide) ?_
    exact hh_forget [true, false, true, true, false, false] (hk53 _ _ _ h)
set_option maxRecDepth 20000 in
theorem w_X12_seeks_156 {d : Nat} {Q : Int → hh_S → Prop} {k53 : Int → Int → hh_S → Prop} (hk53 : ∀ (x2 x3 : Int) (σ : hh_S), k53 x2 x3 σ → hh_J (d + 1) hm_X12_seeks 53 [some (hh_R 128), none, some (hh_I x2), some (hh_I x3), none, none] [] σ Q) (x2 x3 : Int) (σ : hh_S) (h : B_X12_seeks_156 d Q k53 x2 x3 σ) : hh_J (d + 1) hm_X12_seeks 156 [some (hh_R 128), none, some (hh_I x2), some (hh_I x3), none, none] [] σ Q := by
  unfold B_X12_seeks_156 at h
  refine hh_iload_n dX12_seeks_156 rfl ?_
  refine hh_aload_n dX12_seeks_157 rfl ?_
  refine hh_getR dX12_seeks_158 kf_X12_7 rf_128_0 ?_
  refine hh_bipush dX12_seeks_161 (by decide) ?_
  refine hh_iald dX12_seeks_163 ra_129 (by decide) rfl ?_
  refine hh_icmp_eq (tgt := 182) dX12_seeks_164 (by decide) (fun c => ?_) (fun c => ?_)
  · replace h := h.1 c
    exact hh_forget [true, false, true, true, false, false] (w_X12_seeks_182 hk53 _ _ _ h)
  · replace h := h.2 c
    obtain ⟨q1, h⟩ := h
    refine hh_aload_n dX12_seeks_167 rfl ?_
    refine hh_getR dX12_seeks_168 kf_X12_46 rf_128_26 ?_
    refine hh_iload_n dX12_seeks_171 rfl ?_
    refine hh_iald dX12_seeks_172 ra_141 q1 rfl ?_
    refine hh_aload_n dX12_seeks_173 rfl ?_
    refine hh_getR dX12_seeks_174 kf_X12_7 rf_128_0 ?_
    refine hh_iconst dX12_seeks_177 (by decide) ?_
    refine hh_iald dX12_seeks_178 ra_129 (by decide) rfl ?_
    refine hh_icmp_ne (tgt := 220) dX12_seeks_179 (by decide) (fun c => ?_) (fun c => ?_)
    · replace h := h.1 c
      obtain ⟨⟨q1, q2⟩, h⟩ := h
      refine hh_aload_n dX12_seeks_220 rfl ?_
      refine hh_getR dX12_seeks_221 kf_X12_46 rf_128_26 ?_
      refine hh_iload_n dX12_seeks_224 rfl ?_
      refine hh_iald dX12_seeks_225 ra_141 q1 rfl ?_
      refine hh_istore dX12_seeks_226 (by decide) rfl ?_
      refine hh_aload_n dX12_seeks_228 rfl ?_
      refine hh_getR dX12_seeks_229 kf_X12_46 rf_128_26 ?_
      refine hh_iload_n dX12_seeks_232 rfl ?_
      refine hh_dup2 dX12_seeks_233 (fun _ => rfl) (fun _ => rfl) ?_
      refine hh_iald dX12_seeks_234 ra_141 q1 rfl ?_
      refine hh_iconst dX12_seeks_235 (by decide) ?_
      refine hh_iadd dX12_seeks_236 q2 ?_
      refine hh_iast dX12_seeks_237 ra_141 q1 ?_
      refine hh_aload_n dX12_seeks_238 rfl ?_
      refine hh_iload_n dX12_seeks_239 rfl ?_
      refine hh_iload dX12_seeks_240 rfl ?_
      refine hh_cV2 dX12_seeks_242 lk_X12_260 mo_X12_may rc_128 (Nat.le_of_ble_eq_true rfl) h (fun r242 σ242 h => ?_)
      refine hh_if_ne (tgt := 251) dX12_seeks_245 (by decide) (fun c => ?_) (fun c => ?_)
      · replace h := h.1 c
        refine hh_iload_n dX12_seeks_251 rfl ?_
        refine hh_if_ne (tgt := 259) dX12_seeks_252 (by decide) (fun c => ?_) (fun c => ?_)
        · replace h := h.1 c
          obtain ⟨⟨q1, q2, q3, q4, q5, q6, q7, q8, q9, q10⟩, h⟩ := h
          refine hh_iinc dX12_seeks_259 (by decide) rfl rfl q1 ?_
          refine hh_aload_n dX12_seeks_262 rfl ?_
          refine hh_getR dX12_seeks_263 kf_X12_43 rf_128_25 ?_
          refine hh_iload_n dX12_seeks_266 rfl ?_
          refine hh_iload dX12_seeks_267 rfl ?_
          refine hh_iast dX12_seeks_269 ra_140 q2 ?_
          refine hh_aload_n dX12_seeks_270 rfl ?_
          refine hh_getR dX12_seeks_271 kf_X12_52 rf_128_28 ?_
          refine hh_iload dX12_seeks_274 rfl ?_
          refine hh_dup2 dX12_seeks_276 (fun _ => rfl) (fun _ => rfl) ?_
          refine hh_iald dX12_seeks_277 ra_143 q3 rfl ?_
          refine hh_aload_n dX12_seeks_278 rfl ?_
          refine hh_getR dX12_seeks_279 kf_X12_7 rf_128_0 ?_
          refine hh_sipush dX12_seeks_282 (by decide) ?_
          refine hh_iconst dX12_seeks_285 (by decide) ?_
          refine hh_iload_n dX12_seeks_286 rfl ?_
          refine hh_imul dX12_seeks_287 q4 ?_
          refine hh_iadd dX12_seeks_288 q5 ?_
          refine hh_iconst dX12_seeks_289 (by decide) ?_
          refine hh_iadd dX12_seeks_290 q6 ?_
          refine hh_iald dX12_seeks_291 ra_129 q7 rfl ?_
          refine hh_isub dX12_seeks_292 q8 ?_
          refine hh_iast dX12_seeks_293 ra_143 q3 ?_
          refine hh_iinc dX12_seeks_294 (by decide) rfl rfl q9 ?_
          refine hh_aload_n dX12_seeks_297 rfl ?_
          refine hh_getR dX12_seeks_298 kf_X12_46 rf_128_26 ?_
          refine hh_iload_n dX12_seeks_301 rfl ?_
          refine hh_iconst dX12_seeks_302 (by decide) ?_
          refine hh_iast dX12_seeks_303 ra_141 q10 ?_
          refine hh_goto (tgt := 53) dX12_seeks_304 (by decide) ?_
          exact hh_forget [true, false, true, true, false, false] (hk53 _ _ _ h)
        · replace h := h.2 c
          refine hh_ldc_w (n := -1000000004) dX12_seeks_255 kc_X12_263 (by decide) ?_
          exact hh_ireturn dX12_seeks_258 rfl h
      · replace h := h.2 c
        refine hh_goto (tgt := 53) dX12_seeks_248 (by decide) ?_
        exact hh_forget [true, false, true, true, false, false] (hk53 _ _ _ h)
    · replace h := h.2 c
      exact hh_forget [true, false, true, true, false, false] (w_X12_seeks_182 hk53 _ _ _ h)
set_option maxRecDepth 20000 in
theorem w_X12_seeks_130 {d : Nat} {Q : Int → hh_S → Prop} {k53 : Int → Int → hh_S → Prop} {k130 : Int → Int → Int → hh_S → Prop} (hk53 : ∀ (x2 x3 : Int) (σ : hh_S), k53 x2 x3 σ → hh_J (d + 1) hm_X12_seeks 53 [some (hh_R 128), none, some (hh_I x2), some (hh_I x3), none, none] [] σ Q) (hk130 : ∀ (x2 x3 x5 : Int) (σ : hh_S), k130 x2 x3 x5 σ → hh_J (d + 1) hm_X12_seeks 130 [some (hh_R 128), none, some (hh_I x2), some (hh_I x3), none, some (hh_I x5)] [] σ Q) (x2 x3 x5 : Int) (σ : hh_S) (h : B_X12_seeks_130 d Q k53 k130 x2 x3 x5 σ) : hh_J (d + 1) hm_X12_seeks 130 [some (hh_R 128), none, some (hh_I x2), some (hh_I x3), none, some (hh_I x5)] [] σ Q := by
  unfold B_X12_seeks_130 at h
  refine hh_iload dX12_seeks_130 rfl ?_
  refine hh_iload_n dX12_seeks_132 rfl ?_
  refine hh_icmp_ge (tgt := 156) dX12_seeks_133 (by decide) (fun c => ?_) (fun c => ?_)
  · replace h := h.1 c
    exact hh_forget [true, false, true, true, false, false] (w_X12_seeks_156 hk53 _ _ _ h)
  · replace h := h.2 c
    obtain ⟨⟨q1, q2⟩, h⟩ := h
    refine hh_aload_n dX12_seeks_136 rfl ?_
    refine hh_getR dX12_seeks_137 kf_X12_49 rf_128_27 ?_
    refine hh_iload dX12_seeks_140 rfl ?_
    refine hh_aload_n dX12_seeks_142 rfl ?_
    refine hh_getR dX12_seeks_143 kf_X12_43 rf_128_25 ?_
    refine hh_iload dX12_seeks_146 rfl ?_
    refine hh_iald dX12_seeks_148 ra_140 q1 rfl ?_
    refine hh_iast dX12_seeks_149 ra_142 q1 ?_
    refine hh_iinc dX12_seeks_150 (by decide) rfl rfl q2 ?_
    refine hh_goto (tgt := 130) dX12_seeks_153 (by decide) ?_
    exact hh_forget [true, false, true, true, false, true] (hk130 _ _ _ _ h)
theorem l_X12_seeks_130 {d : Nat} {Q : Int → hh_S → Prop} {k53 : Int → Int → hh_S → Prop} (hk53 : ∀ (x2 x3 : Int) (σ : hh_S), k53 x2 x3 σ → hh_J (d + 1) hm_X12_seeks 53 [some (hh_R 128), none, some (hh_I x2), some (hh_I x3), none, none] [] σ Q) : ∀ (n : Nat) (x2 x3 x5 : Int) (σ : hh_S), hh_lp3 (B_X12_seeks_130 d Q k53) n x2 x3 x5 σ → hh_J (d + 1) hm_X12_seeks 130 [some (hh_R 128), none, some (hh_I x2), some (hh_I x3), none, some (hh_I x5)] [] σ Q := by
  intro n
  induction n with
  | zero => intro _ _ _ _ h; exact h.elim
  | succ n ih => intro x2 x3 x5 σ h; exact w_X12_seeks_130 hk53 ih x2 x3 x5 σ h
set_option maxRecDepth 20000 in
theorem w_X12_seeks_121 {d : Nat} {Q : Int → hh_S → Prop} {k53 : Int → Int → hh_S → Prop} (hk53 : ∀ (x2 x3 : Int) (σ : hh_S), k53 x2 x3 σ → hh_J (d + 1) hm_X12_seeks 53 [some (hh_R 128), none, some (hh_I x2), some (hh_I x3), none, none] [] σ Q) (x2 x3 x4 : Int) (σ : hh_S) (h : B_X12_seeks_121 d Q k53 x2 x3 x4 σ) : hh_J (d + 1) hm_X12_seeks 121 [some (hh_R 128), none, some (hh_I x2), some (hh_I x3), some (hh_I x4), none] [] σ Q := by
  unfold B_X12_seeks_121 at h
  refine hh_aload_n dX12_seeks_121 rfl ?_
  refine hh_iload dX12_seeks_122 rfl ?_
  refine hh_putI dX12_seeks_124 kp_X12_254 rf_128_29 ?_
  refine hh_iconst dX12_seeks_127 (by decide) ?_
  refine hh_istore dX12_seeks_128 (by decide) rfl ?_
  obtain ⟨n, h⟩ := h
  exact hh_forget [true, false, true, true, false, true] (l_X12_seeks_130 hk53 n _ _ _ _ h)
set_option maxRecDepth 20000 in
theorem w_X12_seeks_104 {d : Nat} {Q : Int → hh_S → Prop} {k53 : Int → Int → hh_S → Prop} (hk53 : ∀ (x2 x3 : Int) (σ : hh_S), k53 x2 x3 σ → hh_J (d + 1) hm_X12_seeks 53 [some (hh_R 128), none, some (hh_I x2), some (hh_I x3), none, none] [] σ Q) (x2 x3 x4 : Int) (σ : hh_S) (h : B_X12_seeks_104 d Q k53 x2 x3 x4 σ) : hh_J (d + 1) hm_X12_seeks 104 [some (hh_R 128), none, some (hh_I x2), some (hh_I x3), some (hh_I x4), none] [] σ Q := by
  unfold B_X12_seeks_104 at h
  refine hh_aload_n dX12_seeks_104 rfl ?_
  refine hh_getI dX12_seeks_105 kf_X12_254 rf_128_29 rfl ?_
  refine hh_iconst dX12_seeks_108 (by decide) ?_
  refine hh_icmp_eq (tgt := 121) dX12_seeks_109 (by decide) (fun c => ?_) (fun c => ?_)
  · replace h := h.1 c
    exact hh_forget [true, false, true, true, true, false] (w_X12_seeks_121 hk53 _ _ _ _ h)
  · replace h := h.2 c
    refine hh_iload dX12_seeks_112 rfl ?_
    refine hh_aload_n dX12_seeks_114 rfl ?_
    refine hh_getI dX12_seeks_115 kf_X12_254 rf_128_29 rfl ?_
    refine hh_icmp_ge (tgt := 156) dX12_seeks_118 (by decide) (fun c => ?_) (fun c => ?_)
    · replace h := h.1 c
      exact hh_forget [true, false, true, true, false, false] (w_X12_seeks_156 hk53 _ _ _ h)
    · replace h := h.2 c
      exact hh_forget [true, false, true, true, true, false] (w_X12_seeks_121 hk53 _ _ _ _ h)
set_option maxRecDepth 20000 in
theorem w_X12_seeks_74 {d : Nat} {Q : Int → hh_S → Prop} {k53 : Int → Int → hh_S → Prop} {k74 : Int → Int → Int → Int → hh_S → Prop} (hk53 : ∀ (x2 x3 : Int) (σ : hh_S), k53 x2 x3 σ → hh_J (d + 1) hm_X12_seeks 53 [some (hh_R 128), none, some (hh_I x2), some (hh_I x3), none, none] [] σ Q) (hk74 : ∀ (x2 x3 x4 x5 : Int) (σ : hh_S), k74 x2 x3 x4 x5 σ → hh_J (d + 1) hm_X12_seeks 74 [some (hh_R 128), none, some (hh_I x2), some (hh_I x3), some (hh_I x4), some (hh_I x5)] [] σ Q) (x2 x3 x4 x5 : Int) (σ : hh_S) (h : B_X12_seeks_74 d Q k53 k74 x2 x3 x4 x5 σ) : hh_J (d + 1) hm_X12_seeks 74 [some (hh_R 128), none, some (hh_I x2), some (hh_I x3), some (hh_I x4), some (hh_I x5)] [] σ Q := by
  unfold B_X12_seeks_74 at h
  refine hh_iload dX12_seeks_74 rfl ?_
  refine hh_iload_n dX12_seeks_76 rfl ?_
  refine hh_icmp_ge (tgt := 104) dX12_seeks_77 (by decide) (fun c => ?_) (fun c => ?_)
  · replace h := h.1 c
    exact hh_forget [true, false, true, true, true, false] (w_X12_seeks_104 hk53 _ _ _ _ h)
  · replace h := h.2 c
    obtain ⟨q1, h⟩ := h
    refine hh_iload dX12_seeks_80 rfl ?_
    refine hh_aload_n dX12_seeks_82 rfl ?_
    refine hh_iload dX12_seeks_83 rfl ?_
    refine hh_aload_n dX12_seeks_85 rfl ?_
    refine hh_getR dX12_seeks_86 kf_X12_43 rf_128_25 ?_
    refine hh_iload dX12_seeks_89 rfl ?_
    refine hh_iald dX12_seeks_91 ra_140 q1 rfl ?_
    refine hh_cV2 dX12_seeks_92 lk_X12_257 mo_X12_costOf rc_128 (Nat.le_of_ble_eq_true rfl) h (fun r92 σ92 h => ?_)
    obtain ⟨⟨q1, q2⟩, h⟩ := h
    refine hh_iadd dX12_seeks_95 q1 ?_
    refine hh_istore dX12_seeks_96 (by decide) rfl ?_
    refine hh_iinc dX12_seeks_98 (by decide) rfl rfl q2 ?_
    refine hh_goto (tgt := 74) dX12_seeks_101 (by decide) ?_
    exact hh_forget [true, false, true, true, true, true] (hk74 _ _ _ _ _ h)
theorem l_X12_seeks_74 {d : Nat} {Q : Int → hh_S → Prop} {k53 : Int → Int → hh_S → Prop} (hk53 : ∀ (x2 x3 : Int) (σ : hh_S), k53 x2 x3 σ → hh_J (d + 1) hm_X12_seeks 53 [some (hh_R 128), none, some (hh_I x2), some (hh_I x3), none, none] [] σ Q) : ∀ (n : Nat) (x2 x3 x4 x5 : Int) (σ : hh_S), hh_lp4 (B_X12_seeks_74 d Q k53) n x2 x3 x4 x5 σ → hh_J (d + 1) hm_X12_seeks 74 [some (hh_R 128), none, some (hh_I x2), some (hh_I x3), some (hh_I x4), some (hh_I x5)] [] σ Q := by
  intro n
  induction n with
  | zero => intro _ _ _ _ _ h; exact h.elim
  | succ n ih => intro x2 x3 x4 x5 σ h; exact w_X12_seeks_74 hk53 ih x2 x3 x4 x5 σ h
set_option maxRecDepth 20000 in
theorem w_X12_seeks_53 {d : Nat} {Q : Int → hh_S → Prop} {k53 : Int → Int → hh_S → Prop} (hk53 : ∀ (x2 x3 : Int) (σ : hh_S), k53 x2 x3 σ → hh_J (d + 1) hm_X12_seeks 53 [some (hh_R 128), none, some (hh_I x2), some (hh_I x3), none, none] [] σ Q) (x2 x3 : Int) (σ : hh_S) (h : B_X12_seeks_53 d Q k53 x2 x3 σ) : hh_J (d + 1) hm_X12_seeks 53 [some (hh_R 128), none, some (hh_I x2), some (hh_I x3), none, none] [] σ Q := by
  unfold B_X12_seeks_53 at h
  refine hh_iload_n dX12_seeks_53 rfl ?_
  refine hh_if_lt (tgt := 307) dX12_seeks_54 (by decide) (fun c => ?_) (fun c => ?_)
  · replace h := h.1 c
    exact hh_forget [true, false, false, false, false, false] (w_X12_seeks_307 _ h)
  · replace h := h.2 c
    refine hh_iload_n dX12_seeks_57 rfl ?_
    refine hh_aload_n dX12_seeks_58 rfl ?_
    refine hh_getR dX12_seeks_59 kf_X12_7 rf_128_0 ?_
    refine hh_bipush dX12_seeks_62 (by decide) ?_
    refine hh_iald dX12_seeks_64 ra_129 (by decide) rfl ?_
    refine hh_icmp_ne (tgt := 156) dX12_seeks_65 (by decide) (fun c => ?_) (fun c => ?_)
    · replace h := h.1 c
      exact hh_forget [true, false, true, true, false, false] (w_X12_seeks_156 hk53 _ _ _ h)
    · replace h := h.2 c
      refine hh_iconst dX12_seeks_68 (by decide) ?_
      refine hh_istore dX12_seeks_69 (by decide) rfl ?_
      refine hh_iconst dX12_seeks_71 (by decide) ?_
      refine hh_istore dX12_seeks_72 (by decide) rfl ?_
      obtain ⟨n, h⟩ := h
      exact hh_forget [true, false, true, true, true, true] (l_X12_seeks_74 hk53 n _ _ _ _ _ h)
theorem l_X12_seeks_53 {d : Nat} {Q : Int → hh_S → Prop} : ∀ (n : Nat) (x2 x3 : Int) (σ : hh_S), hh_lp2 (B_X12_seeks_53 d Q) n x2 x3 σ → hh_J (d + 1) hm_X12_seeks 53 [some (hh_R 128), none, some (hh_I x2), some (hh_I x3), none, none] [] σ Q := by
  intro n
  induction n with
  | zero => intro _ _ _ h; exact h.elim
  | succ n ih => intro x2 x3 σ h; exact w_X12_seeks_53 ih x2 x3 σ h
set_option maxRecDepth 20000 in
theorem w_X12_seeks_37 {d : Nat} {Q : Int → hh_S → Prop} (x1 : Int) (σ : hh_S) (h : B_X12_seeks_37 d Q x1 σ) : hh_J (d + 1) hm_X12_seeks 37 [some (hh_R 128), some (hh_I x1), none, none, none, none] [] σ Q := by
  unfold B_X12_seeks_37 at h
  refine hh_iload_n dX12_seeks_37 rfl ?_
  refine hh_istore_n dX12_seeks_38 (by decide) rfl ?_
  refine hh_aload_n dX12_seeks_39 rfl ?_
  refine hh_iconst dX12_seeks_40 (by decide) ?_
  refine hh_putI dX12_seeks_41 kp_X12_254 rf_128_29 ?_
  refine hh_iconst dX12_seeks_44 (by decide) ?_
  refine hh_istore_n dX12_seeks_45 (by decide) rfl ?_
  refine hh_aload_n dX12_seeks_46 rfl ?_
  refine hh_getR dX12_seeks_47 kf_X12_46 rf_128_26 ?_
  refine hh_iconst dX12_seeks_50 (by decide) ?_
  refine hh_iconst dX12_seeks_51 (by decide) ?_
  refine hh_iast dX12_seeks_52 ra_141 (by decide) ?_
  obtain ⟨n, h⟩ := h
  exact hh_forget [true, false, true, true, false, false] (l_X12_seeks_53 n _ _ _ h)
set_option maxRecDepth 20000 in
theorem w_X12_seeks_2 {d : Nat} {Q : Int → hh_S → Prop} {k2 : Int → Int → hh_S → Prop} (hk2 : ∀ (x1 x2 : Int) (σ : hh_S), k2 x1 x2 σ → hh_J (d + 1) hm_X12_seeks 2 [some (hh_R 128), some (hh_I x1), some (hh_I x2), none, none, none] [] σ Q) (x1 x2 : Int) (σ : hh_S) (h : B_X12_seeks_2 d Q k2 x1 x2 σ) : hh_J (d + 1) hm_X12_seeks 2 [some (hh_R 128), some (hh_I x1), some (hh_I x2), none, none, none] [] σ Q := by
  unfold B_X12_seeks_2 at h
  refine hh_iload_n dX12_seeks_2 rfl ?_
  refine hh_aload_n dX12_seeks_3 rfl ?_
  refine hh_getR dX12_seeks_4 kf_X12_7 rf_128_0 ?_
  refine hh_iconst dX12_seeks_7 (by decide) ?_
  refine hh_iald dX12_seeks_8 ra_129 (by decide) rfl ?_
  refine hh_icmp_ge (tgt := 37) dX12_seeks_9 (by decide) (fun c => ?_) (fun c => ?_)
  · replace h := h.1 c
    exact hh_forget [true, true, false, false, false, false] (w_X12_seeks_37 _ _ h)
  · replace h := h.2 c
    obtain ⟨⟨q1, q2, q3, q4, q5, q6⟩, h⟩ := h
    refine hh_aload_n dX12_seeks_12 rfl ?_
    refine hh_getR dX12_seeks_13 kf_X12_52 rf_128_28 ?_
    refine hh_iload_n dX12_seeks_16 rfl ?_
    refine hh_aload_n dX12_seeks_17 rfl ?_
    refine hh_getR dX12_seeks_18 kf_X12_7 rf_128_0 ?_
    refine hh_bipush dX12_seeks_21 (by decide) ?_
    refine hh_iconst dX12_seeks_23 (by decide) ?_
    refine hh_iload_n dX12_seeks_24 rfl ?_
    refine hh_imul dX12_seeks_25 q1 ?_
    refine hh_iadd dX12_seeks_26 q2 ?_
    refine hh_iconst dX12_seeks_27 (by decide) ?_
    refine hh_iadd dX12_seeks_28 q3 ?_
    refine hh_iald dX12_seeks_29 ra_129 q4 rfl ?_
    refine hh_iast dX12_seeks_30 ra_143 q5 ?_
    refine hh_iinc dX12_seeks_31 (by decide) rfl rfl q6 ?_
    refine hh_goto (tgt := 2) dX12_seeks_34 (by decide) ?_
    exact hh_forget [true, true, true, false, false, false] (hk2 _ _ _ h)
theorem l_X12_seeks_2 {d : Nat} {Q : Int → hh_S → Prop} : ∀ (n : Nat) (x1 x2 : Int) (σ : hh_S), hh_lp2 (B_X12_seeks_2 d Q) n x1 x2 σ → hh_J (d + 1) hm_X12_seeks 2 [some (hh_R 128), some (hh_I x1), some (hh_I x2), none, none, none] [] σ Q := by
  intro n
  induction n with
  | zero => intro _ _ _ h; exact h.elim
  | succ n ih => intro x1 x2 σ h; exact w_X12_seeks_2 ih x1 x2 σ h
set_option maxRecDepth 20000 in
theorem w_X12_seeks {d : Nat} {a1 : Int} {σ : hh_S} {Q : Int → hh_S → Prop} (h : P_X12_seeks d a1 σ Q) : hh_J (d + 1) hm_X12_seeks 0 [some (hh_R 128), some (hh_I a1), none, none, none, none] [] σ Q := by
  unfold P_X12_seeks at h
  refine hh_iconst dX12_seeks_0 (by decide) ?_
  refine hh_istore_n dX12_seeks_1 (by decide) rfl ?_
  obtain ⟨n, h⟩ := h
  exact hh_forget [true, true, true, false, false, false] (l_X12_seeks_2 n _ _ _ h)
theorem wp_X12_seeks {d : Nat} (a1 : Int) {σ : hh_S} {Q : Int → hh_S → Prop} (h : hh_cs σ → hh_can a1 → P_X12_seeks d a1 σ Q) : hh_Sp (d + 1) hm_X12_seeks [hh_R 128, hh_I a1] σ Q :=
  hh_entry rfl (Nat.le_of_ble_eq_true rfl) rfl (fun hs hc => w_X12_seeks (h hs (hc _ (List.mem_of_getElem? (i := 1) rfl))))
def P_X12_plan (d : Nat) (a1 : Int) (σ : hh_S) (Q : Int → hh_S → Prop) : Prop :=
  hh_Sp d hm_X12_in [hh_I a1, hh_I 1, hh_I 30000] σ (fun r5 σ5 => (¬ r5 = 0 → hh_Sp d hm_X12_seeks [hh_R 128, hh_I a1] σ5 (fun r16 σ16 => (¬ r16 = 0 → Q r16 σ16) ∧ (r16 = 0 → Q (σ16 128 29) σ16))) ∧ (r5 = 0 → Q (-1000000001) σ5))
set_option maxRecDepth 20000 in
theorem w_X12_plan {d : Nat} {a1 : Int} {σ : hh_S} {Q : Int → hh_S → Prop} (h : P_X12_plan d a1 σ Q) : hh_J (d + 1) hm_X12_plan 0 [some (hh_R 128), some (hh_I a1), none] [] σ Q := by
  unfold P_X12_plan at h
  refine hh_iload_n dX12_plan_0 rfl ?_
  refine hh_iconst dX12_plan_1 (by decide) ?_
  refine hh_sipush dX12_plan_2 (by decide) ?_
  refine hh_cS3 dX12_plan_5 lk_X12_68 mo_X12_in (Nat.le_of_ble_eq_true rfl) h (fun r5 σ5 h => ?_)
  refine hh_if_ne (tgt := 14) dX12_plan_8 (by decide) (fun c => ?_) (fun c => ?_)
  · replace h := h.1 c
    refine hh_aload_n dX12_plan_14 rfl ?_
    refine hh_iload_n dX12_plan_15 rfl ?_
    refine hh_cV1 dX12_plan_16 lk_X12_264 mo_X12_seeks rc_128 (Nat.le_of_ble_eq_true rfl) h (fun r16 σ16 h => ?_)
    refine hh_istore_n dX12_plan_19 (by decide) rfl ?_
    refine hh_iload_n dX12_plan_20 rfl ?_
    refine hh_if_ne (tgt := 31) dX12_plan_21 (by decide) (fun c => ?_) (fun c => ?_)
    · replace h := h.1 c
      refine hh_iload_n dX12_plan_31 rfl ?_
      exact hh_ireturn dX12_plan_32 rfl h
    · replace h := h.2 c
      refine hh_aload_n dX12_plan_24 rfl ?_
      refine hh_getI dX12_plan_25 kf_X12_254 rf_128_29 rfl ?_
      refine hh_goto (tgt := 32) dX12_plan_28 (by decide) ?_
      exact hh_ireturn dX12_plan_32 rfl h
  · replace h := h.2 c
    refine hh_ldc (n := -1000000001) dX12_plan_11 kc_X12_72 (by decide) ?_
    exact hh_ireturn dX12_plan_13 rfl h
theorem wp_X12_plan {d : Nat} (a1 : Int) {σ : hh_S} {Q : Int → hh_S → Prop} (h : hh_cs σ → hh_can a1 → P_X12_plan d a1 σ Q) : hh_Sp (d + 1) hm_X12_plan [hh_R 128, hh_I a1] σ Q :=
  hh_entry rfl (Nat.le_of_ble_eq_true rfl) rfl (fun hs hc => w_X12_plan (h hs (hc _ (List.mem_of_getElem? (i := 1) rfl))))
def P_X12_planned (d : Nat) (a1 a2 : Int) (σ : hh_S) (Q : Int → hh_S → Prop) : Prop :=
  hh_Sp d hm_X12_in [hh_I a1, hh_I 1, hh_I 30000] σ (fun r5 σ5 => (r5 = 0 → Q (-1000000001) σ5) ∧ (¬ r5 = 0 → ((-2147483648 ≤ σ5 129 11 - 1 ∧ σ5 129 11 - 1 ≤ 2147483647)) ∧ (hh_Sp d hm_X12_in [hh_I a2, hh_I 0, hh_I (σ5 129 11 - 1)] σ5 (fun r22 σ22 => (¬ r22 = 0 → hh_Sp d hm_X12_seeks [hh_R 128, hh_I a1] σ22 (fun r33 σ33 => (¬ r33 = 0 → Q r33 σ33) ∧ (r33 = 0 → ((0 ≤ a2 ∧ a2 < 7)) ∧ (Q (σ33 142 a2) σ33)))) ∧ (r22 = 0 → Q (-1000000001) σ22)))))
set_option maxRecDepth 20000 in
theorem w_X12_planned {d : Nat} {a1 a2 : Int} {σ : hh_S} {Q : Int → hh_S → Prop} (h : P_X12_planned d a1 a2 σ Q) : hh_J (d + 1) hm_X12_planned 0 [some (hh_R 128), some (hh_I a1), some (hh_I a2), none] [] σ Q := by
  unfold P_X12_planned at h
  refine hh_iload_n dX12_planned_0 rfl ?_
  refine hh_iconst dX12_planned_1 (by decide) ?_
  refine hh_sipush dX12_planned_2 (by decide) ?_
  refine hh_cS3 dX12_planned_5 lk_X12_68 mo_X12_in (Nat.le_of_ble_eq_true rfl) h (fun r5 σ5 h => ?_)
  refine hh_if_eq (tgt := 28) dX12_planned_8 (by decide) (fun c => ?_) (fun c => ?_)
  · replace h := h.1 c
    refine hh_ldc (n := -1000000001) dX12_planned_28 kc_X12_72 (by decide) ?_
    exact hh_ireturn dX12_planned_30 rfl h
  · replace h := h.2 c
    obtain ⟨q1, h⟩ := h
    refine hh_iload_n dX12_planned_11 rfl ?_
    refine hh_iconst dX12_planned_12 (by decide) ?_
    refine hh_aload_n dX12_planned_13 rfl ?_
    refine hh_getR dX12_planned_14 kf_X12_7 rf_128_0 ?_
    refine hh_bipush dX12_planned_17 (by decide) ?_
    refine hh_iald dX12_planned_19 ra_129 (by decide) rfl ?_
    refine hh_iconst dX12_planned_20 (by decide) ?_
    refine hh_isub dX12_planned_21 q1 ?_
    refine hh_cS3 dX12_planned_22 lk_X12_68 mo_X12_in (Nat.le_of_ble_eq_true rfl) h (fun r22 σ22 h => ?_)
    refine hh_if_ne (tgt := 31) dX12_planned_25 (by decide) (fun c => ?_) (fun c => ?_)
    · replace h := h.1 c
      refine hh_aload_n dX12_planned_31 rfl ?_
      refine hh_iload_n dX12_planned_32 rfl ?_
      refine hh_cV1 dX12_planned_33 lk_X12_264 mo_X12_seeks rc_128 (Nat.le_of_ble_eq_true rfl) h (fun r33 σ33 h => ?_)
      refine hh_istore_n dX12_planned_36 (by decide) rfl ?_
      refine hh_iload_n dX12_planned_37 rfl ?_
      refine hh_if_ne (tgt := 50) dX12_planned_38 (by decide) (fun c => ?_) (fun c => ?_)
      · replace h := h.1 c
        refine hh_iload_n dX12_planned_50 rfl ?_
        exact hh_ireturn dX12_planned_51 rfl h
      · replace h := h.2 c
        obtain ⟨q1, h⟩ := h
        refine hh_aload_n dX12_planned_41 rfl ?_
        refine hh_getR dX12_planned_42 kf_X12_49 rf_128_27 ?_
        refine hh_iload_n dX12_planned_45 rfl ?_
        refine hh_iald dX12_planned_46 ra_142 q1 rfl ?_
        refine hh_goto (tgt := 51) dX12_planned_47 (by decide) ?_
        exact hh_ireturn dX12_planned_51 rfl h
    · replace h := h.2 c
      refine hh_ldc (n := -1000000001) dX12_planned_28 kc_X12_72 (by decide) ?_
      exact hh_ireturn dX12_planned_30 rfl h
theorem wp_X12_planned {d : Nat} (a1 a2 : Int) {σ : hh_S} {Q : Int → hh_S → Prop} (h : hh_cs σ → hh_can a1 → hh_can a2 → P_X12_planned d a1 a2 σ Q) : hh_Sp (d + 1) hm_X12_planned [hh_R 128, hh_I a1, hh_I a2] σ Q :=
  hh_entry rfl (Nat.le_of_ble_eq_true rfl) rfl (fun hs hc => w_X12_planned (h hs (hc _ (List.mem_of_getElem? (i := 1) rfl)) (hc _ (List.mem_of_getElem? (i := 2) rfl))))
def P_X12_tell (d : Nat) (a1 : Int) (σ : hh_S) (Q : Int → hh_S → Prop) : Prop :=
  (¬ σ 128 31 = 20 → ((0 ≤ σ 128 31 ∧ σ 128 31 < 20) ∧ (-2147483648 ≤ σ 128 31 + 1 ∧ σ 128 31 + 1 ≤ 2147483647)) ∧ (Q (σ 128 31 + 1) (hh_up (hh_up σ 144 (σ 128 31) a1) 128 31 (σ 128 31 + 1)))) ∧ (σ 128 31 = 20 → Q (-1000000003) σ)
set_option maxRecDepth 20000 in
theorem w_X12_tell {d : Nat} {a1 : Int} {σ : hh_S} {Q : Int → hh_S → Prop} (h : P_X12_tell d a1 σ Q) : hh_J (d + 1) hm_X12_tell 0 [some (hh_R 128), some (hh_I a1)] [] σ Q := by
  unfold P_X12_tell at h
  refine hh_aload_n dX12_tell_0 rfl ?_
  refine hh_getI dX12_tell_1 kf_X12_267 rf_128_31 rfl ?_
  refine hh_bipush dX12_tell_4 (by decide) ?_
  refine hh_icmp_ne (tgt := 12) dX12_tell_6 (by decide) (fun c => ?_) (fun c => ?_)
  · replace h := h.1 c
    obtain ⟨⟨q1, q2⟩, h⟩ := h
    refine hh_aload_n dX12_tell_12 rfl ?_
    refine hh_getR dX12_tell_13 kf_X12_55 rf_128_30 ?_
    refine hh_aload_n dX12_tell_16 rfl ?_
    refine hh_getI dX12_tell_17 kf_X12_267 rf_128_31 rfl ?_
    refine hh_iload_n dX12_tell_20 rfl ?_
    refine hh_iast dX12_tell_21 ra_144 q1 ?_
    refine hh_aload_n dX12_tell_22 rfl ?_
    refine hh_dup dX12_tell_23 (fun _ => rfl) ?_
    refine hh_getI dX12_tell_24 kf_X12_267 rf_128_31 rfl ?_
    refine hh_iconst dX12_tell_27 (by decide) ?_
    refine hh_iadd dX12_tell_28 q2 ?_
    refine hh_putI dX12_tell_29 kp_X12_267 rf_128_31 ?_
    refine hh_aload_n dX12_tell_32 rfl ?_
    refine hh_getI dX12_tell_33 kf_X12_267 rf_128_31 rfl ?_
    exact hh_ireturn dX12_tell_36 rfl h
  · replace h := h.2 c
    refine hh_ldc (n := -1000000003) dX12_tell_9 kc_X12_73 (by decide) ?_
    exact hh_ireturn dX12_tell_11 rfl h
theorem wp_X12_tell {d : Nat} (a1 : Int) {σ : hh_S} {Q : Int → hh_S → Prop} (h : hh_cs σ → hh_can a1 → P_X12_tell d a1 σ Q) : hh_Sp (d + 1) hm_X12_tell [hh_R 128, hh_I a1] σ Q :=
  hh_entry rfl (Nat.le_of_ble_eq_true rfl) rfl (fun hs hc => w_X12_tell (h hs (hc _ (List.mem_of_getElem? (i := 1) rfl))))
def B_X12_check_126 (d : Nat) (Q : Int → hh_S → Prop) (x1 : Int) (σ : hh_S) : Prop :=
  ((-2147483648 ≤ 2 * (σ 129 11) ∧ 2 * (σ 129 11) ≤ 2147483647)) ∧ ((2 * (σ 129 11) ≤ x1 → Q 0 σ) ∧ (¬ 2 * (σ 129 11) ≤ x1 → ((-2147483648 ≤ 1 + x1 ∧ 1 + x1 ≤ 2147483647)) ∧ (Q (1 + x1) σ)))
def B_X12_check_115 (d : Nat) (Q : Int → hh_S → Prop) (x4 : Int) (σ : hh_S) : Prop :=
  ((-2147483648 ≤ 1 + x4 ∧ 1 + x4 ≤ 2147483647)) ∧ (Q (1 + x4) σ)
def B_X12_check_112 (d : Nat) (Q : Int → hh_S → Prop) (k29 : Int → Int → Int → hh_S → Prop) (x1 x3 x4 s0 s1 : Int) (σ : hh_S) : Prop :=
  (s0 = s1 → ((-2147483648 ≤ x4 + 1 ∧ x4 + 1 ≤ 2147483647)) ∧ (k29 x1 x3 (x4 + 1) σ)) ∧ (¬ s0 = s1 → B_X12_check_115 d Q x4 σ)
def B_X12_check_83 (d : Nat) (Q : Int → hh_S → Prop) (k29 : Int → Int → Int → hh_S → Prop) (x1 x4 s0 s1 : Int) (σ : hh_S) : Prop :=
  ((-2147483648 ≤ s0 + s1 ∧ s0 + s1 ≤ 2147483647) ∧ (0 ≤ x4 ∧ x4 < 20) ∧ 0 ≤ x4) ∧ ((¬ x4 % 2 = 0 → B_X12_check_112 d Q k29 x1 (s0 + s1) x4 (σ 144 x4) (s0 + s1) σ) ∧ (x4 % 2 = 0 → (0 ≤ x4 ∧ (0 ≤ x4 / 2 ∧ x4 / 2 < 7)) ∧ (B_X12_check_112 d Q k29 x1 (s0 + s1) x4 (σ 144 x4) (σ 142 (x4 / 2)) σ)))
def B_X12_check_49 (d : Nat) (Q : Int → hh_S → Prop) (x4 : Int) (σ : hh_S) : Prop :=
  ((-2147483648 ≤ 1 + x4 ∧ 1 + x4 ≤ 2147483647)) ∧ (Q (1 + x4) σ)
def B_X12_check_29 (d : Nat) (Q : Int → hh_S → Prop) (k29 : Int → Int → Int → hh_S → Prop) (x1 x3 x4 : Int) (σ : hh_S) : Prop :=
  (x1 ≤ x4 → B_X12_check_126 d Q x1 σ) ∧ (¬ x1 ≤ x4 → ((-2147483648 ≤ 2 * (σ 129 11) ∧ 2 * (σ 129 11) ≤ 2147483647)) ∧ ((x4 < 2 * (σ 129 11) → (0 ≤ x4) ∧ ((¬ x4 % 2 = 0 → B_X12_check_83 d Q k29 x1 x4 x3 0 σ) ∧ (x4 % 2 = 0 → (0 ≤ x4 ∧ (0 ≤ x4 / 2 ∧ x4 / 2 < 7)) ∧ (hh_Sp d hm_X12_costOf [hh_R 128, hh_I (x4 / 2), hh_I (σ 142 (x4 / 2))] σ (fun r76 σ76 => B_X12_check_83 d Q k29 x1 x4 x3 r76 σ76))))) ∧ (¬ x4 < 2 * (σ 129 11) → B_X12_check_49 d Q x4 σ)))
def P_X12_check (d : Nat) (σ : hh_S) (Q : Int → hh_S → Prop) : Prop :=
  hh_Sp d hm_X12_seeks [hh_R 128, hh_I 30000] (hh_up σ 128 31 0) (fun r14 σ14 => (r14 = 0 → ∃ n, hh_lp3 (B_X12_check_29 d Q) n (σ 128 31) 0 0 σ14) ∧ (¬ r14 = 0 → Q r14 σ14))
set_option maxRecDepth 20000 in
theorem w_X12_check_126 {d : Nat} {Q : Int → hh_S → Prop} (x1 : Int) (σ : hh_S) (h : B_X12_check_126 d Q x1 σ) : hh_J (d + 1) hm_X12_check 126 [some (hh_R 128), some (hh_I x1), none, none, none] [] σ Q := by
  unfold B_X12_check_126 at h
  obtain ⟨q1, h⟩ := h
  refine hh_iload_n dX12_check_126 rfl ?_
  refine hh_iconst dX12_check_127 (by decide) ?_
  refine hh_aload_n dX12_check_128 rfl ?_
  refine hh_getR dX12_check_129 kf_X12_7 rf_128_0 ?_
  refine hh_bipush dX12_check_132 (by decide) ?_
  refine hh_iald dX12_check_134 ra_129 (by decide) rfl ?_
  refine hh_imul dX12_check_135 q1 ?_
  refine hh_icmp_ge (tgt := 145) dX12_check_136 (by decide) (fun c => ?_) (fun c => ?_)
  · replace h := h.1 c
    refine hh_iconst dX12_check_145 (by decide) ?_
    exact hh_ireturn dX12_check_146 rfl h
  · replace h := h.2 c
    obtain ⟨q1, h⟩ := h
    refine hh_iconst dX12_check_139 (by decide) ?_
    refine hh_iload_n dX12_check_140 rfl ?_
    refine hh_iadd dX12_check_141 q1 ?_
    refine hh_goto (tgt := 146) dX12_check_142 (by decide) ?_
    exact hh_ireturn dX12_check_146 rfl h
set_option maxRecDepth 20000 in
theorem w_X12_check_115 {d : Nat} {Q : Int → hh_S → Prop} (x4 : Int) (σ : hh_S) (h : B_X12_check_115 d Q x4 σ) : hh_J (d + 1) hm_X12_check 115 [none, none, none, none, some (hh_I x4)] [] σ Q := by
  unfold B_X12_check_115 at h
  obtain ⟨q1, h⟩ := h
  refine hh_iconst dX12_check_115 (by decide) ?_
  refine hh_iload dX12_check_116 rfl ?_
  refine hh_iadd dX12_check_118 q1 ?_
  exact hh_ireturn dX12_check_119 rfl h
set_option maxRecDepth 20000 in
theorem w_X12_check_112 {d : Nat} {Q : Int → hh_S → Prop} {k29 : Int → Int → Int → hh_S → Prop} (hk29 : ∀ (x1 x3 x4 : Int) (σ : hh_S), k29 x1 x3 x4 σ → hh_J (d + 1) hm_X12_check 29 [some (hh_R 128), some (hh_I x1), none, some (hh_I x3), some (hh_I x4)] [] σ Q) (x1 x3 x4 s0 s1 : Int) (σ : hh_S) (h : B_X12_check_112 d Q k29 x1 x3 x4 s0 s1 σ) : hh_J (d + 1) hm_X12_check 112 [some (hh_R 128), some (hh_I x1), none, some (hh_I x3), some (hh_I x4)] [hh_I s1, hh_I s0] σ Q := by
  unfold B_X12_check_112 at h
  refine hh_icmp_eq (tgt := 120) dX12_check_112 (by decide) (fun c => ?_) (fun c => ?_)
  · replace h := h.1 c
    obtain ⟨q1, h⟩ := h
    refine hh_iinc dX12_check_120 (by decide) rfl rfl q1 ?_
    refine hh_goto (tgt := 29) dX12_check_123 (by decide) ?_
    exact hh_forget [true, true, false, true, true] (hk29 _ _ _ _ h)
  · replace h := h.2 c
    exact hh_forget [false, false, false, false, true] (w_X12_check_115 _ _ h)
set_option maxRecDepth 20000 in
theorem w_X12_check_83 {d : Nat} {Q : Int → hh_S → Prop} {k29 : Int → Int → Int → hh_S → Prop} (hk29 : ∀ (x1 x3 x4 : Int) (σ : hh_S), k29 x1 x3 x4 σ → hh_J (d + 1) hm_X12_check 29 [some (hh_R 128), some (hh_I x1), none, some (hh_I x3), some (hh_I x4)] [] σ Q) (x1 x4 s0 s1 : Int) (σ : hh_S) (h : B_X12_check_83 d Q k29 x1 x4 s0 s1 σ) : hh_J (d + 1) hm_X12_check 83 [some (hh_R 128), some (hh_I x1), none, none, some (hh_I x4)] [hh_I s1, hh_I s0] σ Q := by
  unfold B_X12_check_83 at h
  obtain ⟨⟨q1, q2, q3⟩, h⟩ := h
  refine hh_iadd dX12_check_83 q1 ?_
  refine hh_istore_n dX12_check_84 (by decide) rfl ?_
  refine hh_aload_n dX12_check_85 rfl ?_
  refine hh_getR dX12_check_86 kf_X12_55 rf_128_30 ?_
  refine hh_iload dX12_check_89 rfl ?_
  refine hh_iald dX12_check_91 ra_144 q2 rfl ?_
  refine hh_iload dX12_check_92 rfl ?_
  refine hh_iconst dX12_check_94 (by decide) ?_
  refine hh_irem dX12_check_95 q3 (by decide) ?_
  refine hh_if_ne (tgt := 111) dX12_check_96 (by decide) (fun c => ?_) (fun c => ?_)
  · replace h := h.1 c
    refine hh_iload_n dX12_check_111 rfl ?_
    exact hh_forget [true, true, false, true, true] (w_X12_check_112 hk29 _ _ _ _ _ _ h)
  · replace h := h.2 c
    obtain ⟨⟨q1, q2⟩, h⟩ := h
    refine hh_aload_n dX12_check_99 rfl ?_
    refine hh_getR dX12_check_100 kf_X12_49 rf_128_27 ?_
    refine hh_iload dX12_check_103 rfl ?_
    refine hh_iconst dX12_check_105 (by decide) ?_
    refine hh_idiv dX12_check_106 q1 (by decide) ?_
    refine hh_iald dX12_check_107 ra_142 q2 rfl ?_
    refine hh_goto (tgt := 112) dX12_check_108 (by decide) ?_
    exact hh_forget [true, true, false, true, true] (w_X12_check_112 hk29 _ _ _ _ _ _ h)
set_option maxRecDepth 20000 in
theorem w_X12_check_49 {d : Nat} {Q : Int → hh_S → Prop} (x4 : Int) (σ : hh_S) (h : B_X12_check_49 d Q x4 σ) : hh_J (d + 1) hm_X12_check 49 [none, none, none, none, some (hh_I x4)] [] σ Q := by
  unfold B_X12_check_49 at h
  obtain ⟨q1, h⟩ := h
  refine hh_iconst dX12_check_49 (by decide) ?_
  refine hh_iload dX12_check_50 rfl ?_
  refine hh_iadd dX12_check_52 q1 ?_
  exact hh_ireturn dX12_check_53 rfl h
set_option maxRecDepth 20000 in
theorem w_X12_check_29 {d : Nat} {Q : Int → hh_S → Prop} {k29 : Int → Int → Int → hh_S → Prop} (hk29 : ∀ (x1 x3 x4 : Int) (σ : hh_S), k29 x1 x3 x4 σ → hh_J (d + 1) hm_X12_check 29 [some (hh_R 128), some (hh_I x1), none, some (hh_I x3), some (hh_I x4)] [] σ Q) (x1 x3 x4 : Int) (σ : hh_S) (h : B_X12_check_29 d Q k29 x1 x3 x4 σ) : hh_J (d + 1) hm_X12_check 29 [some (hh_R 128), some (hh_I x1), none, some (hh_I x3), some (hh_I x4)] [] σ Q := by
  unfold B_X12_check_29 at h
  refine hh_iload dX12_check_29 rfl ?_
  refine hh_iload_n dX12_check_31 rfl ?_
  refine hh_icmp_ge (tgt := 126) dX12_check_32 (by decide) (fun c => ?_) (fun c => ?_)
  · replace h := h.1 c
    exact hh_forget [true, true, false, false, false] (w_X12_check_126 _ _ h)
  · replace h := h.2 c
    obtain ⟨q1, h⟩ := h
    refine hh_iload dX12_check_35 rfl ?_
    refine hh_iconst dX12_check_37 (by decide) ?_
    refine hh_aload_n dX12_check_38 rfl ?_
    refine hh_getR dX12_check_39 kf_X12_7 rf_128_0 ?_
    refine hh_bipush dX12_check_42 (by decide) ?_
    refine hh_iald dX12_check_44 ra_129 (by decide) rfl ?_
    refine hh_imul dX12_check_45 q1 ?_
    refine hh_icmp_lt (tgt := 54) dX12_check_46 (by decide) (fun c => ?_) (fun c => ?_)
    · replace h := h.1 c
      obtain ⟨q1, h⟩ := h
      refine hh_iload_n dX12_check_54 rfl ?_
      refine hh_iload dX12_check_55 rfl ?_
      refine hh_iconst dX12_check_57 (by decide) ?_
      refine hh_irem dX12_check_58 q1 (by decide) ?_
      refine hh_if_ne (tgt := 82) dX12_check_59 (by decide) (fun c => ?_) (fun c => ?_)
      · replace h := h.1 c
        refine hh_iconst dX12_check_82 (by decide) ?_
        exact hh_forget [true, true, false, false, true] (w_X12_check_83 hk29 _ _ _ _ _ h)
      · replace h := h.2 c
        obtain ⟨⟨q1, q2⟩, h⟩ := h
        refine hh_aload_n dX12_check_62 rfl ?_
        refine hh_iload dX12_check_63 rfl ?_
        refine hh_iconst dX12_check_65 (by decide) ?_
        refine hh_idiv dX12_check_66 q1 (by decide) ?_
        refine hh_aload_n dX12_check_67 rfl ?_
        refine hh_getR dX12_check_68 kf_X12_49 rf_128_27 ?_
        refine hh_iload dX12_check_71 rfl ?_
        refine hh_iconst dX12_check_73 (by decide) ?_
        refine hh_idiv dX12_check_74 q1 (by decide) ?_
        refine hh_iald dX12_check_75 ra_142 q2 rfl ?_
        refine hh_cV2 dX12_check_76 lk_X12_257 mo_X12_costOf rc_128 (Nat.le_of_ble_eq_true rfl) h (fun r76 σ76 h => ?_)
        refine hh_goto (tgt := 83) dX12_check_79 (by decide) ?_
        exact hh_forget [true, true, false, false, true] (w_X12_check_83 hk29 _ _ _ _ _ h)
    · replace h := h.2 c
      exact hh_forget [false, false, false, false, true] (w_X12_check_49 _ _ h)
theorem l_X12_check_29 {d : Nat} {Q : Int → hh_S → Prop} : ∀ (n : Nat) (x1 x3 x4 : Int) (σ : hh_S), hh_lp3 (B_X12_check_29 d Q) n x1 x3 x4 σ → hh_J (d + 1) hm_X12_check 29 [some (hh_R 128), some (hh_I x1), none, some (hh_I x3), some (hh_I x4)] [] σ Q := by
  intro n
  induction n with
  | zero => intro _ _ _ _ h; exact h.elim
  | succ n ih => intro x1 x3 x4 σ h; exact w_X12_check_29 ih x1 x3 x4 σ h
set_option maxRecDepth 20000 in
theorem w_X12_check {d : Nat} {σ : hh_S} {Q : Int → hh_S → Prop} (h : P_X12_check d σ Q) : hh_J (d + 1) hm_X12_check 0 [some (hh_R 128), none, none, none, none] [] σ Q := by
  unfold P_X12_check at h
  refine hh_aload_n dX12_check_0 rfl ?_
  refine hh_getI dX12_check_1 kf_X12_267 rf_128_31 rfl ?_
  refine hh_istore_n dX12_check_4 (by decide) rfl ?_
  refine hh_aload_n dX12_check_5 rfl ?_
  refine hh_iconst dX12_check_6 (by decide) ?_
  refine hh_putI dX12_check_7 kp_X12_267 rf_128_31 ?_
  refine hh_aload_n dX12_check_10 rfl ?_
  refine hh_sipush dX12_check_11 (by decide) ?_
  refine hh_cV1 dX12_check_14 lk_X12_264 mo_X12_seeks rc_128 (Nat.le_of_ble_eq_true rfl) h (fun r14 σ14 h => ?_)
  refine hh_istore_n dX12_check_17 (by decide) rfl ?_
  refine hh_iload_n dX12_check_18 rfl ?_
  refine hh_if_eq (tgt := 24) dX12_check_19 (by decide) (fun c => ?_) (fun c => ?_)
  · replace h := h.1 c
    refine hh_iconst dX12_check_24 (by decide) ?_
    refine hh_istore_n dX12_check_25 (by decide) rfl ?_
    refine hh_iconst dX12_check_26 (by decide) ?_
    refine hh_istore dX12_check_27 (by decide) rfl ?_
    obtain ⟨n, h⟩ := h
    exact hh_forget [true, true, false, true, true] (l_X12_check_29 n _ _ _ _ h)
  · replace h := h.2 c
    refine hh_iload_n dX12_check_22 rfl ?_
    exact hh_ireturn dX12_check_23 rfl h
theorem wp_X12_check {d : Nat} {σ : hh_S} {Q : Int → hh_S → Prop} (h : hh_cs σ → P_X12_check d σ Q) : hh_Sp (d + 1) hm_X12_check [hh_R 128] σ Q :=
  hh_entry rfl (Nat.le_of_ble_eq_true rfl) rfl (fun hs hc => w_X12_check (h hs))
def B_X12_keep_27 (d : Nat) (Q : Int → hh_S → Prop) (σ : hh_S) : Prop :=
  Q (σ 129 0) (hh_up σ 128 2 1)
def B_X12_keep_2 (d : Nat) (Q : Int → hh_S → Prop) (k2 : Int → hh_S → Prop) (x1 : Int) (σ : hh_S) : Prop :=
  (9100 ≤ x1 → B_X12_keep_27 d Q σ) ∧ (¬ 9100 ≤ x1 → ((0 ≤ x1 ∧ x1 < 9100) ∧ (-2147483648 ≤ x1 + 1 ∧ x1 + 1 ≤ 2147483647)) ∧ (k2 (x1 + 1) (hh_up σ 130 x1 (σ 129 x1))))
def P_X12_keep (d : Nat) (σ : hh_S) (Q : Int → hh_S → Prop) : Prop :=
  ∃ n, hh_lp1 (B_X12_keep_2 d Q) n 0 σ
set_option maxRecDepth 20000 in
theorem w_X12_keep_27 {d : Nat} {Q : Int → hh_S → Prop} (σ : hh_S) (h : B_X12_keep_27 d Q σ) : hh_J (d + 1) hm_X12_keep 27 [some (hh_R 128), none] [] σ Q := by
  unfold B_X12_keep_27 at h
  refine hh_aload_n dX12_keep_27 rfl ?_
  refine hh_iconst dX12_keep_28 (by decide) ?_
  refine hh_putZ dX12_keep_29 kp_X12_270 rf_128_2 (by decide) ?_
  refine hh_aload_n dX12_keep_32 rfl ?_
  refine hh_getR dX12_keep_33 kf_X12_7 rf_128_0 ?_
  refine hh_iconst dX12_keep_36 (by decide) ?_
  refine hh_iald dX12_keep_37 ra_129 (by decide) rfl ?_
  exact hh_ireturn dX12_keep_38 rfl h
set_option maxRecDepth 20000 in
theorem w_X12_keep_2 {d : Nat} {Q : Int → hh_S → Prop} {k2 : Int → hh_S → Prop} (hk2 : ∀ (x1 : Int) (σ : hh_S), k2 x1 σ → hh_J (d + 1) hm_X12_keep 2 [some (hh_R 128), some (hh_I x1)] [] σ Q) (x1 : Int) (σ : hh_S) (h : B_X12_keep_2 d Q k2 x1 σ) : hh_J (d + 1) hm_X12_keep 2 [some (hh_R 128), some (hh_I x1)] [] σ Q := by
  unfold B_X12_keep_2 at h
  refine hh_iload_n dX12_keep_2 rfl ?_
  refine hh_sipush dX12_keep_3 (by decide) ?_
  refine hh_icmp_ge (tgt := 27) dX12_keep_6 (by decide) (fun c => ?_) (fun c => ?_)
  · replace h := h.1 c
    exact hh_forget [true, false] (w_X12_keep_27 _ h)
  · replace h := h.2 c
    obtain ⟨⟨q1, q2⟩, h⟩ := h
    refine hh_aload_n dX12_keep_9 rfl ?_
    refine hh_getR dX12_keep_10 kf_X12_13 rf_128_1 ?_
    refine hh_iload_n dX12_keep_13 rfl ?_
    refine hh_aload_n dX12_keep_14 rfl ?_
    refine hh_getR dX12_keep_15 kf_X12_7 rf_128_0 ?_
    refine hh_iload_n dX12_keep_18 rfl ?_
    refine hh_iald dX12_keep_19 ra_129 q1 rfl ?_
    refine hh_iast dX12_keep_20 ra_130 q1 ?_
    refine hh_iinc dX12_keep_21 (by decide) rfl rfl q2 ?_
    refine hh_goto (tgt := 2) dX12_keep_24 (by decide) ?_
    exact hh_forget [true, true] (hk2 _ _ h)
theorem l_X12_keep_2 {d : Nat} {Q : Int → hh_S → Prop} : ∀ (n : Nat) (x1 : Int) (σ : hh_S), hh_lp1 (B_X12_keep_2 d Q) n x1 σ → hh_J (d + 1) hm_X12_keep 2 [some (hh_R 128), some (hh_I x1)] [] σ Q := by
  intro n
  induction n with
  | zero => intro _ _ h; exact h.elim
  | succ n ih => intro x1 σ h; exact w_X12_keep_2 ih x1 σ h
set_option maxRecDepth 20000 in
theorem w_X12_keep {d : Nat} {σ : hh_S} {Q : Int → hh_S → Prop} (h : P_X12_keep d σ Q) : hh_J (d + 1) hm_X12_keep 0 [some (hh_R 128), none] [] σ Q := by
  unfold P_X12_keep at h
  refine hh_iconst dX12_keep_0 (by decide) ?_
  refine hh_istore_n dX12_keep_1 (by decide) rfl ?_
  obtain ⟨n, h⟩ := h
  exact hh_forget [true, true] (l_X12_keep_2 n _ _ h)
theorem wp_X12_keep {d : Nat} {σ : hh_S} {Q : Int → hh_S → Prop} (h : hh_cs σ → P_X12_keep d σ Q) : hh_Sp (d + 1) hm_X12_keep [hh_R 128] σ Q :=
  hh_entry rfl (Nat.le_of_ble_eq_true rfl) rfl (fun hs hc => w_X12_keep (h hs))
def B_X12_back_37 (d : Nat) (Q : Int → hh_S → Prop) (σ : hh_S) : Prop :=
  Q (σ 129 0) σ
def B_X12_back_12 (d : Nat) (Q : Int → hh_S → Prop) (k12 : Int → hh_S → Prop) (x1 : Int) (σ : hh_S) : Prop :=
  (9100 ≤ x1 → B_X12_back_37 d Q σ) ∧ (¬ 9100 ≤ x1 → ((0 ≤ x1 ∧ x1 < 9100) ∧ (-2147483648 ≤ x1 + 1 ∧ x1 + 1 ≤ 2147483647)) ∧ (k12 (x1 + 1) (hh_up σ 129 x1 (σ 130 x1))))
def P_X12_back (d : Nat) (σ : hh_S) (Q : Int → hh_S → Prop) : Prop :=
  (¬ σ 128 2 = 0 → ∃ n, hh_lp1 (B_X12_back_12 d Q) n 0 σ) ∧ (σ 128 2 = 0 → Q (-1000000002) σ)
set_option maxRecDepth 20000 in
theorem w_X12_back_37 {d : Nat} {Q : Int → hh_S → Prop} (σ : hh_S) (h : B_X12_back_37 d Q σ) : hh_J (d + 1) hm_X12_back 37 [some (hh_R 128), none] [] σ Q := by
  unfold B_X12_back_37 at h
  refine hh_aload_n dX12_back_37 rfl ?_
  refine hh_getR dX12_back_38 kf_X12_7 rf_128_0 ?_
  refine hh_iconst dX12_back_41 (by decide) ?_
  refine hh_iald dX12_back_42 ra_129 (by decide) rfl ?_
  exact hh_ireturn dX12_back_43 rfl h
set_option maxRecDepth 20000 in
theorem w_X12_back_12 {d : Nat} {Q : Int → hh_S → Prop} {k12 : Int → hh_S → Prop} (hk12 : ∀ (x1 : Int) (σ : hh_S), k12 x1 σ → hh_J (d + 1) hm_X12_back 12 [some (hh_R 128), some (hh_I x1)] [] σ Q) (x1 : Int) (σ : hh_S) (h : B_X12_back_12 d Q k12 x1 σ) : hh_J (d + 1) hm_X12_back 12 [some (hh_R 128), some (hh_I x1)] [] σ Q := by
  unfold B_X12_back_12 at h
  refine hh_iload_n dX12_back_12 rfl ?_
  refine hh_sipush dX12_back_13 (by decide) ?_
  refine hh_icmp_ge (tgt := 37) dX12_back_16 (by decide) (fun c => ?_) (fun c => ?_)
  · replace h := h.1 c
    exact hh_forget [true, false] (w_X12_back_37 _ h)
  · replace h := h.2 c
    obtain ⟨⟨q1, q2⟩, h⟩ := h
    refine hh_aload_n dX12_back_19 rfl ?_
    refine hh_getR dX12_back_20 kf_X12_7 rf_128_0 ?_
    refine hh_iload_n dX12_back_23 rfl ?_
    refine hh_aload_n dX12_back_24 rfl ?_
    refine hh_getR dX12_back_25 kf_X12_13 rf_128_1 ?_
    refine hh_iload_n dX12_back_28 rfl ?_
    refine hh_iald dX12_back_29 ra_130 q1 rfl ?_
    refine hh_iast dX12_back_30 ra_129 q1 ?_
    refine hh_iinc dX12_back_31 (by decide) rfl rfl q2 ?_
    refine hh_goto (tgt := 12) dX12_back_34 (by decide) ?_
    exact hh_forget [true, true] (hk12 _ _ h)
theorem l_X12_back_12 {d : Nat} {Q : Int → hh_S → Prop} : ∀ (n : Nat) (x1 : Int) (σ : hh_S), hh_lp1 (B_X12_back_12 d Q) n x1 σ → hh_J (d + 1) hm_X12_back 12 [some (hh_R 128), some (hh_I x1)] [] σ Q := by
  intro n
  induction n with
  | zero => intro _ _ h; exact h.elim
  | succ n ih => intro x1 σ h; exact w_X12_back_12 ih x1 σ h
set_option maxRecDepth 20000 in
theorem w_X12_back {d : Nat} {σ : hh_S} {Q : Int → hh_S → Prop} (h : P_X12_back d σ Q) : hh_J (d + 1) hm_X12_back 0 [some (hh_R 128), none] [] σ Q := by
  unfold P_X12_back at h
  refine hh_aload_n dX12_back_0 rfl ?_
  refine hh_getI dX12_back_1 kf_X12_270 rf_128_2 rfl ?_
  refine hh_if_ne (tgt := 10) dX12_back_4 (by decide) (fun c => ?_) (fun c => ?_)
  · replace h := h.1 c
    refine hh_iconst dX12_back_10 (by decide) ?_
    refine hh_istore_n dX12_back_11 (by decide) rfl ?_
    obtain ⟨n, h⟩ := h
    exact hh_forget [true, true] (l_X12_back_12 n _ _ h)
  · replace h := h.2 c
    refine hh_ldc (n := -1000000002) dX12_back_7 kc_X12_91 (by decide) ?_
    exact hh_ireturn dX12_back_9 rfl h
theorem wp_X12_back {d : Nat} {σ : hh_S} {Q : Int → hh_S → Prop} (h : hh_cs σ → P_X12_back d σ Q) : hh_Sp (d + 1) hm_X12_back [hh_R 128] σ Q :=
  hh_entry rfl (Nat.le_of_ble_eq_true rfl) rfl (fun hs hc => w_X12_back (h hs))
def B_X12_sheet_35 (d : Nat) (Q : Int → hh_S → Prop) (k35 : Int → Int → Int → hh_S → Prop) (x1 x2 x3 : Int) (σ : hh_S) : Prop :=
  (x2 ≤ x3 → Q x2 σ) ∧ (¬ x2 ≤ x3 → ((-2147483648 ≤ 20 * x1 ∧ 20 * x1 ≤ 2147483647) ∧ (-2147483648 ≤ 20 * x1 + x3 ∧ 20 * x1 + x3 ≤ 2147483647) ∧ (0 ≤ 20 * x1 + x3 ∧ 20 * x1 + x3 < 40) ∧ (-2147483648 ≤ x3 + 1 ∧ x3 + 1 ≤ 2147483647)) ∧ (k35 x1 x2 (x3 + 1) (hh_up σ 145 (20 * x1 + x3) 0)))
def P_X12_sheet (d : Nat) (a1 a2 : Int) (σ : hh_S) (Q : Int → hh_S → Prop) : Prop :=
  hh_Sp d hm_X12_in [hh_I a1, hh_I 0, hh_I 1] σ (fun r3 σ3 => (r3 = 0 → Q (-1000000001) σ3) ∧ (¬ r3 = 0 → (a2 ≤ 20 → (0 ≤ a2 → ((0 ≤ a1 ∧ a1 < 2)) ∧ (∃ n, hh_lp3 (B_X12_sheet_35 d Q) n a1 a2 0 (hh_up σ3 146 a1 a2))) ∧ (¬ 0 ≤ a2 → Q (-1000000014) σ3)) ∧ (¬ a2 ≤ 20 → Q (-1000000001) σ3)))
set_option maxRecDepth 20000 in
theorem w_X12_sheet_35 {d : Nat} {Q : Int → hh_S → Prop} {k35 : Int → Int → Int → hh_S → Prop} (hk35 : ∀ (x1 x2 x3 : Int) (σ : hh_S), k35 x1 x2 x3 σ → hh_J (d + 1) hm_X12_sheet 35 [some (hh_R 128), some (hh_I x1), some (hh_I x2), some (hh_I x3)] [] σ Q) (x1 x2 x3 : Int) (σ : hh_S) (h : B_X12_sheet_35 d Q k35 x1 x2 x3 σ) : hh_J (d + 1) hm_X12_sheet 35 [some (hh_R 128), some (hh_I x1), some (hh_I x2), some (hh_I x3)] [] σ Q := by
  unfold B_X12_sheet_35 at h
  refine hh_iload_n dX12_sheet_35 rfl ?_
  refine hh_iload_n dX12_sheet_36 rfl ?_
  refine hh_icmp_ge (tgt := 58) dX12_sheet_37 (by decide) (fun c => ?_) (fun c => ?_)
  · replace h := h.1 c
    refine hh_iload_n dX12_sheet_58 rfl ?_
    exact hh_ireturn dX12_sheet_59 rfl h
  · replace h := h.2 c
    obtain ⟨⟨q1, q2, q3, q4⟩, h⟩ := h
    refine hh_aload_n dX12_sheet_40 rfl ?_
    refine hh_getR dX12_sheet_41 kf_X12_58 rf_128_32 ?_
    refine hh_bipush dX12_sheet_44 (by decide) ?_
    refine hh_iload_n dX12_sheet_46 rfl ?_
    refine hh_imul dX12_sheet_47 q1 ?_
    refine hh_iload_n dX12_sheet_48 rfl ?_
    refine hh_iadd dX12_sheet_49 q2 ?_
    refine hh_iconst dX12_sheet_50 (by decide) ?_
    refine hh_iast dX12_sheet_51 ra_145 q3 ?_
    refine hh_iinc dX12_sheet_52 (by decide) rfl rfl q4 ?_
    refine hh_goto (tgt := 35) dX12_sheet_55 (by decide) ?_
    exact hh_forget [true, true, true, true] (hk35 _ _ _ _ h)
theorem l_X12_sheet_35 {d : Nat} {Q : Int → hh_S → Prop} : ∀ (n : Nat) (x1 x2 x3 : Int) (σ : hh_S), hh_lp3 (B_X12_sheet_35 d Q) n x1 x2 x3 σ → hh_J (d + 1) hm_X12_sheet 35 [some (hh_R 128), some (hh_I x1), some (hh_I x2), some (hh_I x3)] [] σ Q := by
  intro n
  induction n with
  | zero => intro _ _ _ _ h; exact h.elim
  | succ n ih => intro x1 x2 x3 σ h; exact w_X12_sheet_35 ih x1 x2 x3 σ h
set_option maxRecDepth 20000 in
theorem w_X12_sheet {d : Nat} {a1 a2 : Int} {σ : hh_S} {Q : Int → hh_S → Prop} (h : P_X12_sheet d a1 a2 σ Q) : hh_J (d + 1) hm_X12_sheet 0 [some (hh_R 128), some (hh_I a1), some (hh_I a2), none] [] σ Q := by
  unfold P_X12_sheet at h
  refine hh_iload_n dX12_sheet_0 rfl ?_
  refine hh_iconst dX12_sheet_1 (by decide) ?_
  refine hh_iconst dX12_sheet_2 (by decide) ?_
  refine hh_cS3 dX12_sheet_3 lk_X12_68 mo_X12_in (Nat.le_of_ble_eq_true rfl) h (fun r3 σ3 h => ?_)
  refine hh_if_eq (tgt := 15) dX12_sheet_6 (by decide) (fun c => ?_) (fun c => ?_)
  · replace h := h.1 c
    refine hh_ldc (n := -1000000001) dX12_sheet_15 kc_X12_72 (by decide) ?_
    exact hh_ireturn dX12_sheet_17 rfl h
  · replace h := h.2 c
    refine hh_iload_n dX12_sheet_9 rfl ?_
    refine hh_bipush dX12_sheet_10 (by decide) ?_
    refine hh_icmp_le (tgt := 18) dX12_sheet_12 (by decide) (fun c => ?_) (fun c => ?_)
    · replace h := h.1 c
      refine hh_iload_n dX12_sheet_18 rfl ?_
      refine hh_if_ge (tgt := 26) dX12_sheet_19 (by decide) (fun c => ?_) (fun c => ?_)
      · replace h := h.1 c
        obtain ⟨q1, h⟩ := h
        refine hh_aload_n dX12_sheet_26 rfl ?_
        refine hh_getR dX12_sheet_27 kf_X12_61 rf_128_33 ?_
        refine hh_iload_n dX12_sheet_30 rfl ?_
        refine hh_iload_n dX12_sheet_31 rfl ?_
        refine hh_iast dX12_sheet_32 ra_146 q1 ?_
        refine hh_iconst dX12_sheet_33 (by decide) ?_
        refine hh_istore_n dX12_sheet_34 (by decide) rfl ?_
        obtain ⟨n, h⟩ := h
        exact hh_forget [true, true, true, true] (l_X12_sheet_35 n _ _ _ _ h)
      · replace h := h.2 c
        refine hh_ldc_w (n := -1000000014) dX12_sheet_22 kc_X12_273 (by decide) ?_
        exact hh_ireturn dX12_sheet_25 rfl h
    · replace h := h.2 c
      refine hh_ldc (n := -1000000001) dX12_sheet_15 kc_X12_72 (by decide) ?_
      exact hh_ireturn dX12_sheet_17 rfl h
theorem wp_X12_sheet {d : Nat} (a1 a2 : Int) {σ : hh_S} {Q : Int → hh_S → Prop} (h : hh_cs σ → hh_can a1 → hh_can a2 → P_X12_sheet d a1 a2 σ Q) : hh_Sp (d + 1) hm_X12_sheet [hh_R 128, hh_I a1, hh_I a2] σ Q :=
  hh_entry rfl (Nat.le_of_ble_eq_true rfl) rfl (fun hs hc => w_X12_sheet (h hs (hc _ (List.mem_of_getElem? (i := 1) rfl)) (hc _ (List.mem_of_getElem? (i := 2) rfl))))
def P_X12_mark (d : Nat) (a1 a2 a3 : Int) (σ : hh_S) (Q : Int → hh_S → Prop) : Prop :=
  hh_Sp d hm_X12_in [hh_I a1, hh_I 0, hh_I 1] σ (fun r3 σ3 => (¬ r3 = 0 → ((0 ≤ a1 ∧ a1 < 2)) ∧ ((¬ σ3 146 a1 = (-1) → ((0 ≤ a1 ∧ a1 < 2) ∧ (-2147483648 ≤ σ3 146 a1 - 1 ∧ σ3 146 a1 - 1 ≤ 2147483647)) ∧ (hh_Sp d hm_X12_in [hh_I a2, hh_I 0, hh_I (σ3 146 a1 - 1)] σ3 (fun r35 σ35 => (¬ r35 = 0 → ((-2147483648 ≤ 20 * a1 ∧ 20 * a1 ≤ 2147483647) ∧ (-2147483648 ≤ 20 * a1 + a2 ∧ 20 * a1 + a2 ≤ 2147483647) ∧ (0 ≤ 20 * a1 + a2 ∧ 20 * a1 + a2 < 40)) ∧ (Q (σ35 145 (20 * a1 + a2)) (hh_up σ35 145 (20 * a1 + a2) (hh_i2s a3)))) ∧ (r35 = 0 → Q (-1000000013) σ35)))) ∧ (σ3 146 a1 = (-1) → Q (-1000000011) σ3))) ∧ (r3 = 0 → Q (-1000000001) σ3))
set_option maxRecDepth 20000 in
theorem w_X12_mark {d : Nat} {a1 a2 a3 : Int} {σ : hh_S} {Q : Int → hh_S → Prop} (h : P_X12_mark d a1 a2 a3 σ Q) : hh_J (d + 1) hm_X12_mark 0 [some (hh_R 128), some (hh_I a1), some (hh_I a2), some (hh_I a3), none] [] σ Q := by
  unfold P_X12_mark at h
  refine hh_iload_n dX12_mark_0 rfl ?_
  refine hh_iconst dX12_mark_1 (by decide) ?_
  refine hh_iconst dX12_mark_2 (by decide) ?_
  refine hh_cS3 dX12_mark_3 lk_X12_68 mo_X12_in (Nat.le_of_ble_eq_true rfl) h (fun r3 σ3 h => ?_)
  refine hh_if_ne (tgt := 12) dX12_mark_6 (by decide) (fun c => ?_) (fun c => ?_)
  · replace h := h.1 c
    obtain ⟨q1, h⟩ := h
    refine hh_aload_n dX12_mark_12 rfl ?_
    refine hh_getR dX12_mark_13 kf_X12_61 rf_128_33 ?_
    refine hh_iload_n dX12_mark_16 rfl ?_
    refine hh_iald dX12_mark_17 ra_146 q1 rfl ?_
    refine hh_iconst dX12_mark_18 (by decide) ?_
    refine hh_icmp_ne (tgt := 25) dX12_mark_19 (by decide) (fun c => ?_) (fun c => ?_)
    · replace h := h.1 c
      obtain ⟨⟨q1, q2⟩, h⟩ := h
      refine hh_iload_n dX12_mark_25 rfl ?_
      refine hh_iconst dX12_mark_26 (by decide) ?_
      refine hh_aload_n dX12_mark_27 rfl ?_
      refine hh_getR dX12_mark_28 kf_X12_61 rf_128_33 ?_
      refine hh_iload_n dX12_mark_31 rfl ?_
      refine hh_iald dX12_mark_32 ra_146 q1 rfl ?_
      refine hh_iconst dX12_mark_33 (by decide) ?_
      refine hh_isub dX12_mark_34 q2 ?_
      refine hh_cS3 dX12_mark_35 lk_X12_68 mo_X12_in (Nat.le_of_ble_eq_true rfl) h (fun r35 σ35 h => ?_)
      refine hh_if_ne (tgt := 45) dX12_mark_38 (by decide) (fun c => ?_) (fun c => ?_)
      · replace h := h.1 c
        obtain ⟨⟨q1, q2, q3⟩, h⟩ := h
        refine hh_aload_n dX12_mark_45 rfl ?_
        refine hh_getR dX12_mark_46 kf_X12_58 rf_128_32 ?_
        refine hh_bipush dX12_mark_49 (by decide) ?_
        refine hh_iload_n dX12_mark_51 rfl ?_
        refine hh_imul dX12_mark_52 q1 ?_
        refine hh_iload_n dX12_mark_53 rfl ?_
        refine hh_iadd dX12_mark_54 q2 ?_
        refine hh_iald dX12_mark_55 ra_145 q3 rfl ?_
        refine hh_istore dX12_mark_56 (by decide) rfl ?_
        refine hh_aload_n dX12_mark_58 rfl ?_
        refine hh_getR dX12_mark_59 kf_X12_58 rf_128_32 ?_
        refine hh_bipush dX12_mark_62 (by decide) ?_
        refine hh_iload_n dX12_mark_64 rfl ?_
        refine hh_imul dX12_mark_65 q1 ?_
        refine hh_iload_n dX12_mark_66 rfl ?_
        refine hh_iadd dX12_mark_67 q2 ?_
        refine hh_iload_n dX12_mark_68 rfl ?_
        refine hh_oi2s dX12_mark_69 ?_
        refine hh_iast dX12_mark_70 ra_145 q3 ?_
        refine hh_iload dX12_mark_71 rfl ?_
        exact hh_ireturn dX12_mark_73 rfl h
      · replace h := h.2 c
        refine hh_ldc_w (n := -1000000013) dX12_mark_41 kc_X12_274 (by decide) ?_
        exact hh_ireturn dX12_mark_44 rfl h
    · replace h := h.2 c
      refine hh_ldc (n := -1000000011) dX12_mark_22 kc_X12_253 (by decide) ?_
      exact hh_ireturn dX12_mark_24 rfl h
  · replace h := h.2 c
    refine hh_ldc (n := -1000000001) dX12_mark_9 kc_X12_72 (by decide) ?_
    exact hh_ireturn dX12_mark_11 rfl h
theorem wp_X12_mark {d : Nat} (a1 a2 a3 : Int) {σ : hh_S} {Q : Int → hh_S → Prop} (h : hh_cs σ → hh_can a1 → hh_can a2 → hh_can a3 → P_X12_mark d a1 a2 a3 σ Q) : hh_Sp (d + 1) hm_X12_mark [hh_R 128, hh_I a1, hh_I a2, hh_I a3] σ Q :=
  hh_entry rfl (Nat.le_of_ble_eq_true rfl) rfl (fun hs hc => w_X12_mark (h hs (hc _ (List.mem_of_getElem? (i := 1) rfl)) (hc _ (List.mem_of_getElem? (i := 2) rfl)) (hc _ (List.mem_of_getElem? (i := 3) rfl))))
def B_X12_copy_129 (d : Nat) (Q : Int → hh_S → Prop) (k129 : Int → Int → Int → Int → hh_S → Prop) (x3 x4 x5 x6 : Int) (σ : hh_S) : Prop :=
  (x5 ≤ x6 → Q x5 σ) ∧ (¬ x5 ≤ x6 → ((-2147483648 ≤ 20 * x3 ∧ 20 * x3 ≤ 2147483647) ∧ (-2147483648 ≤ 20 * x3 + x4 ∧ 20 * x3 + x4 ≤ 2147483647) ∧ (-2147483648 ≤ 20 * x3 + x4 + x6 ∧ 20 * x3 + x4 + x6 ≤ 2147483647) ∧ (0 ≤ x6 ∧ x6 < 20) ∧ (0 ≤ 20 * x3 + x4 + x6 ∧ 20 * x3 + x4 + x6 < 40) ∧ (-2147483648 ≤ x6 + 1 ∧ x6 + 1 ≤ 2147483647)) ∧ (k129 x3 x4 x5 (x6 + 1) (hh_up σ 145 (20 * x3 + x4 + x6) (σ 147 x6))))
def B_X12_copy_126 (d : Nat) (Q : Int → hh_S → Prop) (x3 x4 x5 : Int) (σ : hh_S) : Prop :=
  ∃ n, hh_lp4 (B_X12_copy_129 d Q) n x3 x4 x5 0 σ
def B_X12_copy_92 (d : Nat) (Q : Int → hh_S → Prop) (k92 : Int → Int → Int → Int → Int → Int → hh_S → Prop) (x1 x2 x3 x4 x5 x6 : Int) (σ : hh_S) : Prop :=
  (x5 ≤ x6 → B_X12_copy_126 d Q x3 x4 x5 σ) ∧ (¬ x5 ≤ x6 → ((-2147483648 ≤ 20 * x1 ∧ 20 * x1 ≤ 2147483647) ∧ (-2147483648 ≤ 20 * x1 + x2 ∧ 20 * x1 + x2 ≤ 2147483647) ∧ (-2147483648 ≤ 20 * x1 + x2 + x6 ∧ 20 * x1 + x2 + x6 ≤ 2147483647) ∧ (0 ≤ 20 * x1 + x2 + x6 ∧ 20 * x1 + x2 + x6 < 40) ∧ (0 ≤ x6 ∧ x6 < 20) ∧ (-2147483648 ≤ x6 + 1 ∧ x6 + 1 ≤ 2147483647)) ∧ (k92 x1 x2 x3 x4 x5 (x6 + 1) (hh_up σ 147 x6 (σ 145 (20 * x1 + x2 + x6)))))
def P_X12_copy (d : Nat) (a1 a2 a3 a4 a5 : Int) (σ : hh_S) (Q : Int → hh_S → Prop) : Prop :=
  hh_Sp d hm_X12_in [hh_I a1, hh_I 0, hh_I 1] σ (fun r3 σ3 => (r3 = 0 → Q (-1000000001) σ3) ∧ (¬ r3 = 0 → hh_Sp d hm_X12_in [hh_I a3, hh_I 0, hh_I 1] σ3 (fun r12 σ12 => (¬ r12 = 0 → ((0 ≤ a1 ∧ a1 < 2)) ∧ ((σ12 146 a1 = (-1) → Q (-1000000011) σ12) ∧ (¬ σ12 146 a1 = (-1) → ((0 ≤ a3 ∧ a3 < 2)) ∧ ((¬ σ12 146 a3 = (-1) → (a2 < 0 → Q (-1000000013) σ12) ∧ (¬ a2 < 0 → (a4 < 0 → Q (-1000000013) σ12) ∧ (¬ a4 < 0 → (a5 < 0 → Q (-1000000013) σ12) ∧ (¬ a5 < 0 → ((0 ≤ a1 ∧ a1 < 2) ∧ (-2147483648 ≤ σ12 146 a1 - a5 ∧ σ12 146 a1 - a5 ≤ 2147483647)) ∧ ((σ12 146 a1 - a5 < a2 → Q (-1000000013) σ12) ∧ (¬ σ12 146 a1 - a5 < a2 → ((0 ≤ a3 ∧ a3 < 2) ∧ (-2147483648 ≤ σ12 146 a3 - a5 ∧ σ12 146 a3 - a5 ≤ 2147483647)) ∧ ((a4 ≤ σ12 146 a3 - a5 → ∃ n, hh_lp6 (B_X12_copy_92 d Q) n a1 a2 a3 a4 a5 0 σ12) ∧ (¬ a4 ≤ σ12 146 a3 - a5 → Q (-1000000013) σ12)))))))) ∧ (σ12 146 a3 = (-1) → Q (-1000000011) σ12))))) ∧ (r12 = 0 → Q (-1000000001) σ12))))
set_option maxRecDepth 20000 in
theorem w_X12_copy_129 {d : Nat} {Q : Int → hh_S → Prop} {k129 : Int → Int → Int → Int → hh_S → Prop} (hk129 : ∀ (x3 x4 x5 x6 : Int) (σ : hh_S), k129 x3 x4 x5 x6 σ → hh_J (d + 1) hm_X12_copy 129 [some (hh_R 128), none, none, some (hh_I x3), some (hh_I x4), some (hh_I x5), some (hh_I x6)] [] σ Q) (x3 x4 x5 x6 : Int) (σ : hh_S) (h : B_X12_copy_129 d Q k129 x3 x4 x5 x6 σ) : hh_J (d + 1) hm_X12_copy 129 [some (hh_R 128), none, none, some (hh_I x3), some (hh_I x4), some (hh_I x5), some (hh_I x6)] [] σ Q := by
  unfold B_X12_copy_129 at h
  refine hh_iload dX12_copy_129 rfl ?_
  refine hh_iload dX12_copy_131 rfl ?_
  refine hh_icmp_ge (tgt := 164) dX12_copy_133 (by decide) (fun c => ?_) (fun c => ?_)
  · replace h := h.1 c
    refine hh_iload dX12_copy_164 rfl ?_
    exact hh_ireturn dX12_copy_166 rfl h
  · replace h := h.2 c
    obtain ⟨⟨q1, q2, q3, q4, q5, q6⟩, h⟩ := h
    refine hh_aload_n dX12_copy_136 rfl ?_
    refine hh_getR dX12_copy_137 kf_X12_58 rf_128_32 ?_
    refine hh_bipush dX12_copy_140 (by decide) ?_
    refine hh_iload_n dX12_copy_142 rfl ?_
    refine hh_imul dX12_copy_143 q1 ?_
    refine hh_iload dX12_copy_144 rfl ?_
    refine hh_iadd dX12_copy_146 q2 ?_
    refine hh_iload dX12_copy_147 rfl ?_
    refine hh_iadd dX12_copy_149 q3 ?_
    refine hh_aload_n dX12_copy_150 rfl ?_
    refine hh_getR dX12_copy_151 kf_X12_64 rf_128_34 ?_
    refine hh_iload dX12_copy_154 rfl ?_
    refine hh_iald dX12_copy_156 ra_147 q4 rfl ?_
    refine hh_iast dX12_copy_157 ra_145 q5 ?_
    refine hh_iinc dX12_copy_158 (by decide) rfl rfl q6 ?_
    refine hh_goto (tgt := 129) dX12_copy_161 (by decide) ?_
    exact hh_forget [true, false, false, true, true, true, true] (hk129 _ _ _ _ _ h)
theorem l_X12_copy_129 {d : Nat} {Q : Int → hh_S → Prop} : ∀ (n : Nat) (x3 x4 x5 x6 : Int) (σ : hh_S), hh_lp4 (B_X12_copy_129 d Q) n x3 x4 x5 x6 σ → hh_J (d + 1) hm_X12_copy 129 [some (hh_R 128), none, none, some (hh_I x3), some (hh_I x4), some (hh_I x5), some (hh_I x6)] [] σ Q := by
  intro n
  induction n with
  | zero => intro _ _ _ _ _ h; exact h.elim
  | succ n ih => intro x3 x4 x5 x6 σ h; exact w_X12_copy_129 ih x3 x4 x5 x6 σ h
set_option maxRecDepth 20000 in
theorem w_X12_copy_126 {d : Nat} {Q : Int → hh_S → Prop} (x3 x4 x5 : Int) (σ : hh_S) (h : B_X12_copy_126 d Q x3 x4 x5 σ) : hh_J (d + 1) hm_X12_copy 126 [some (hh_R 128), none, none, some (hh_I x3), some (hh_I x4), some (hh_I x5), none] [] σ Q := by
  unfold B_X12_copy_126 at h
  refine hh_iconst dX12_copy_126 (by decide) ?_
  refine hh_istore dX12_copy_127 (by decide) rfl ?_
  obtain ⟨n, h⟩ := h
  exact hh_forget [true, false, false, true, true, true, true] (l_X12_copy_129 n _ _ _ _ _ h)
set_option maxRecDepth 20000 in
theorem w_X12_copy_92 {d : Nat} {Q : Int → hh_S → Prop} {k92 : Int → Int → Int → Int → Int → Int → hh_S → Prop} (hk92 : ∀ (x1 x2 x3 x4 x5 x6 : Int) (σ : hh_S), k92 x1 x2 x3 x4 x5 x6 σ → hh_J (d + 1) hm_X12_copy 92 [some (hh_R 128), some (hh_I x1), some (hh_I x2), some (hh_I x3), some (hh_I x4), some (hh_I x5), some (hh_I x6)] [] σ Q) (x1 x2 x3 x4 x5 x6 : Int) (σ : hh_S) (h : B_X12_copy_92 d Q k92 x1 x2 x3 x4 x5 x6 σ) : hh_J (d + 1) hm_X12_copy 92 [some (hh_R 128), some (hh_I x1), some (hh_I x2), some (hh_I x3), some (hh_I x4), some (hh_I x5), some (hh_I x6)] [] σ Q := by
  unfold B_X12_copy_92 at h
  refine hh_iload dX12_copy_92 rfl ?_
  refine hh_iload dX12_copy_94 rfl ?_
  refine hh_icmp_ge (tgt := 126) dX12_copy_96 (by decide) (fun c => ?_) (fun c => ?_)
  · replace h := h.1 c
    exact hh_forget [true, false, false, true, true, true, false] (w_X12_copy_126 _ _ _ _ h)
  · replace h := h.2 c
    obtain ⟨⟨q1, q2, q3, q4, q5, q6⟩, h⟩ := h
    refine hh_aload_n dX12_copy_99 rfl ?_
    refine hh_getR dX12_copy_100 kf_X12_64 rf_128_34 ?_
    refine hh_iload dX12_copy_103 rfl ?_
    refine hh_aload_n dX12_copy_105 rfl ?_
    refine hh_getR dX12_copy_106 kf_X12_58 rf_128_32 ?_
    refine hh_bipush dX12_copy_109 (by decide) ?_
    refine hh_iload_n dX12_copy_111 rfl ?_
    refine hh_imul dX12_copy_112 q1 ?_
    refine hh_iload_n dX12_copy_113 rfl ?_
    refine hh_iadd dX12_copy_114 q2 ?_
    refine hh_iload dX12_copy_115 rfl ?_
    refine hh_iadd dX12_copy_117 q3 ?_
    refine hh_iald dX12_copy_118 ra_145 q4 rfl ?_
    refine hh_iast dX12_copy_119 ra_147 q5 ?_
    refine hh_iinc dX12_copy_120 (by decide) rfl rfl q6 ?_
    refine hh_goto (tgt := 92) dX12_copy_123 (by decide) ?_
    exact hh_forget [true, true, true, true, true, true, true] (hk92 _ _ _ _ _ _ _ h)
theorem l_X12_copy_92 {d : Nat} {Q : Int → hh_S → Prop} : ∀ (n : Nat) (x1 x2 x3 x4 x5 x6 : Int) (σ : hh_S), hh_lp6 (B_X12_copy_92 d Q) n x1 x2 x3 x4 x5 x6 σ → hh_J (d + 1) hm_X12_copy 92 [some (hh_R 128), some (hh_I x1), some (hh_I x2), some (hh_I x3), some (hh_I x4), some (hh_I x5), some (hh_I x6)] [] σ Q := by
  intro n
  induction n with
  | zero => intro _ _ _ _ _ _ _ h; exact h.elim
  | succ n ih => intro x1 x2 x3 x4 x5 x6 σ h; exact w_X12_copy_92 ih x1 x2 x3 x4 x5 x6 σ h
set_option maxRecDepth 20000 in
theorem w_X12_copy {d : Nat} {a1 a2 a3 a4 a5 : Int} {σ : hh_S} {Q : Int → hh_S → Prop} (h : P_X12_copy d a1 a2 a3 a4 a5 σ Q) : hh_J (d + 1) hm_X12_copy 0 [some (hh_R 128), some (hh_I a1), some (hh_I a2), some (hh_I a3), some (hh_I a4), some (hh_I a5), none] [] σ Q := by
  unfold P_X12_copy at h
  refine hh_iload_n dX12_copy_0 rfl ?_
  refine hh_iconst dX12_copy_1 (by decide) ?_
  refine hh_iconst dX12_copy_2 (by decide) ?_
  refine hh_cS3 dX12_copy_3 lk_X12_68 mo_X12_in (Nat.le_of_ble_eq_true rfl) h (fun r3 σ3 h => ?_)
  refine hh_if_eq (tgt := 18) dX12_copy_6 (by decide) (fun c => ?_) (fun c => ?_)
  · replace h := h.1 c
    refine hh_ldc (n := -1000000001) dX12_copy_18 kc_X12_72 (by decide) ?_
    exact hh_ireturn dX12_copy_20 rfl h
  · replace h := h.2 c
    refine hh_iload_n dX12_copy_9 rfl ?_
    refine hh_iconst dX12_copy_10 (by decide) ?_
    refine hh_iconst dX12_copy_11 (by decide) ?_
    refine hh_cS3 dX12_copy_12 lk_X12_68 mo_X12_in (Nat.le_of_ble_eq_true rfl) h (fun r12 σ12 h => ?_)
    refine hh_if_ne (tgt := 21) dX12_copy_15 (by decide) (fun c => ?_) (fun c => ?_)
    · replace h := h.1 c
      obtain ⟨q1, h⟩ := h
      refine hh_aload_n dX12_copy_21 rfl ?_
      refine hh_getR dX12_copy_22 kf_X12_61 rf_128_33 ?_
      refine hh_iload_n dX12_copy_25 rfl ?_
      refine hh_iald dX12_copy_26 ra_146 q1 rfl ?_
      refine hh_iconst dX12_copy_27 (by decide) ?_
      refine hh_icmp_eq (tgt := 41) dX12_copy_28 (by decide) (fun c => ?_) (fun c => ?_)
      · replace h := h.1 c
        refine hh_ldc (n := -1000000011) dX12_copy_41 kc_X12_253 (by decide) ?_
        exact hh_ireturn dX12_copy_43 rfl h
      · replace h := h.2 c
        obtain ⟨q1, h⟩ := h
        refine hh_aload_n dX12_copy_31 rfl ?_
        refine hh_getR dX12_copy_32 kf_X12_61 rf_128_33 ?_
        refine hh_iload_n dX12_copy_35 rfl ?_
        refine hh_iald dX12_copy_36 ra_146 q1 rfl ?_
        refine hh_iconst dX12_copy_37 (by decide) ?_
        refine hh_icmp_ne (tgt := 44) dX12_copy_38 (by decide) (fun c => ?_) (fun c => ?_)
        · replace h := h.1 c
          refine hh_iload_n dX12_copy_44 rfl ?_
          refine hh_if_lt (tgt := 85) dX12_copy_45 (by decide) (fun c => ?_) (fun c => ?_)
          · replace h := h.1 c
            refine hh_ldc_w (n := -1000000013) dX12_copy_85 kc_X12_274 (by decide) ?_
            exact hh_ireturn dX12_copy_88 rfl h
          · replace h := h.2 c
            refine hh_iload dX12_copy_48 rfl ?_
            refine hh_if_lt (tgt := 85) dX12_copy_50 (by decide) (fun c => ?_) (fun c => ?_)
            · replace h := h.1 c
              refine hh_ldc_w (n := -1000000013) dX12_copy_85 kc_X12_274 (by decide) ?_
              exact hh_ireturn dX12_copy_88 rfl h
            · replace h := h.2 c
              refine hh_iload dX12_copy_53 rfl ?_
              refine hh_if_lt (tgt := 85) dX12_copy_55 (by decide) (fun c => ?_) (fun c => ?_)
              · replace h := h.1 c
                refine hh_ldc_w (n := -1000000013) dX12_copy_85 kc_X12_274 (by decide) ?_
                exact hh_ireturn dX12_copy_88 rfl h
              · replace h := h.2 c
                obtain ⟨⟨q1, q2⟩, h⟩ := h
                refine hh_iload_n dX12_copy_58 rfl ?_
                refine hh_aload_n dX12_copy_59 rfl ?_
                refine hh_getR dX12_copy_60 kf_X12_61 rf_128_33 ?_
                refine hh_iload_n dX12_copy_63 rfl ?_
                refine hh_iald dX12_copy_64 ra_146 q1 rfl ?_
                refine hh_iload dX12_copy_65 rfl ?_
                refine hh_isub dX12_copy_67 q2 ?_
                refine hh_icmp_gt (tgt := 85) dX12_copy_68 (by decide) (fun c => ?_) (fun c => ?_)
                · replace h := h.1 c
                  refine hh_ldc_w (n := -1000000013) dX12_copy_85 kc_X12_274 (by decide) ?_
                  exact hh_ireturn dX12_copy_88 rfl h
                · replace h := h.2 c
                  obtain ⟨⟨q1, q2⟩, h⟩ := h
                  refine hh_iload dX12_copy_71 rfl ?_
                  refine hh_aload_n dX12_copy_73 rfl ?_
                  refine hh_getR dX12_copy_74 kf_X12_61 rf_128_33 ?_
                  refine hh_iload_n dX12_copy_77 rfl ?_
                  refine hh_iald dX12_copy_78 ra_146 q1 rfl ?_
                  refine hh_iload dX12_copy_79 rfl ?_
                  refine hh_isub dX12_copy_81 q2 ?_
                  refine hh_icmp_le (tgt := 89) dX12_copy_82 (by decide) (fun c => ?_) (fun c => ?_)
                  · replace h := h.1 c
                    refine hh_iconst dX12_copy_89 (by decide) ?_
                    refine hh_istore dX12_copy_90 (by decide) rfl ?_
                    obtain ⟨n, h⟩ := h
                    exact hh_forget [true, true, true, true, true, true, true] (l_X12_copy_92 n _ _ _ _ _ _ _ h)
                  · replace h := h.2 c
                    refine hh_ldc_w (n := -1000000013) dX12_copy_85 kc_X12_274 (by decide) ?_
                    exact hh_ireturn dX12_copy_88 rfl h
        · replace h := h.2 c
          refine hh_ldc (n := -1000000011) dX12_copy_41 kc_X12_253 (by decide) ?_
          exact hh_ireturn dX12_copy_43 rfl h
    · replace h := h.2 c
      refine hh_ldc (n := -1000000001) dX12_copy_18 kc_X12_72 (by decide) ?_
      exact hh_ireturn dX12_copy_20 rfl h
theorem wp_X12_copy {d : Nat} (a1 a2 a3 a4 a5 : Int) {σ : hh_S} {Q : Int → hh_S → Prop} (h : hh_cs σ → hh_can a1 → hh_can a2 → hh_can a3 → hh_can a4 → hh_can a5 → P_X12_copy d a1 a2 a3 a4 a5 σ Q) : hh_Sp (d + 1) hm_X12_copy [hh_R 128, hh_I a1, hh_I a2, hh_I a3, hh_I a4, hh_I a5] σ Q :=
  hh_entry rfl (Nat.le_of_ble_eq_true rfl) rfl (fun hs hc => w_X12_copy (h hs (hc _ (List.mem_of_getElem? (i := 1) rfl)) (hc _ (List.mem_of_getElem? (i := 2) rfl)) (hc _ (List.mem_of_getElem? (i := 3) rfl)) (hc _ (List.mem_of_getElem? (i := 4) rfl)) (hc _ (List.mem_of_getElem? (i := 5) rfl))))
def B_X12_count_181 (d : Nat) (Q : Int → hh_S → Prop) (k181 : Int → Int → hh_S → Prop) (x2 x3 : Int) (σ : hh_S) : Prop :=
  (σ 129 6 ≤ x3 → Q x2 σ) ∧ (¬ σ 129 6 ≤ x3 → ((-2147483648 ≤ 20 * x3 ∧ 20 * x3 ≤ 2147483647) ∧ (-2147483648 ≤ 50 + 20 * x3 ∧ 50 + 20 * x3 ≤ 2147483647) ∧ (-2147483648 ≤ 50 + 20 * x3 + 3 ∧ 50 + 20 * x3 + 3 ≤ 2147483647) ∧ (0 ≤ 50 + 20 * x3 + 3 ∧ 50 + 20 * x3 + 3 < 9100) ∧ (-2147483648 ≤ x2 + (σ 129 (50 + 20 * x3 + 3)) ∧ x2 + (σ 129 (50 + 20 * x3 + 3)) ≤ 2147483647) ∧ (-2147483648 ≤ x3 + 1 ∧ x3 + 1 ≤ 2147483647)) ∧ (k181 (x2 + (σ 129 (50 + 20 * x3 + 3))) (x3 + 1) σ))
def B_X12_count_149 (d : Nat) (Q : Int → hh_S → Prop) (k149 : Int → Int → hh_S → Prop) (x2 x3 : Int) (σ : hh_S) : Prop :=
  (σ 129 5 ≤ x3 → Q x2 σ) ∧ (¬ σ 129 5 ≤ x3 → ((-2147483648 ≤ 44 + x3 ∧ 44 + x3 ≤ 2147483647) ∧ (0 ≤ 44 + x3 ∧ 44 + x3 < 9100) ∧ (-2147483648 ≤ x2 + (σ 129 (44 + x3)) ∧ x2 + (σ 129 (44 + x3)) ≤ 2147483647) ∧ (-2147483648 ≤ x3 + 1 ∧ x3 + 1 ≤ 2147483647)) ∧ (k149 (x2 + (σ 129 (44 + x3))) (x3 + 1) σ))
def P_X12_count (d : Nat) (a1 : Int) (σ : hh_S) (Q : Int → hh_S → Prop) : Prop :=
  (a1 < 0 ∨ 12 < a1 → Q (-1000000001) σ) ∧ (a1 = 0 → Q (σ 129 4) σ) ∧ (a1 = 1 → Q (σ 129 5) σ) ∧ (a1 = 2 → Q (σ 129 6) σ) ∧ (a1 = 3 → Q (σ 129 7) σ) ∧ (a1 = 4 → Q (σ 129 8) σ) ∧ (a1 = 5 → Q (σ 129 9) σ) ∧ (a1 = 6 → Q (σ 129 10) σ) ∧ (a1 = 7 → Q (σ 129 11) σ) ∧ (a1 = 8 → Q (σ 128 31) σ) ∧ (a1 = 9 → Q (σ 128 6) σ) ∧ (a1 = 10 → Q (σ 129 0) σ) ∧ (a1 = 11 → ∃ n, hh_lp2 (B_X12_count_149 d Q) n 0 0 σ) ∧ (a1 = 12 → ∃ n, hh_lp2 (B_X12_count_181 d Q) n 0 0 σ)
set_option maxRecDepth 20000 in
theorem w_X12_count_181 {d : Nat} {Q : Int → hh_S → Prop} {k181 : Int → Int → hh_S → Prop} (hk181 : ∀ (x2 x3 : Int) (σ : hh_S), k181 x2 x3 σ → hh_J (d + 1) hm_X12_count 181 [some (hh_R 128), none, some (hh_I x2), some (hh_I x3)] [] σ Q) (x2 x3 : Int) (σ : hh_S) (h : B_X12_count_181 d Q k181 x2 x3 σ) : hh_J (d + 1) hm_X12_count 181 [some (hh_R 128), none, some (hh_I x2), some (hh_I x3)] [] σ Q := by
  unfold B_X12_count_181 at h
  refine hh_iload_n dX12_count_181 rfl ?_
  refine hh_aload_n dX12_count_182 rfl ?_
  refine hh_getR dX12_count_183 kf_X12_7 rf_128_0 ?_
  refine hh_bipush dX12_count_186 (by decide) ?_
  refine hh_iald dX12_count_188 ra_129 (by decide) rfl ?_
  refine hh_icmp_ge (tgt := 215) dX12_count_189 (by decide) (fun c => ?_) (fun c => ?_)
  · replace h := h.1 c
    refine hh_iload_n dX12_count_215 rfl ?_
    exact hh_ireturn dX12_count_216 rfl h
  · replace h := h.2 c
    obtain ⟨⟨q1, q2, q3, q4, q5, q6⟩, h⟩ := h
    refine hh_iload_n dX12_count_192 rfl ?_
    refine hh_aload_n dX12_count_193 rfl ?_
    refine hh_getR dX12_count_194 kf_X12_7 rf_128_0 ?_
    refine hh_bipush dX12_count_197 (by decide) ?_
    refine hh_bipush dX12_count_199 (by decide) ?_
    refine hh_iload_n dX12_count_201 rfl ?_
    refine hh_imul dX12_count_202 q1 ?_
    refine hh_iadd dX12_count_203 q2 ?_
    refine hh_iconst dX12_count_204 (by decide) ?_
    refine hh_iadd dX12_count_205 q3 ?_
    refine hh_iald dX12_count_206 ra_129 q4 rfl ?_
    refine hh_iadd dX12_count_207 q5 ?_
    refine hh_istore_n dX12_count_208 (by decide) rfl ?_
    refine hh_iinc dX12_count_209 (by decide) rfl rfl q6 ?_
    refine hh_goto (tgt := 181) dX12_count_212 (by decide) ?_
    exact hh_forget [true, false, true, true] (hk181 _ _ _ h)
theorem l_X12_count_181 {d : Nat} {Q : Int → hh_S → Prop} : ∀ (n : Nat) (x2 x3 : Int) (σ : hh_S), hh_lp2 (B_X12_count_181 d Q) n x2 x3 σ → hh_J (d + 1) hm_X12_count 181 [some (hh_R 128), none, some (hh_I x2), some (hh_I x3)] [] σ Q := by
  intro n
  induction n with
  | zero => intro _ _ _ h; exact h.elim
  | succ n ih => intro x2 x3 σ h; exact w_X12_count_181 ih x2 x3 σ h
set_option maxRecDepth 20000 in
theorem w_X12_count_149 {d : Nat} {Q : Int → hh_S → Prop} {k149 : Int → Int → hh_S → Prop} (hk149 : ∀ (x2 x3 : Int) (σ : hh_S), k149 x2 x3 σ → hh_J (d + 1) hm_X12_count 149 [some (hh_R 128), none, some (hh_I x2), some (hh_I x3)] [] σ Q) (x2 x3 : Int) (σ : hh_S) (h : B_X12_count_149 d Q k149 x2 x3 σ) : hh_J (d + 1) hm_X12_count 149 [some (hh_R 128), none, some (hh_I x2), some (hh_I x3)] [] σ Q := by
  unfold B_X12_count_149 at h
  refine hh_iload_n dX12_count_149 rfl ?_
  refine hh_aload_n dX12_count_150 rfl ?_
  refine hh_getR dX12_count_151 kf_X12_7 rf_128_0 ?_
  refine hh_iconst dX12_count_154 (by decide) ?_
  refine hh_iald dX12_count_155 ra_129 (by decide) rfl ?_
  refine hh_icmp_ge (tgt := 177) dX12_count_156 (by decide) (fun c => ?_) (fun c => ?_)
  · replace h := h.1 c
    refine hh_iload_n dX12_count_177 rfl ?_
    exact hh_ireturn dX12_count_178 rfl h
  · replace h := h.2 c
    obtain ⟨⟨q1, q2, q3, q4⟩, h⟩ := h
    refine hh_iload_n dX12_count_159 rfl ?_
    refine hh_aload_n dX12_count_160 rfl ?_
    refine hh_getR dX12_count_161 kf_X12_7 rf_128_0 ?_
    refine hh_bipush dX12_count_164 (by decide) ?_
    refine hh_iload_n dX12_count_166 rfl ?_
    refine hh_iadd dX12_count_167 q1 ?_
    refine hh_iald dX12_count_168 ra_129 q2 rfl ?_
    refine hh_iadd dX12_count_169 q3 ?_
    refine hh_istore_n dX12_count_170 (by decide) rfl ?_
    refine hh_iinc dX12_count_171 (by decide) rfl rfl q4 ?_
    refine hh_goto (tgt := 149) dX12_count_174 (by decide) ?_
    exact hh_forget [true, false, true, true] (hk149 _ _ _ h)
theorem l_X12_count_149 {d : Nat} {Q : Int → hh_S → Prop} : ∀ (n : Nat) (x2 x3 : Int) (σ : hh_S), hh_lp2 (B_X12_count_149 d Q) n x2 x3 σ → hh_J (d + 1) hm_X12_count 149 [some (hh_R 128), none, some (hh_I x2), some (hh_I x3)] [] σ Q := by
  intro n
  induction n with
  | zero => intro _ _ _ h; exact h.elim
  | succ n ih => intro x2 x3 σ h; exact w_X12_count_149 ih x2 x3 σ h
set_option maxRecDepth 20000 in
theorem w_X12_count {d : Nat} {a1 : Int} {σ : hh_S} {Q : Int → hh_S → Prop} (h : P_X12_count d a1 σ Q) : hh_J (d + 1) hm_X12_count 0 [some (hh_R 128), some (hh_I a1), none, none] [] σ Q := by
  unfold P_X12_count at h
  refine hh_iconst dX12_count_0 (by decide) ?_
  refine hh_istore_n dX12_count_1 (by decide) rfl ?_
  refine hh_iload_n dX12_count_2 rfl ?_
  refine hh_table dX12_count_3 (fun tgt ht c => ?_) ⟨217, by decide⟩ (fun c1 c2 => ?_)
  · obtain rfl : tgt = 217 := by omega
    replace h := h.1 c
    refine hh_ldc (n := -1000000001) dX12_count_217 kc_X12_72 (by decide) ?_
    exact hh_ireturn dX12_count_219 rfl h
  · rcases (show a1 = 0 ∨ a1 = 1 ∨ a1 = 2 ∨ a1 = 3 ∨ a1 = 4 ∨ a1 = 5 ∨ a1 = 6 ∨ a1 = 7 ∨ a1 = 8 ∨ a1 = 9 ∨ a1 = 10 ∨ a1 = 11 ∨ a1 = 12 by omega) with c | c | c | c | c | c | c | c | c | c | c | c | c
    · refine ⟨65, 68, by rw [c]; rfl, by decide, ?_⟩
      replace h := h.2.1 c
      refine hh_aload_n dX12_count_68 rfl ?_
      refine hh_getR dX12_count_69 kf_X12_7 rf_128_0 ?_
      refine hh_iconst dX12_count_72 (by decide) ?_
      refine hh_iald dX12_count_73 ra_129 (by decide) rfl ?_
      exact hh_ireturn dX12_count_74 rfl h
    · refine ⟨72, 75, by rw [c]; rfl, by decide, ?_⟩
      replace h := h.2.2.1 c
      refine hh_aload_n dX12_count_75 rfl ?_
      refine hh_getR dX12_count_76 kf_X12_7 rf_128_0 ?_
      refine hh_iconst dX12_count_79 (by decide) ?_
      refine hh_iald dX12_count_80 ra_129 (by decide) rfl ?_
      exact hh_ireturn dX12_count_81 rfl h
    · refine ⟨79, 82, by rw [c]; rfl, by decide, ?_⟩
      replace h := h.2.2.2.1 c
      refine hh_aload_n dX12_count_82 rfl ?_
      refine hh_getR dX12_count_83 kf_X12_7 rf_128_0 ?_
      refine hh_bipush dX12_count_86 (by decide) ?_
      refine hh_iald dX12_count_88 ra_129 (by decide) rfl ?_
      exact hh_ireturn dX12_count_89 rfl h
    · refine ⟨87, 90, by rw [c]; rfl, by decide, ?_⟩
      replace h := h.2.2.2.2.1 c
      refine hh_aload_n dX12_count_90 rfl ?_
      refine hh_getR dX12_count_91 kf_X12_7 rf_128_0 ?_
      refine hh_bipush dX12_count_94 (by decide) ?_
      refine hh_iald dX12_count_96 ra_129 (by decide) rfl ?_
      exact hh_ireturn dX12_count_97 rfl h
    · refine ⟨95, 98, by rw [c]; rfl, by decide, ?_⟩
      replace h := h.2.2.2.2.2.1 c
      refine hh_aload_n dX12_count_98 rfl ?_
      refine hh_getR dX12_count_99 kf_X12_7 rf_128_0 ?_
      refine hh_bipush dX12_count_102 (by decide) ?_
      refine hh_iald dX12_count_104 ra_129 (by decide) rfl ?_
      exact hh_ireturn dX12_count_105 rfl h
    · refine ⟨103, 106, by rw [c]; rfl, by decide, ?_⟩
      replace h := h.2.2.2.2.2.2.1 c
      refine hh_aload_n dX12_count_106 rfl ?_
      refine hh_getR dX12_count_107 kf_X12_7 rf_128_0 ?_
      refine hh_bipush dX12_count_110 (by decide) ?_
      refine hh_iald dX12_count_112 ra_129 (by decide) rfl ?_
      exact hh_ireturn dX12_count_113 rfl h
    · refine ⟨111, 114, by rw [c]; rfl, by decide, ?_⟩
      replace h := h.2.2.2.2.2.2.2.1 c
      refine hh_aload_n dX12_count_114 rfl ?_
      refine hh_getR dX12_count_115 kf_X12_7 rf_128_0 ?_
      refine hh_bipush dX12_count_118 (by decide) ?_
      refine hh_iald dX12_count_120 ra_129 (by decide) rfl ?_
      exact hh_ireturn dX12_count_121 rfl h
    · refine ⟨119, 122, by rw [c]; rfl, by decide, ?_⟩
      replace h := h.2.2.2.2.2.2.2.2.1 c
      refine hh_aload_n dX12_count_122 rfl ?_
      refine hh_getR dX12_count_123 kf_X12_7 rf_128_0 ?_
      refine hh_bipush dX12_count_126 (by decide) ?_
      refine hh_iald dX12_count_128 ra_129 (by decide) rfl ?_
      exact hh_ireturn dX12_count_129 rfl h
    · refine ⟨127, 130, by rw [c]; rfl, by decide, ?_⟩
      replace h := h.2.2.2.2.2.2.2.2.2.1 c
      refine hh_aload_n dX12_count_130 rfl ?_
      refine hh_getI dX12_count_131 kf_X12_267 rf_128_31 rfl ?_
      exact hh_ireturn dX12_count_134 rfl h
    · refine ⟨132, 135, by rw [c]; rfl, by decide, ?_⟩
      replace h := h.2.2.2.2.2.2.2.2.2.2.1 c
      refine hh_aload_n dX12_count_135 rfl ?_
      refine hh_getI dX12_count_136 kf_X12_113 rf_128_6 rfl ?_
      exact hh_ireturn dX12_count_139 rfl h
    · refine ⟨137, 140, by rw [c]; rfl, by decide, ?_⟩
      replace h := h.2.2.2.2.2.2.2.2.2.2.2.1 c
      refine hh_aload_n dX12_count_140 rfl ?_
      refine hh_getR dX12_count_141 kf_X12_7 rf_128_0 ?_
      refine hh_iconst dX12_count_144 (by decide) ?_
      refine hh_iald dX12_count_145 ra_129 (by decide) rfl ?_
      exact hh_ireturn dX12_count_146 rfl h
    · refine ⟨144, 147, by rw [c]; rfl, by decide, ?_⟩
      replace h := h.2.2.2.2.2.2.2.2.2.2.2.2.1 c
      refine hh_iconst dX12_count_147 (by decide) ?_
      refine hh_istore_n dX12_count_148 (by decide) rfl ?_
      obtain ⟨n, h⟩ := h
      exact hh_forget [true, false, true, true] (l_X12_count_149 n _ _ _ h)
    · refine ⟨176, 179, by rw [c]; rfl, by decide, ?_⟩
      replace h := h.2.2.2.2.2.2.2.2.2.2.2.2.2 c
      refine hh_iconst dX12_count_179 (by decide) ?_
      refine hh_istore_n dX12_count_180 (by decide) rfl ?_
      obtain ⟨n, h⟩ := h
      exact hh_forget [true, false, true, true] (l_X12_count_181 n _ _ _ h)
theorem wp_X12_count {d : Nat} (a1 : Int) {σ : hh_S} {Q : Int → hh_S → Prop} (h : hh_cs σ → hh_can a1 → P_X12_count d a1 σ Q) : hh_Sp (d + 1) hm_X12_count [hh_R 128, hh_I a1] σ Q :=
  hh_entry rfl (Nat.le_of_ble_eq_true rfl) rfl (fun hs hc => w_X12_count (h hs (hc _ (List.mem_of_getElem? (i := 1) rfl))))
