theorem hh_i2s_eq (x : Int) : hh_i2s x = (Int16.ofInt x).toInt := by
  unfold hh_i2s
  rw [Int16.toInt_toInt32, Int32.toInt16_ofInt]
theorem hh_i2b_eq (x : Int) : hh_i2b x = (Int8.ofInt x).toInt := by
  unfold hh_i2b
  rw [Int8.toInt_toInt32, Int32.toInt8_ofInt]
theorem hh_i2s_id (x : Int) : hh_i2s (hh_i2s x) = hh_i2s x := by
  rw [hh_i2s_eq, hh_i2s_eq, Int16.ofInt_toInt]
theorem hh_i2b_id (x : Int) : hh_i2b (hh_i2b x) = hh_i2b x := by
  rw [hh_i2b_eq, hh_i2b_eq, Int8.ofInt_toInt]
theorem hh_i2s_rg (x : Int) : -32768 ≤ hh_i2s x ∧ hh_i2s x ≤ 32767 := by
  rw [hh_i2s_eq]
  have h1 := (Int16.ofInt x).toInt_lt
  have h2 := (Int16.ofInt x).le_toInt
  omega
theorem hh_i2s_0 : hh_i2s 0 = 0 := by decide +kernel
set_option maxHeartbeats 2000000 in
theorem o_tell {σ : hh_S} {a1 : Int} (h : hr_R σ) : hr_op2 hm_X11_tell hm_X12_tell [hh_I a1] σ := by
  have w1 := h.2.2.2.1.1
  have w2 := h.2.2.2.1.2
  refine wp_X11_tell _ (fun hs h1 => ?_)
  unfold P_X11_tell
  repeat' (first | with_reducible refine And.intro ?_ ?_ | with_reducible refine hh_all_eq ?_ | simp (disch := omega) only [hh_up_ne, hh_up_at, hh_up_off, not_true_eq_false, not_false_eq_true, false_implies, true_implies, implies_true, and_true, true_and, Int.add_zero] | with_reducible intro _ | omega | refine c_within ?_ ?_)
  all_goals (refine wp_X12_tell _ (fun hs h1 => ?_); unfold P_X12_tell; repeat' (first | with_reducible refine And.intro ?_ ?_ | with_reducible refine hh_all_eq ?_ | simp (disch := omega) only [hh_up_ne, hh_up_at, hh_up_off, not_true_eq_false, not_false_eq_true, false_implies, true_implies, implies_true, and_true, true_and, Int.add_zero] | with_reducible intro _ | omega | refine c_in ?_ ?_))
  all_goals first | exact h | skip
  refine hh_name (P := hr_R) (fun ρ hρ => ?_)
  refine ⟨(h.1.cg (fun r r1 r2 => by rw [hρ]; simp (disch := omega) only [hh_up_ne, hh_cpy_ne]) (fun k _ _ => by rw [hρ]; simp (disch := omega) only [hh_up_ne, hh_cpy_ne])), (h.2.1.cg (by rw [hρ]; simp (disch := omega) only [hh_up_ne, hh_up_at, hh_up_off, hh_cpy_ne]) (by rw [hρ]; simp (disch := omega) only [hh_up_ne, hh_up_at, hh_up_off, hh_cpy_ne]) (fun r r1 r2 => by rw [hρ]; simp (disch := omega) only [hh_up_ne, hh_cpy_ne]) (by rw [hρ]; rfl)), (h.2.2.1.cg (by rw [hρ]; rfl) (by rw [hρ]; rfl) (by rw [hρ]; rfl) (by rw [hρ]; rfl)), ?_, (h.2.2.2.2.cg (by rw [hρ]; simp (disch := omega) only [hh_up_ne, hh_up_at, hh_up_off, hh_cpy_ne]) (by rw [hρ]; simp (disch := omega) only [hh_up_ne, hh_up_at, hh_up_off, hh_cpy_ne]) (by rw [hρ]; rfl) (by rw [hρ]; rfl))⟩
  have g1 : ρ 0 7 = σ 0 7 + 1 := by rw [hρ]; simp (disch := omega) only [hh_up_ne, hh_up_at, hh_up_off]
  have g2 : ρ 128 31 = σ 128 31 + 1 := by rw [hρ]; simp (disch := omega) only [hh_up_ne, hh_up_at, hh_up_off]
  have g3 : ∀ k : Int, ρ 122 k = if k = σ 0 7 then a1 else σ 122 k := fun k => by rw [hρ]; simp (disch := omega) only [hh_up_ne, hh_up_eq]
  have g4 : ∀ k : Int, ρ 144 k = if k = σ 128 31 then a1 else σ 144 k := fun k => by rw [hρ]; simp (disch := omega) only [hh_up_ne, hh_up_eq]
  refine ⟨by omega, fun j j1 j2 => ?_⟩
  rw [g3, g4, w1.1]
  by_cases z : j = σ 128 31
  · rw [if_pos z, if_pos z]
  · rw [if_neg z, if_neg z]
    exact w2 j j1 (by omega)
set_option maxHeartbeats 2000000 in
theorem o_trim {σ : hh_S} {a1 : Int} (h : hr_R σ) : hr_op2 hm_X11_trim hm_X12_trim [hh_I a1] σ := by
  have w1 := h.2.2.2.2.1
  have w2 := h.2.2.2.2.2
  refine wp_X11_trim _ (fun hs h1 => ?_)
  unfold P_X11_trim
  repeat' (first | with_reducible refine And.intro ?_ ?_ | with_reducible refine hh_all_eq ?_ | simp (disch := omega) only [hh_up_ne, hh_up_at, hh_up_off, not_true_eq_false, not_false_eq_true, false_implies, true_implies, implies_true, and_true, true_and, Int.add_zero] | with_reducible intro _ | omega | refine c_within ?_ ?_)
  all_goals (refine wp_X12_trim _ (fun hs h1 => ?_); unfold P_X12_trim; repeat' (first | with_reducible refine And.intro ?_ ?_ | with_reducible refine hh_all_eq ?_ | simp (disch := omega) only [hh_up_ne, hh_up_at, hh_up_off, not_true_eq_false, not_false_eq_true, false_implies, true_implies, implies_true, and_true, true_and, Int.add_zero] | with_reducible intro _ | omega | refine c_in ?_ ?_))
  all_goals first | exact h | skip
  refine hh_name (P := hr_R) (fun ρ hρ => ?_)
  refine ⟨(h.1.cg (fun r r1 r2 => by rw [hρ]; simp (disch := omega) only [hh_up_ne, hh_cpy_ne]) (fun k _ _ => by rw [hρ]; simp (disch := omega) only [hh_up_ne, hh_cpy_ne])), (h.2.1.cg (by rw [hρ]; simp (disch := omega) only [hh_up_ne, hh_up_at, hh_up_off, hh_cpy_ne]) (by rw [hρ]; simp (disch := omega) only [hh_up_ne, hh_up_at, hh_up_off, hh_cpy_ne]) (fun r r1 r2 => by rw [hρ]; simp (disch := omega) only [hh_up_ne, hh_cpy_ne]) (by rw [hρ]; rfl)), (h.2.2.1.cg (by rw [hρ]; rfl) (by rw [hρ]; rfl) (by rw [hρ]; rfl) (by rw [hρ]; rfl)), (h.2.2.2.1.cg (by rw [hρ]; simp (disch := omega) only [hh_up_ne, hh_up_at, hh_up_off, hh_cpy_ne]) (by rw [hρ]; simp (disch := omega) only [hh_up_ne, hh_up_at, hh_up_off, hh_cpy_ne]) (by rw [hρ]; rfl) (by rw [hρ]; rfl)), ?_⟩
  have g1 : ρ 109 1 = a1 := by rw [hρ]; simp (disch := omega) only [hh_up_ne, hh_up_at, hh_up_off]
  have g2 : ρ 128 6 = a1 := by rw [hρ]; simp (disch := omega) only [hh_up_ne, hh_up_at, hh_up_off]
  refine ⟨by omega, fun j j1 j2 => ?_⟩
  rw [show ρ 110 = σ 110 by rw [hρ]; rfl, show ρ 133 = σ 133 by rw [hρ]; rfl]
  exact w2 j j1 (by omega)
theorem hr_H.at {σ : hh_S} (h : hr_H σ) {i : Int} (hi : 0 ≤ i ∧ i ≤ 1) : hr_H1 σ i := by
  rcases (show i = 0 ∨ i = 1 by omega) with rfl | rfl
  · exact h.1
  · exact h.2
theorem hr_H.of {σ : hh_S} (h : ∀ i : Int, 0 ≤ i → i ≤ 1 → hr_H1 σ i) : hr_H σ := ⟨h 0 (by omega) (by omega), h 1 (by omega) (by omega)⟩
set_option maxHeartbeats 2000000 in
theorem o_mark {σ : hh_S} {a1 a2 a3 : Int} (h : hr_R σ) : hr_op2 hm_X11_mark hm_X12_mark [hh_I a1, hh_I a2, hh_I a3] σ := by
  have q1 : 0 ≤ a1 → a1 ≤ 1 → (σ 124 a1 = σ 146 a1 ∧ -1 ≤ σ 146 a1 ∧ σ 146 a1 ≤ 20) := fun z1 z2 => (h.2.2.1.at ⟨z1, z2⟩).1
  have q2 : 0 ≤ a1 → a1 ≤ 1 → 0 ≤ a2 → a2 < σ 146 a1 → σ 123 (a1 * 20 + a2) = σ 145 (20 * a1 + a2) := fun z1 z2 z3 z4 => ((h.2.2.1.at ⟨z1, z2⟩).2 a2 z3 z4).1
  refine wp_X11_mark _ _ _ (fun hs h1 h2 h3 => ?_)
  unfold P_X11_mark
  repeat' (first | with_reducible refine And.intro ?_ ?_ | with_reducible refine hh_all_eq ?_ | simp (disch := omega) only [hh_up_ne, hh_up_at, hh_up_off, not_true_eq_false, not_false_eq_true, false_implies, true_implies, implies_true, and_true, true_and, Int.add_zero] | with_reducible intro _ | omega | refine c_within ?_ ?_)
  all_goals (refine wp_X12_mark _ _ _ (fun hs h1 h2 h3 => ?_); unfold P_X12_mark; repeat' (first | with_reducible refine And.intro ?_ ?_ | with_reducible refine hh_all_eq ?_ | simp (disch := omega) only [hh_up_ne, hh_up_at, hh_up_off, not_true_eq_false, not_false_eq_true, false_implies, true_implies, implies_true, and_true, true_and, Int.add_zero] | with_reducible intro _ | omega | refine c_in ?_ ?_))
  all_goals first | exact h | skip
  refine hh_name (P := hr_R) (fun ρ hρ => ?_)
  refine ⟨(h.1.cg (fun r r1 r2 => by rw [hρ]; simp (disch := omega) only [hh_up_ne, hh_cpy_ne]) (fun k _ _ => by rw [hρ]; simp (disch := omega) only [hh_up_ne, hh_cpy_ne])), (h.2.1.cg (by rw [hρ]; simp (disch := omega) only [hh_up_ne, hh_up_at, hh_up_off, hh_cpy_ne]) (by rw [hρ]; simp (disch := omega) only [hh_up_ne, hh_up_at, hh_up_off, hh_cpy_ne]) (fun r r1 r2 => by rw [hρ]; simp (disch := omega) only [hh_up_ne, hh_cpy_ne]) (by rw [hρ]; rfl)), hr_H.of (fun i i1 i2 => ?_), (h.2.2.2.1.cg (by rw [hρ]; simp (disch := omega) only [hh_up_ne, hh_up_at, hh_up_off, hh_cpy_ne]) (by rw [hρ]; simp (disch := omega) only [hh_up_ne, hh_up_at, hh_up_off, hh_cpy_ne]) (by rw [hρ]; rfl) (by rw [hρ]; rfl)), (h.2.2.2.2.cg (by rw [hρ]; simp (disch := omega) only [hh_up_ne, hh_up_at, hh_up_off, hh_cpy_ne]) (by rw [hρ]; simp (disch := omega) only [hh_up_ne, hh_up_at, hh_up_off, hh_cpy_ne]) (by rw [hρ]; rfl) (by rw [hρ]; rfl))⟩
  have g3 : ∀ k : Int, ρ 123 k = if k = a1 * 20 + a2 then hh_i2s a3 else σ 123 k := fun k => by rw [hρ]; simp (disch := omega) only [hh_up_ne, hh_up_eq, hh_i2s_id]
  have g4 : ∀ k : Int, ρ 145 k = if k = 20 * a1 + a2 then hh_i2s a3 else σ 145 k := fun k => by rw [hρ]; simp (disch := omega) only [hh_up_ne, hh_up_eq]
  have e1 : ρ 124 = σ 124 := by rw [hρ]; rfl
  have e2 : ρ 146 = σ 146 := by rw [hρ]; rfl
  have q := h.2.2.1.at ⟨i1, i2⟩
  have rg := hh_i2s_rg a3
  refine ⟨by rw [e1, e2]; exact q.1, fun j j1 j2 => ?_⟩
  rw [e2] at j2
  have q5 := q.2 j j1 j2
  have q6 := q.1
  rw [g3, g4]
  by_cases z : i * 20 + j = a1 * 20 + a2
  · rw [if_pos z, if_pos (by omega)]
    omega
  · rw [if_neg z, if_neg (by omega)]
    exact q5
set_option maxHeartbeats 2000000 in
theorem o_sheet {σ : hh_S} {a1 a2 : Int} (h : hr_R σ) : hr_op2 hm_X11_sheet hm_X12_sheet [hh_I a1, hh_I a2] σ := by
  refine wp_X11_sheet _ _ (fun hs h1 h2 => ?_)
  unfold P_X11_sheet
  repeat' (first | with_reducible refine And.intro ?_ ?_ | with_reducible refine hh_all_eq ?_ | simp (disch := omega) only [hh_up_ne, hh_up_at, hh_up_off, not_true_eq_false, not_false_eq_true, false_implies, true_implies, implies_true, and_true, true_and, Int.add_zero] | with_reducible intro _ | omega | refine c_within ?_ ?_)
  case' _ => skip
  all_goals first | (refine wp_X12_sheet _ _ (fun hs h1 h2 => ?_); unfold P_X12_sheet; repeat' (first | with_reducible refine And.intro ?_ ?_ | with_reducible refine hh_all_eq ?_ | simp (disch := omega) only [hh_up_ne, hh_up_at, hh_up_off, not_true_eq_false, not_false_eq_true, false_implies, true_implies, implies_true, and_true, true_and, Int.add_zero] | with_reducible intro _ | omega | refine c_in ?_ ?_)) | skip
  all_goals first | exact h | skip
  refine hh_lp3_of (fun n x1 x2 x3 τ => (x1 = a1 ∧ x2 = a2 ∧ 0 ≤ x3 ∧ 20 - x3 ≤ n) ∧ (∀ r : Nat, r ≠ 123 → τ r = σ r) ∧ (∀ k : Int, (k < a1 * 20 ∨ a1 * 20 + 20 ≤ k) → τ 123 k = σ 123 k) ∧ (∀ j : Int, 0 ≤ j → j < x3 → τ 123 (a1 * 20 + j) = 0)) ?_ 20 a1 a2 0 σ ⟨by omega, fun _ _ => rfl, fun _ _ => rfl, fun j j1 j2 => by omega⟩
  rintro n x1 x2 x3 τ k ⟨⟨rfl, rfl, i1, i2⟩, i3, i4, i5⟩ hk
  unfold B_X11_sheet_28 B_X11_sheet_52
  refine ⟨fun c => ⟨by omega, ?_⟩, fun c => ⟨by omega, hk (n - 1) _ _ _ _ (by omega) ⟨by omega, fun r hr => ?_, fun k hk => ?_, fun j j1 j2 => ?_⟩⟩⟩
  · refine wp_X12_sheet _ _ (fun hs h1 h2 => ?_)
    unfold P_X12_sheet
    repeat' (first | with_reducible refine And.intro ?_ ?_ | with_reducible refine hh_all_eq ?_ | simp (disch := omega) only [hh_up_ne, hh_up_at, hh_up_off, not_true_eq_false, not_false_eq_true, false_implies, true_implies, implies_true, and_true, true_and, Int.add_zero] | with_reducible intro _ | omega | refine c_in ?_ ?_)
    refine hh_lp3_of (fun n y1 y2 y3 υ => (y1 = x1 ∧ y2 = x2 ∧ 0 ≤ y3 ∧ y3 ≤ x2 ∧ 20 - y3 ≤ n) ∧ (∀ r : Nat, r ≠ 123 → r ≠ 124 → r ≠ 145 → r ≠ 146 → υ r = σ r) ∧ υ 123 = τ 123 ∧ (∀ k : Int, υ 124 k = if k = x1 then x2 else σ 124 k) ∧ (∀ k : Int, υ 146 k = if k = x1 then x2 else σ 146 k) ∧ (∀ k : Int, (k < 20 * x1 ∨ 20 * x1 + 20 ≤ k) → υ 145 k = σ 145 k) ∧ (∀ j : Int, 0 ≤ j → j < y3 → υ 145 (20 * x1 + j) = 0)) ?_ 20 x1 x2 0 _ ⟨by omega, fun r r1 r2 r3 r4 => ?_, rfl, fun k => ?_, fun k => ?_, fun k hk => ?_, fun j j1 j2 => by omega⟩
    · rintro n y1 y2 y3 υ k ⟨⟨rfl, rfl, u1, u2, u3⟩, v1, v2, v3, v4, v5, v6⟩ hk
      refine ⟨fun c => ⟨rfl, ?_⟩, fun c => ⟨by omega, hk (n - 1) _ _ _ _ (by omega) ⟨by omega, fun r r1 r2 r3 r4 => by rw [hh_up_ne r3]; exact v1 r r1 r2 r3 r4, v2, v3, v4, fun k hk => by rw [hh_up_off (by omega)]; exact v5 k hk, fun j j1 j2 => ?_⟩⟩⟩
      · have vr : ∀ r : Nat, (r < 123 ∨ (124 < r ∧ r < 145) ∨ 146 < r) → υ r = σ r := fun r hr => v1 r (by omega) (by omega) (by omega) (by omega)
        refine ⟨h.1.cg (fun r r1 r2 => vr r (by omega)) (fun k _ _ => by rw [vr 129 (by omega)]), h.2.1.cg (by rw [vr 0 (by omega)]) (by rw [vr 128 (by omega)]) (fun r r1 r2 => vr r (by omega)) (vr 130 (by omega)), hr_H.of (fun i w1 w2 => ?_), h.2.2.2.1.cg (by rw [vr 0 (by omega)]) (by rw [vr 128 (by omega)]) (vr 122 (by omega)) (vr 144 (by omega)), h.2.2.2.2.cg (by rw [vr 109 (by omega)]) (by rw [vr 128 (by omega)]) (vr 110 (by omega)) (vr 133 (by omega))⟩
        have q := h.2.2.1.at ⟨w1, w2⟩
        by_cases z : i = y1
        · subst z
          refine ⟨by rw [v3, v4, if_pos rfl]; omega, fun j j1 j2 => ?_⟩
          rw [v4, if_pos rfl] at j2
          rw [v2, i5 j j1 (by omega), v6 j j1 (by omega)]
          omega
        · refine ⟨by rw [v3, v4, if_neg z, if_neg z]; exact q.1, fun j j1 j2 => ?_⟩
          rw [v4, if_neg z] at j2
          have q1 := q.1
          rw [v2, i4 _ (by omega), v5 _ (by omega)]
          exact q.2 j j1 j2
      · by_cases z : j = y3
        · subst z
          exact hh_up_at _ _ _ _
        · rw [hh_up_off (by omega)]
          exact v6 j j1 (by omega)
    · rw [hh_up_ne r4, hh_up_ne r2]
      exact i3 r r1
    · rw [hh_up_ne (by omega), hh_up_eq, i3 124 (by omega)]
    · rw [hh_up_eq, hh_up_ne (by omega), i3 146 (by omega)]
    · rw [hh_up_ne (by omega), hh_up_ne (by omega), i3 145 (by omega)]
  · rw [hh_up_ne hr]
    exact i3 r hr
  · rw [hh_up_off (by omega)]
    exact i4 k hk
  · by_cases z : j = x3
    · subst z
      rw [hh_up_at]
      exact hh_i2s_0
    · rw [hh_up_off (by omega)]
      exact i5 j j1 (by omega)
set_option maxHeartbeats 2000000 in
theorem o_door {σ : hh_S} {a1 a2 a3 : Int} (h : hr_R σ) : hr_op2 hm_X11_door hm_X12_door [hh_I a1, hh_I a2, hh_I a3] σ := by
  obtain ⟨hU, hP, hC, hM, hE, hD, hB, hK, hT⟩ := h.1
  have u := hU
  unfold hr_U at u
  have p1 := hP.1
  have c1 := hC.1
  have m1 := hM.1
  have e1 := hE.1
  have d1 := hD.1
  have b1 := hB.1
  have k1 := hK.1
  have t1 := hT.1
  refine wp_X11_door _ _ _ (fun hs h1 h2 h3 => ?_)
  unfold P_X11_door
  repeat' (first | with_reducible refine And.intro ?_ ?_ | with_reducible refine hh_all_eq ?_ | simp (disch := omega) only [hh_up_ne, hh_up_at, hh_up_off, not_true_eq_false, not_false_eq_true, false_implies, true_implies, implies_true, and_true, true_and, Int.add_zero] | with_reducible intro _ | omega | refine c_X6_has (by first | omega | (simp (disch := omega) only [hh_up_ne, hh_up_at, hh_up_off]; omega)) ?_ ?_ | refine c_X11_isPast ?_ ?_ | refine c_isSpan ?_ ?_)
  all_goals (refine wp_X12_door _ _ _ (fun hs h1 h2 h3 => ?_); unfold P_X12_door; repeat' (first | with_reducible refine And.intro ?_ ?_ | with_reducible refine hh_all_eq ?_ | simp (disch := omega) only [hh_up_ne, hh_up_at, hh_up_off, not_true_eq_false, not_false_eq_true, false_implies, true_implies, implies_true, and_true, true_and, Int.add_zero] | with_reducible intro _ | omega | refine c_isPerson (by first | omega | (simp (disch := omega) only [hh_up_ne, hh_up_at, hh_up_off]; omega)) ?_ ?_ | refine c_isPast ?_ ?_ | refine c_areParts ?_ ?_))
  all_goals first | exact h | skip
  refine hh_name (P := hr_R) (fun ρ hρ => ?_)
  refine h.nw (fun r r1 r2 => by rw [hρ]; simp (disch := omega) only [hh_up_ne, hh_cpy_ne]) (by rw [hρ]; rfl) (by rw [hρ]; rfl) (by rw [hρ]; rfl) (by rw [hρ]; rfl) (by rw [hρ]; rfl) (by rw [hρ]; rfl) (by rw [hρ]; rfl) (by rw [hρ]; rfl) (by rw [hρ]; rfl) (by rw [hρ]; rfl) (by rw [hρ]; rfl) (by rw [hρ]; rfl) (by rw [hρ]; rfl) (by rw [hρ]; rfl) ?_
  have es : ∀ k : Int, (k ≠ 8 ∧ (k < 1330 + 5 * σ 129 8 ∨ 1330 + 5 * σ 129 8 + 4 < k)) → ρ 129 k = σ 129 k := fun k hk => by rw [hρ]; simp (disch := omega) only [hh_up_ne, hh_up_at, hh_up_off]
  have f4 : ρ 129 8 = σ 129 8 + 1 := by rw [hρ]; simp (disch := omega) only [hh_up_ne, hh_up_at, hh_up_off]
  have g0 : ρ 129 (1330 + 5 * σ 129 8) = a1 := by rw [hρ]; simp (disch := omega) only [hh_up_ne, hh_up_at, hh_up_off]
  have g1 : ρ 129 (1330 + 5 * σ 129 8 + 1) = a2 := by rw [hρ]; simp (disch := omega) only [hh_up_ne, hh_up_at, hh_up_off]
  have g2 : ρ 129 (1330 + 5 * σ 129 8 + 2) = a3 / 1000 := by rw [hρ]; simp (disch := omega) only [hh_up_ne, hh_up_at, hh_up_off]
  have g3 : ρ 129 (1330 + 5 * σ 129 8 + 3) = a3 % 1000 := by rw [hρ]; simp (disch := omega) only [hh_up_ne, hh_up_at, hh_up_off]
  have g4 : ρ 129 (1330 + 5 * σ 129 8 + 4) = σ 129 0 := by rw [hρ]; simp (disch := omega) only [hh_up_ne, hh_up_at, hh_up_off]
  have c0 : ρ 36 0 = σ 36 0 + 1 := by rw [hρ]; simp (disch := omega) only [hh_up_ne, hh_up_at, hh_up_off]
  have c3 : ∀ k : Int, ρ 37 k = if k = σ 36 0 then a1 else σ 37 k := fun k => by rw [hρ]; simp (disch := omega) only [hh_up_ne, hh_up_eq]
  have c4 : ∀ k : Int, ρ 38 k = if k = σ 36 0 then a2 else σ 38 k := fun k => by rw [hρ]; simp (disch := omega) only [hh_up_ne, hh_up_eq]
  have c5 : ∀ k : Int, ρ 39 k = if k = σ 36 0 then a3 / 1000 else σ 39 k := fun k => by rw [hρ]; simp (disch := omega) only [hh_up_ne, hh_up_eq]
  have c6 : ∀ k : Int, ρ 40 k = if k = σ 36 0 then a3 % 1000 else σ 40 k := fun k => by rw [hρ]; simp (disch := omega) only [hh_up_ne, hh_up_eq]
  have c7 : ∀ k : Int, ρ 41 k = if k = σ 36 0 then σ 1 8 else σ 41 k := fun k => by rw [hρ]; simp (disch := omega) only [hh_up_ne, hh_up_eq]
  refine ⟨hU.cg (by rw [hρ]; rfl) (by rw [hρ]; rfl) (fun k k1 k2 => es k (by omega)), hP.cg (by rw [hρ]; rfl) (by rw [hρ]; rfl) (by rw [hρ]; rfl) (by rw [hρ]; rfl) (fun k hk => es k (by omega)), hC.cg (by rw [hρ]; rfl) (by rw [hρ]; rfl) (fun k hk => es k (by omega)), hM.cg (by rw [hρ]; rfl) (by rw [hρ]; rfl) (by rw [hρ]; rfl) (by rw [hρ]; rfl) (by rw [hρ]; rfl) (by rw [hρ]; rfl) (by rw [hρ]; rfl) (by rw [hρ]; rfl) (by rw [hρ]; rfl) (by rw [hρ]; rfl) (by rw [hρ]; rfl) (by first | (rw [es 5 (by omega)]; exact Int.le_refl _) | omega) (fun k hk => es k (by omega)), hE.cg (fun r r1 r2 => by rw [hρ]; simp (disch := omega) only [hh_up_ne, hh_cpy_ne]) (by first | (rw [es 4 (by omega)]; exact Int.le_refl _) | omega) (by first | (rw [es 6 (by omega)]; exact Int.le_refl _) | omega) (by first | (rw [es 0 (by omega)]; exact Int.le_refl _) | omega) (by first | (rw [es 10 (by omega)]; exact Int.le_refl _) | omega) (fun k hk => es k (by omega)) (fun b b1 b2 => es _ (by omega)), ⟨by omega, fun p p1 p2 => ?_⟩, hB.cg hC hM (fun r r1 r2 => by rw [hρ]; simp (disch := omega) only [hh_up_ne, hh_cpy_ne]) (by first | (rw [es 6 (by omega)]; exact Int.le_refl _) | omega) (by first | (rw [es 0 (by omega)]; exact Int.le_refl _) | omega) (fun k hk => es k (by omega)) (fun m m1 m2 m3 k k1 k2 => es k (by omega)), hK.cg (by rw [hρ]; rfl) (by rw [hρ]; rfl) (by rw [hρ]; rfl) (by rw [hρ]; rfl) (by first | (rw [es 6 (by omega)]; exact Int.le_refl _) | omega) (fun k hk => es k (by omega)), hT.cg (by rw [hρ]; rfl) (by rw [hρ]; rfl) (by rw [hρ]; rfl) (by rw [hρ]; rfl) (by rw [hρ]; rfl) (es 5 (by omega)) (fun k hk => es k (by omega))⟩
  unfold hr_D1
  rw [c3, c4, c5, c6, c7, es 4 (by omega)]
  rcases (show p < σ 129 8 ∨ p = σ 129 8 by omega) with z | z
  · rw [if_neg (by omega), if_neg (by omega), if_neg (by omega), if_neg (by omega), if_neg (by omega), es _ (by omega), es _ (by omega), es _ (by omega), es _ (by omega), es _ (by omega)]
    exact hD.2 p p1 z
  · subst z
    rw [if_pos (by omega), if_pos (by omega), if_pos (by omega), if_pos (by omega), if_pos (by omega), g0, g1, g2, g3, g4]
    omega
set_option maxHeartbeats 2000000 in
theorem o_entry {σ : hh_S} {a1 a2 a3 a4 a5 : Int} (h : hr_R σ) : hr_op2 hm_X11_entry hm_X12_entry [hh_I a1, hh_I a2, hh_I a3, hh_I a4, hh_I a5] σ := by
  obtain ⟨hU, hP, hC, hM, hE, hD, hB, hK, hT⟩ := h.1
  have u := hU
  unfold hr_U at u
  have p1 := hP.1
  have c1 := hC.1
  have m1 := hM.1
  have e1 := hE.1
  have d1 := hD.1
  have b1 := hB.1
  have k1 := hK.1
  have t1 := hT.1
  have q : 0 ≤ a2 → a2 < σ 129 6 → 0 ≤ a1 → a1 < 8 → σ 20 (a2 * 8 + a1) = hh_and (hh_shr (σ 129 (50 + 20 * a2 + 17)) a1) 1 := fun z1 z2 z3 z4 => (hM.2 a2 z1 z2).2.2.2.2.2.1 a1 z3 z4
  refine wp_X11_entry _ _ _ _ _ (fun hs h1 h2 h3 h4 h5 => ?_)
  unfold P_X11_entry
  repeat' (first | with_reducible refine And.intro ?_ ?_ | with_reducible refine hh_all_eq ?_ | simp (disch := omega) only [hh_up_ne, hh_up_at, hh_up_off, not_true_eq_false, not_false_eq_true, false_implies, true_implies, implies_true, and_true, true_and, Int.add_zero] | with_reducible intro _ | omega | refine c_X6_has (by first | omega | (simp (disch := omega) only [hh_up_ne, hh_up_at, hh_up_off]; omega)) ?_ ?_ | refine c_X5_has (by first | omega | (simp (disch := omega) only [hh_up_ne, hh_up_at, hh_up_off]; omega)) ?_ ?_ | refine c_X11_isPast ?_ ?_ | refine c_isSpan ?_ ?_ | refine c_within ?_ ?_ | refine c_hasWall (by omega) ?_ ?_)
  all_goals (refine wp_X12_entry _ _ _ _ _ (fun hs h1 h2 h3 h4 h5 => ?_); unfold P_X12_entry; repeat' (first | with_reducible refine And.intro ?_ ?_ | with_reducible refine hh_all_eq ?_ | simp (disch := omega) only [hh_up_ne, hh_up_at, hh_up_off, not_true_eq_false, not_false_eq_true, false_implies, true_implies, implies_true, and_true, true_and, Int.add_zero] | with_reducible intro _ | omega | refine c_isPerson (by first | omega | (simp (disch := omega) only [hh_up_ne, hh_up_at, hh_up_off]; omega)) ?_ ?_ | refine c_isMatter (by first | omega | (simp (disch := omega) only [hh_up_ne, hh_up_at, hh_up_off]; omega)) ?_ ?_ | refine c_isPast ?_ ?_ | refine c_areParts ?_ ?_ | refine c_in ?_ ?_))
  all_goals first | exact h | skip
  refine hh_name (P := hr_R) (fun ρ hρ => ?_)
  refine h.nw (fun r r1 r2 => by rw [hρ]; simp (disch := omega) only [hh_up_ne, hh_cpy_ne]) (by rw [hρ]; rfl) (by rw [hρ]; rfl) (by rw [hρ]; rfl) (by rw [hρ]; rfl) (by rw [hρ]; rfl) (by rw [hρ]; rfl) (by rw [hρ]; rfl) (by rw [hρ]; rfl) (by rw [hρ]; rfl) (by rw [hρ]; rfl) (by rw [hρ]; rfl) (by rw [hρ]; rfl) (by rw [hρ]; rfl) (by rw [hρ]; rfl) ?_
  have es : ∀ k : Int, (k ≠ 7 ∧ (k < 250 + 12 * σ 129 7 ∨ 250 + 12 * σ 129 7 + 10 < k)) → ρ 129 k = σ 129 k := fun k hk => by rw [hρ]; simp (disch := omega) only [hh_up_ne, hh_up_at, hh_up_off]
  have f4 : ρ 129 7 = σ 129 7 + 1 := by rw [hρ]; simp (disch := omega) only [hh_up_ne, hh_up_at, hh_up_off]
  have g0 : ρ 129 (250 + 12 * σ 129 7) = a1 := by rw [hρ]; simp (disch := omega) only [hh_up_ne, hh_up_at, hh_up_off]
  have g1 : ρ 129 (250 + 12 * σ 129 7 + 1) = a2 := by rw [hρ]; simp (disch := omega) only [hh_up_ne, hh_up_at, hh_up_off]
  have g2 : ρ 129 (250 + 12 * σ 129 7 + 2) = a3 := by rw [hρ]; simp (disch := omega) only [hh_up_ne, hh_up_at, hh_up_off]
  have g3 : ρ 129 (250 + 12 * σ 129 7 + 3) = a4 / 1000 := by rw [hρ]; simp (disch := omega) only [hh_up_ne, hh_up_at, hh_up_off]
  have g4 : ρ 129 (250 + 12 * σ 129 7 + 4) = a4 % 1000 := by rw [hρ]; simp (disch := omega) only [hh_up_ne, hh_up_at, hh_up_off]
  have g5 : ρ 129 (250 + 12 * σ 129 7 + 5) = a5 := by rw [hρ]; simp (disch := omega) only [hh_up_ne, hh_up_at, hh_up_off]
  have g6 : ρ 129 (250 + 12 * σ 129 7 + 6) = σ 129 0 := by rw [hρ]; simp (disch := omega) only [hh_up_ne, hh_up_at, hh_up_off]
  have g7 : ρ 129 (250 + 12 * σ 129 7 + 7) = -1 := by rw [hρ]; simp (disch := omega) only [hh_up_ne, hh_up_at, hh_up_off]
  have g8 : ρ 129 (250 + 12 * σ 129 7 + 8) = -1 := by rw [hρ]; simp (disch := omega) only [hh_up_ne, hh_up_at, hh_up_off]
  have g9 : ρ 129 (250 + 12 * σ 129 7 + 9) = 0 := by rw [hρ]; simp (disch := omega) only [hh_up_ne, hh_up_at, hh_up_off]
  have g10 : ρ 129 (250 + 12 * σ 129 7 + 10) = -1 := by rw [hρ]; simp (disch := omega) only [hh_up_ne, hh_up_at, hh_up_off]
  have c0 : ρ 24 0 = σ 24 0 + 1 := by rw [hρ]; simp (disch := omega) only [hh_up_ne, hh_up_at, hh_up_off]
  have ce : ∀ r : Nat, 25 ≤ r → r < 36 → ∀ k : Int, k ≠ σ 24 0 → ρ r k = σ r k := fun r r1 r2 k hk => by
    rw [hρ]
    rcases (show r = 25 ∨ r = 26 ∨ r = 27 ∨ r = 28 ∨ r = 29 ∨ r = 30 ∨ r = 31 ∨ r = 32 ∨ r = 33 ∨ r = 34 ∨ r = 35 by omega) with rfl | rfl | rfl | rfl | rfl | rfl | rfl | rfl | rfl | rfl | rfl <;> simp (disch := omega) only [hh_up_ne, hh_up_at, hh_up_off]
  have n25 : ρ 25 (σ 24 0) = a1 := by rw [hρ]; simp (disch := omega) only [hh_up_ne, hh_up_at, hh_up_off]
  have n26 : ρ 26 (σ 24 0) = a2 := by rw [hρ]; simp (disch := omega) only [hh_up_ne, hh_up_at, hh_up_off]
  have n27 : ρ 27 (σ 24 0) = a3 := by rw [hρ]; simp (disch := omega) only [hh_up_ne, hh_up_at, hh_up_off]
  have n28 : ρ 28 (σ 24 0) = a4 / 1000 := by rw [hρ]; simp (disch := omega) only [hh_up_ne, hh_up_at, hh_up_off]
  have n29 : ρ 29 (σ 24 0) = a4 % 1000 := by rw [hρ]; simp (disch := omega) only [hh_up_ne, hh_up_at, hh_up_off]
  have n30 : ρ 30 (σ 24 0) = a5 := by rw [hρ]; simp (disch := omega) only [hh_up_ne, hh_up_at, hh_up_off]
  have n31 : ρ 31 (σ 24 0) = σ 1 8 := by rw [hρ]; simp (disch := omega) only [hh_up_ne, hh_up_at, hh_up_off]
  have n32 : ρ 32 (σ 24 0) = -1000000005 := by rw [hρ]; simp (disch := omega) only [hh_up_ne, hh_up_at, hh_up_off]
  have n33 : ρ 33 (σ 24 0) = -1000000005 := by rw [hρ]; simp (disch := omega) only [hh_up_ne, hh_up_at, hh_up_off]
  have n34 : ρ 34 (σ 24 0) = 0 := by rw [hρ]; simp (disch := omega) only [hh_up_ne, hh_up_at, hh_up_off]
  have n35 : ρ 35 (σ 24 0) = -1000000005 := by rw [hρ]; simp (disch := omega) only [hh_up_ne, hh_up_at, hh_up_off]
  refine ⟨hU.cg (by rw [hρ]; rfl) (by rw [hρ]; rfl) (fun k k1 k2 => es k (by omega)), hP.cg (by rw [hρ]; rfl) (by rw [hρ]; rfl) (by rw [hρ]; rfl) (by rw [hρ]; rfl) (fun k hk => es k (by omega)), hC.cg (by rw [hρ]; rfl) (by rw [hρ]; rfl) (fun k hk => es k (by omega)), hM.cg (by rw [hρ]; rfl) (by rw [hρ]; rfl) (by rw [hρ]; rfl) (by rw [hρ]; rfl) (by rw [hρ]; rfl) (by rw [hρ]; rfl) (by rw [hρ]; rfl) (by rw [hρ]; rfl) (by rw [hρ]; rfl) (by rw [hρ]; rfl) (by rw [hρ]; rfl) (by first | (rw [es 5 (by omega)]; exact Int.le_refl _) | omega) (fun k hk => es k (by omega)), ⟨by omega, fun e z1 z2 => ?_⟩, hD.cg (fun r r1 r2 => by rw [hρ]; simp (disch := omega) only [hh_up_ne, hh_cpy_ne]) (by first | (rw [es 4 (by omega)]; exact Int.le_refl _) | omega) (fun k hk => es k (by omega)), hB.cg hC hM (fun r r1 r2 => by rw [hρ]; simp (disch := omega) only [hh_up_ne, hh_cpy_ne]) (by first | (rw [es 6 (by omega)]; exact Int.le_refl _) | omega) (by first | (rw [es 0 (by omega)]; exact Int.le_refl _) | omega) (fun k hk => es k (by omega)) (fun m m1 m2 m3 k k1 k2 => es k (by omega)), hK.cg (by rw [hρ]; rfl) (by rw [hρ]; rfl) (by rw [hρ]; rfl) (by rw [hρ]; rfl) (by first | (rw [es 6 (by omega)]; exact Int.le_refl _) | omega) (fun k hk => es k (by omega)), hT.cg (by rw [hρ]; rfl) (by rw [hρ]; rfl) (by rw [hρ]; rfl) (by rw [hρ]; rfl) (by rw [hρ]; rfl) (es 5 (by omega)) (fun k hk => es k (by omega))⟩
  rcases (show e < σ 129 7 ∨ e = σ 129 7 by omega) with z | z
  · exact (hE.2 e z1 z).cg (fun r r1 r2 => ce r r1 r2 e (by omega)) (by rw [es 4 (by omega)]; exact Int.le_refl _) (by rw [es 6 (by omega)]; exact Int.le_refl _) (by rw [es 0 (by omega)]; exact Int.le_refl _) (by rw [es 10 (by omega)]; exact Int.le_refl _) (fun k k1 k2 => es k (by omega)) (fun y1 y2 => es _ (by omega))
  · subst z
    unfold hr_E1 hr_nn
    rw [← e1.1] at *
    rw [n25, n26, n27, n28, n29, n30, n31, n32, n33, n34, n35, g0, g1, g2, g3, g4, g5, g6, g7, g8, g9, g10, es 0 (by omega), es 4 (by omega), es 6 (by omega), es 10 (by omega)]
    omega
