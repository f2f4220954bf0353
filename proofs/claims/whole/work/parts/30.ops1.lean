theorem hh_name {P : hh_S → Prop} {a : hh_S} (h : ∀ ρ : hh_S, ρ = a → P ρ) : P a := h a rfl
theorem hr_R.nw {σ σ' : hh_S} (h : hr_R σ) (er : ∀ r : Nat, 55 ≤ r → r < 109 → σ' r = σ r) (e0 : σ' 0 = σ 0) (e1 : σ' 109 1 = σ 109 1) (e2 : σ' 110 = σ 110) (e3 : σ' 122 = σ 122) (e4 : σ' 123 = σ 123) (e5 : σ' 124 = σ 124) (e6 : σ' 128 2 = σ 128 2) (e7 : σ' 128 6 = σ 128 6) (e8 : σ' 128 31 = σ 128 31) (e9 : σ' 130 = σ 130) (e10 : σ' 133 = σ 133) (e11 : σ' 144 = σ 144) (e12 : σ' 145 = σ 145) (e13 : σ' 146 = σ 146) (hn : hr_N σ' (σ' 129)) : hr_R σ' := by
  obtain ⟨hN, hI, hH, hW, hA⟩ := h
  exact ⟨hn, hI.cg (by rw [e0]) e6 er e9, hH.cg e4 e5 e12 e13, hW.cg (by rw [e0]) e8 e3 e11, hA.cg e1 e7 e2 e10⟩
abbrev hr_op2 (mx mm : hh_M) (as : List hh_V) (σ : hh_S) : Prop := hh_Sp 200 mx (hh_R 0 :: as) σ (fun r σ1 => hh_Sp 200 mm (hh_R 128 :: as) σ1 (fun r' σ2 => r = r' ∧ hr_R σ2))
set_option maxHeartbeats 2000000 in
theorem o_days {σ : hh_S} {a1 : Int} (h : hr_R σ) : hr_op2 hm_X11_days hm_X12_days [hh_I a1] σ := by
  obtain ⟨hU, hP, hC, hM, hE, hD, hB, hK, hT⟩ := h.1
  have u := hU
  unfold hr_U at u
  have p1 := hP.1
  have c1 := hC.1
  have m1 := hM.1
  have e1 := hE.1
  have d1 := hD.1
  have b1 := hB.1
  have k1 := hK.1
  have t1 := hT.1
  refine wp_X11_days _ (fun hs h1 => ?_)
  unfold P_X11_days
  repeat' (first | with_reducible refine And.intro ?_ ?_ | with_reducible refine hh_all_eq ?_ | simp (disch := omega) only [hh_up_ne, hh_up_at, hh_up_off, not_true_eq_false, not_false_eq_true, false_implies, true_implies, implies_true, and_true, true_and] | with_reducible intro _ | omega | refine c_within ?_ ?_)
  all_goals (refine wp_X12_days _ (fun hs h1 => ?_); unfold P_X12_days; repeat' (first | with_reducible refine And.intro ?_ ?_ | with_reducible refine hh_all_eq ?_ | simp (disch := omega) only [hh_up_ne, hh_up_at, hh_up_off, not_true_eq_false, not_false_eq_true, false_implies, true_implies, implies_true, and_true, true_and] | with_reducible intro _ | omega | refine c_in ?_ ?_))
  all_goals first | exact h | skip
  refine hh_name (P := hr_R) (fun ρ hρ => ?_)
  refine h.nw (fun r r1 r2 => by rw [hρ]; simp (disch := omega) only [hh_up_ne, hh_cpy_ne]) (by rw [hρ]; rfl) (by rw [hρ]; rfl) (by rw [hρ]; rfl) (by rw [hρ]; rfl) (by rw [hρ]; rfl) (by rw [hρ]; rfl) (by rw [hρ]; rfl) (by rw [hρ]; rfl) (by rw [hρ]; rfl) (by rw [hρ]; rfl) (by rw [hρ]; rfl) (by rw [hρ]; rfl) (by rw [hρ]; rfl) (by rw [hρ]; rfl) ?_
  have es : ∀ k : Int, k ≠ 0 → ρ 129 k = σ 129 k := fun k hk => by rw [hρ]; simp (disch := omega) only [hh_up_ne, hh_up_at, hh_up_off]
  have e0 : ρ 129 0 = σ 129 0 + a1 := by rw [hρ]; simp (disch := omega) only [hh_up_ne, hh_up_at, hh_up_off]
  have e1 : ρ 1 8 = σ 1 8 + a1 := by rw [hρ]; simp (disch := omega) only [hh_up_ne, hh_up_at, hh_up_off]
  have e2 : ρ 54 = σ 54 := by rw [hρ]; rfl
  refine ⟨?_, hP.cg (by rw [hρ]; rfl) (by rw [hρ]; rfl) (by rw [hρ]; rfl) (by rw [hρ]; rfl) (fun k hk => es k (by omega)), hC.cg (by rw [hρ]; rfl) (by rw [hρ]; rfl) (fun k hk => es k (by omega)), hM.cg (by rw [hρ]; rfl) (by rw [hρ]; rfl) (by rw [hρ]; rfl) (by rw [hρ]; rfl) (by rw [hρ]; rfl) (by rw [hρ]; rfl) (by rw [hρ]; rfl) (by rw [hρ]; rfl) (by rw [hρ]; rfl) (by rw [hρ]; rfl) (by rw [hρ]; rfl) (by first | (rw [es 5 (by omega)]; exact Int.le_refl _) | omega) (fun k hk => es k (by omega)), hE.cg (fun r r1 r2 => by rw [hρ]; simp (disch := omega) only [hh_up_ne, hh_cpy_ne]) (by first | (rw [es 4 (by omega)]; exact Int.le_refl _) | omega) (by first | (rw [es 6 (by omega)]; exact Int.le_refl _) | omega) (by first | (rw [es 0 (by omega)]; exact Int.le_refl _) | omega) (by first | (rw [es 10 (by omega)]; exact Int.le_refl _) | omega) (fun k hk => es k (by omega)) (fun b b1 b2 => es _ (by omega)), hD.cg (fun r r1 r2 => by rw [hρ]; simp (disch := omega) only [hh_up_ne, hh_cpy_ne]) (by first | (rw [es 4 (by omega)]; exact Int.le_refl _) | omega) (fun k hk => es k (by omega)), hB.cg hC hM (fun r r1 r2 => by rw [hρ]; simp (disch := omega) only [hh_up_ne, hh_cpy_ne]) (by first | (rw [es 6 (by omega)]; exact Int.le_refl _) | omega) (by first | (rw [es 0 (by omega)]; exact Int.le_refl _) | omega) (fun k hk => es k (by omega)) (fun m m1 m2 m3 k k1 k2 => es k (by omega)), hK.cg (by rw [hρ]; rfl) (by rw [hρ]; rfl) (by rw [hρ]; rfl) (by rw [hρ]; rfl) (by first | (rw [es 6 (by omega)]; exact Int.le_refl _) | omega) (fun k hk => es k (by omega)), hT.cg (by rw [hρ]; rfl) (by rw [hρ]; rfl) (by rw [hρ]; rfl) (by rw [hρ]; rfl) (by rw [hρ]; rfl) (es 5 (by omega)) (fun k hk => es k (by omega))⟩
  unfold hr_U
  rw [e0, e1, e2, es 1 (by omega), es 2 (by omega), es 3 (by omega)]
  omega
set_option maxHeartbeats 2000000 in
theorem o_rule {σ : hh_S} {a1 a2 : Int} (h : hr_R σ) : hr_op2 hm_X11_rule hm_X12_rule [hh_I a1, hh_I a2] σ := by
  obtain ⟨hU, hP, hC, hM, hE, hD, hB, hK, hT⟩ := h.1
  have u := hU
  unfold hr_U at u
  have p1 := hP.1
  have c1 := hC.1
  have m1 := hM.1
  have e1 := hE.1
  have d1 := hD.1
  have b1 := hB.1
  have k1 := hK.1
  have t1 := hT.1
  have q : 0 ≤ a1 → a1 ≤ 2 → σ 54 a1 = σ 129 (1 + a1) := by
    intro z1 z2
    rcases (show a1 = 0 ∨ a1 = 1 ∨ a1 = 2 by omega) with rfl | rfl | rfl
    · exact u.2.1.1
    · exact u.2.2.1.1
    · exact u.2.2.2.1
  refine wp_X11_rule _ _ (fun hs h1 h2 => ?_)
  unfold P_X11_rule
  repeat' (first | with_reducible refine And.intro ?_ ?_ | with_reducible refine hh_all_eq ?_ | simp (disch := omega) only [hh_up_ne, hh_up_at, hh_up_off, not_true_eq_false, not_false_eq_true, false_implies, true_implies, implies_true, and_true, true_and] | with_reducible intro _ | omega | refine c_within ?_ ?_ | refine wp_X11_mostOfRule _ (fun _ _ => ?_) | unfold P_X11_mostOfRule)
  all_goals (refine wp_X12_rule _ _ (fun hs h1 h2 => ?_); unfold P_X12_rule B_X12_rule_34; repeat' (first | with_reducible refine And.intro ?_ ?_ | with_reducible refine hh_all_eq ?_ | simp (disch := omega) only [hh_up_ne, hh_up_at, hh_up_off, not_true_eq_false, not_false_eq_true, false_implies, true_implies, implies_true, and_true, true_and] | with_reducible intro _ | omega | refine c_in ?_ ?_))
  all_goals first | exact h | skip
  all_goals
    refine hh_name (P := hr_R) (fun ρ hρ => ?_)
    refine h.nw (fun r r1 r2 => by rw [hρ]; simp (disch := omega) only [hh_up_ne, hh_cpy_ne]) (by rw [hρ]; rfl) (by rw [hρ]; rfl) (by rw [hρ]; rfl) (by rw [hρ]; rfl) (by rw [hρ]; rfl) (by rw [hρ]; rfl) (by rw [hρ]; rfl) (by rw [hρ]; rfl) (by rw [hρ]; rfl) (by rw [hρ]; rfl) (by rw [hρ]; rfl) (by rw [hρ]; rfl) (by rw [hρ]; rfl) (by rw [hρ]; rfl) ?_
    have es : ∀ k : Int, k ≠ 1 + a1 → ρ 129 k = σ 129 k := fun k hk => by rw [hρ]; simp (disch := omega) only [hh_up_ne, hh_up_at, hh_up_off]
    have e0 : ρ 129 (1 + a1) = a2 := by rw [hρ]; simp (disch := omega) only [hh_up_ne, hh_up_at, hh_up_off]
    have e1 : ρ 54 a1 = a2 := by rw [hρ]; simp (disch := omega) only [hh_up_ne, hh_up_at, hh_up_off]
    have e3 : ρ 1 = σ 1 := by rw [hρ]; rfl
    have e2 : ∀ k : Int, k ≠ a1 → ρ 54 k = σ 54 k := fun k hk => by rw [hρ]; simp (disch := omega) only [hh_up_ne, hh_up_at, hh_up_off]
    refine ⟨?_, hP.cg (by rw [hρ]; rfl) (by rw [hρ]; rfl) (by rw [hρ]; rfl) (by rw [hρ]; rfl) (fun k hk => es k (by omega)), hC.cg (by rw [hρ]; rfl) (by rw [hρ]; rfl) (fun k hk => es k (by omega)), hM.cg (by rw [hρ]; rfl) (by rw [hρ]; rfl) (by rw [hρ]; rfl) (by rw [hρ]; rfl) (by rw [hρ]; rfl) (by rw [hρ]; rfl) (by rw [hρ]; rfl) (by rw [hρ]; rfl) (by rw [hρ]; rfl) (by rw [hρ]; rfl) (by rw [hρ]; rfl) (by first | (rw [es 5 (by omega)]; exact Int.le_refl _) | omega) (fun k hk => es k (by omega)), hE.cg (fun r r1 r2 => by rw [hρ]; simp (disch := omega) only [hh_up_ne, hh_cpy_ne]) (by first | (rw [es 4 (by omega)]; exact Int.le_refl _) | omega) (by first | (rw [es 6 (by omega)]; exact Int.le_refl _) | omega) (by first | (rw [es 0 (by omega)]; exact Int.le_refl _) | omega) (by first | (rw [es 10 (by omega)]; exact Int.le_refl _) | omega) (fun k hk => es k (by omega)) (fun b b1 b2 => es _ (by omega)), hD.cg (fun r r1 r2 => by rw [hρ]; simp (disch := omega) only [hh_up_ne, hh_cpy_ne]) (by first | (rw [es 4 (by omega)]; exact Int.le_refl _) | omega) (fun k hk => es k (by omega)), hB.cg hC hM (fun r r1 r2 => by rw [hρ]; simp (disch := omega) only [hh_up_ne, hh_cpy_ne]) (by first | (rw [es 6 (by omega)]; exact Int.le_refl _) | omega) (by first | (rw [es 0 (by omega)]; exact Int.le_refl _) | omega) (fun k hk => es k (by omega)) (fun m m1 m2 m3 k k1 k2 => es k (by omega)), hK.cg (by rw [hρ]; rfl) (by rw [hρ]; rfl) (by rw [hρ]; rfl) (by rw [hρ]; rfl) (by first | (rw [es 6 (by omega)]; exact Int.le_refl _) | omega) (fun k hk => es k (by omega)), hT.cg (by rw [hρ]; rfl) (by rw [hρ]; rfl) (by rw [hρ]; rfl) (by rw [hρ]; rfl) (by rw [hρ]; rfl) (es 5 (by omega)) (fun k hk => es k (by omega))⟩
    unfold hr_U
    rw [es 0 (by omega), e3]
    rcases (show a1 = 0 ∨ a1 = 1 ∨ a1 = 2 by omega) with rfl | rfl | rfl
    · rw [e1, show ρ 129 1 = a2 from e0, e2 1 (by omega), e2 2 (by omega), es 2 (by omega), es 3 (by omega)]
      omega
    · rw [e1, show ρ 129 2 = a2 from e0, e2 0 (by omega), e2 2 (by omega), es 1 (by omega), es 3 (by omega)]
      omega
    · rw [e1, show ρ 129 3 = a2 from e0, e2 0 (by omega), e2 1 (by omega), es 1 (by omega), es 2 (by omega)]
      omega
set_option maxHeartbeats 2000000 in
theorem o_person {σ : hh_S} {a1 a2 : Int} (h : hr_R σ) : hr_op2 hm_X11_person hm_X12_person [hh_I a1, hh_I a2] σ := by
  obtain ⟨hU, hP, hC, hM, hE, hD, hB, hK, hT⟩ := h.1
  have u := hU
  unfold hr_U at u
  have p1 := hP.1
  have c1 := hC.1
  have m1 := hM.1
  have e1 := hE.1
  have d1 := hD.1
  have b1 := hB.1
  have k1 := hK.1
  have t1 := hT.1
  refine wp_X11_person _ _ (fun hs h1 h2 => ?_)
  unfold P_X11_person
  repeat' (first | with_reducible refine And.intro ?_ ?_ | with_reducible refine hh_all_eq ?_ | simp (disch := omega) only [hh_up_ne, hh_up_at, hh_up_off, not_true_eq_false, not_false_eq_true, false_implies, true_implies, implies_true, and_true, true_and] | with_reducible intro _ | omega | refine c_within ?_ ?_)
  all_goals (refine wp_X12_person _ _ (fun hs h1 h2 => ?_); unfold P_X12_person; repeat' (first | with_reducible refine And.intro ?_ ?_ | with_reducible refine hh_all_eq ?_ | simp (disch := omega) only [hh_up_ne, hh_up_at, hh_up_off, not_true_eq_false, not_false_eq_true, false_implies, true_implies, implies_true, and_true, true_and] | with_reducible intro _ | omega | refine c_in ?_ ?_))
  all_goals first | exact h | skip
  refine hh_name (P := hr_R) (fun ρ hρ => ?_)
  refine h.nw (fun r r1 r2 => by rw [hρ]; simp (disch := omega) only [hh_up_ne, hh_cpy_ne]) (by rw [hρ]; rfl) (by rw [hρ]; rfl) (by rw [hρ]; rfl) (by rw [hρ]; rfl) (by rw [hρ]; rfl) (by rw [hρ]; rfl) (by rw [hρ]; rfl) (by rw [hρ]; rfl) (by rw [hρ]; rfl) (by rw [hρ]; rfl) (by rw [hρ]; rfl) (by rw [hρ]; rfl) (by rw [hρ]; rfl) (by rw [hρ]; rfl) ?_
  have es : ∀ k : Int, k ≠ 4 → (k < 20 + 3 * σ 129 4 ∨ 20 + 3 * σ 129 4 + 2 < k) → ρ 129 k = σ 129 k := fun k hk hk2 => by rw [hρ]; simp (disch := omega) only [hh_up_ne, hh_up_at, hh_up_off]
  have f4 : ρ 129 4 = σ 129 4 + 1 := by rw [hρ]; simp (disch := omega) only [hh_up_ne, hh_up_at, hh_up_off]
  have g0 : ρ 129 (20 + 3 * σ 129 4) = a1 := by rw [hρ]; simp (disch := omega) only [hh_up_ne, hh_up_at, hh_up_off]
  have g1 : ρ 129 (20 + 3 * σ 129 4 + 1) = a2 := by rw [hρ]; simp (disch := omega) only [hh_up_ne, hh_up_at, hh_up_off]
  have g2 : ρ 129 (20 + 3 * σ 129 4 + 2) = 0 := by rw [hρ]; simp (disch := omega) only [hh_up_ne, hh_up_at, hh_up_off]
  have c0 : ρ 2 0 = σ 2 0 + 1 := by rw [hρ]; simp (disch := omega) only [hh_up_ne, hh_up_at, hh_up_off]
  have c3 : ∀ k : Int, ρ 3 k = if k = σ 2 0 then a1 else σ 3 k := fun k => by rw [hρ]; simp (disch := omega) only [hh_up_ne, hh_up_eq]
  have c4 : ∀ k : Int, ρ 4 k = if k = σ 2 0 then a2 else σ 4 k := fun k => by rw [hρ]; simp (disch := omega) only [hh_up_ne, hh_up_eq]
  have c5 : ∀ k : Int, ρ 5 k = if k = σ 2 0 then 0 else σ 5 k := fun k => by rw [hρ]; simp (disch := omega) only [hh_up_ne, hh_up_eq]
  replace es : ∀ k : Int, (k ≠ 4 ∧ (k < 20 + 3 * σ 129 4 ∨ 20 + 3 * σ 129 4 + 2 < k)) → ρ 129 k = σ 129 k := fun k hk => es k hk.1 hk.2
  refine ⟨hU.cg (by rw [hρ]; rfl) (by rw [hρ]; rfl) (fun k k1 k2 => es k (by omega)), ⟨by omega, fun p p1 p2 => ?_⟩, hC.cg (by rw [hρ]; rfl) (by rw [hρ]; rfl) (fun k hk => es k (by omega)), hM.cg (by rw [hρ]; rfl) (by rw [hρ]; rfl) (by rw [hρ]; rfl) (by rw [hρ]; rfl) (by rw [hρ]; rfl) (by rw [hρ]; rfl) (by rw [hρ]; rfl) (by rw [hρ]; rfl) (by rw [hρ]; rfl) (by rw [hρ]; rfl) (by rw [hρ]; rfl) (by first | (rw [es 5 (by omega)]; exact Int.le_refl _) | omega) (fun k hk => es k (by omega)), hE.cg (fun r r1 r2 => by rw [hρ]; simp (disch := omega) only [hh_up_ne, hh_cpy_ne]) (by first | (rw [es 4 (by omega)]; exact Int.le_refl _) | omega) (by first | (rw [es 6 (by omega)]; exact Int.le_refl _) | omega) (by first | (rw [es 0 (by omega)]; exact Int.le_refl _) | omega) (by first | (rw [es 10 (by omega)]; exact Int.le_refl _) | omega) (fun k hk => es k (by omega)) (fun b b1 b2 => es _ (by omega)), hD.cg (fun r r1 r2 => by rw [hρ]; simp (disch := omega) only [hh_up_ne, hh_cpy_ne]) (by first | (rw [es 4 (by omega)]; exact Int.le_refl _) | omega) (fun k hk => es k (by omega)), hB.cg hC hM (fun r r1 r2 => by rw [hρ]; simp (disch := omega) only [hh_up_ne, hh_cpy_ne]) (by first | (rw [es 6 (by omega)]; exact Int.le_refl _) | omega) (by first | (rw [es 0 (by omega)]; exact Int.le_refl _) | omega) (fun k hk => es k (by omega)) (fun m m1 m2 m3 k k1 k2 => es k (by omega)), hK.cg (by rw [hρ]; rfl) (by rw [hρ]; rfl) (by rw [hρ]; rfl) (by rw [hρ]; rfl) (by first | (rw [es 6 (by omega)]; exact Int.le_refl _) | omega) (fun k hk => es k (by omega)), hT.cg (by rw [hρ]; rfl) (by rw [hρ]; rfl) (by rw [hρ]; rfl) (by rw [hρ]; rfl) (by rw [hρ]; rfl) (es 5 (by omega)) (fun k hk => es k (by omega))⟩
  rw [c3, c4, c5]
  rcases (show p < σ 129 4 ∨ p = σ 129 4 by omega) with z | z
  · rw [if_neg (by omega), if_neg (by omega), if_neg (by omega), es _ (by omega), es _ (by omega), es _ (by omega)]
    exact hP.2 p p1 z
  · subst z
    rw [if_pos (by omega), if_pos (by omega), if_pos (by omega), g0, g1, g2]
    omega
set_option maxHeartbeats 2000000 in
theorem o_is {σ : hh_S} {a1 a2 : Int} (h : hr_R σ) : hr_op2 hm_X11_is hm_X12_is [hh_I a1, hh_I a2] σ := by
  obtain ⟨hU, hP, hC, hM, hE, hD, hB, hK, hT⟩ := h.1
  have u := hU
  unfold hr_U at u
  have p1 := hP.1
  have c1 := hC.1
  have m1 := hM.1
  have e1 := hE.1
  have d1 := hD.1
  have b1 := hB.1
  have k1 := hK.1
  have t1 := hT.1
  have q := hP.2 a1
  refine wp_X11_is _ _ (fun hs h1 h2 => ?_)
  unfold P_X11_is
  repeat' (first | with_reducible refine And.intro ?_ ?_ | with_reducible refine hh_all_eq ?_ | simp (disch := omega) only [hh_up_ne, hh_up_at, hh_up_off, not_true_eq_false, not_false_eq_true, false_implies, true_implies, implies_true, and_true, true_and] | with_reducible intro _ | omega | refine c_within ?_ ?_ | refine c_X6_has (by omega) ?_ ?_ | refine c_X6_isUnder (by omega) ?_ ?_)
  all_goals (refine wp_X12_is _ _ (fun hs h1 h2 => ?_); unfold P_X12_is B_X12_is_51; repeat' (first | with_reducible refine And.intro ?_ ?_ | with_reducible refine hh_all_eq ?_ | simp (disch := omega) only [hh_up_ne, hh_up_at, hh_up_off, not_true_eq_false, not_false_eq_true, false_implies, true_implies, implies_true, and_true, true_and] | with_reducible intro _ | omega | refine c_in ?_ ?_ | refine c_isPerson (by omega) ?_ ?_))
  all_goals exact h
set_option maxHeartbeats 2000000 in
theorem o_isOf {σ : hh_S} {a1 a2 : Int} (h : hr_R σ) : hr_op2 hm_X11_isOf hm_X12_isOf [hh_I a1, hh_I a2] σ := by
  obtain ⟨hU, hP, hC, hM, hE, hD, hB, hK, hT⟩ := h.1
  have u := hU
  unfold hr_U at u
  have p1 := hP.1
  have c1 := hC.1
  have m1 := hM.1
  have e1 := hE.1
  have d1 := hD.1
  have b1 := hB.1
  have k1 := hK.1
  have t1 := hT.1
  have q := fun z1 z2 => (hM.2 a1 z1 z2).1.1
  refine wp_X11_isOf _ _ (fun hs h1 h2 => ?_)
  unfold P_X11_isOf
  repeat' (first | with_reducible refine And.intro ?_ ?_ | with_reducible refine hh_all_eq ?_ | simp (disch := omega) only [hh_up_ne, hh_up_at, hh_up_off, not_true_eq_false, not_false_eq_true, false_implies, true_implies, implies_true, and_true, true_and] | with_reducible intro _ | omega | refine c_within ?_ ?_ | refine c_X5_has (by omega) ?_ ?_ | refine c_X5_isUnder (by omega) ?_ ?_)
  all_goals (refine wp_X12_isOf _ _ (fun hs h1 h2 => ?_); unfold P_X12_isOf B_X12_isOf_52; repeat' (first | with_reducible refine And.intro ?_ ?_ | with_reducible refine hh_all_eq ?_ | simp (disch := omega) only [hh_up_ne, hh_up_at, hh_up_off, not_true_eq_false, not_false_eq_true, false_implies, true_implies, implies_true, and_true, true_and] | with_reducible intro _ | omega | refine c_in ?_ ?_ | refine c_isMatter (by omega) ?_ ?_))
  all_goals exact h
