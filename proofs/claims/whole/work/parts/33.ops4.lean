set_option maxHeartbeats 2000000 in
theorem o_wall {σ : hh_S} {a1 a2 a3 : Int} (h : hr_R σ) : hr_op2 hm_X11_wall hm_X12_wall [hh_I a1, hh_I a2, hh_I a3] σ := by
  obtain ⟨hU, hP, hC, hM, hE, hD, hB, hK, hT⟩ := h.1
  have u := hU
  unfold hr_U at u
  have p1 := hP.1
  have c1 := hC.1
  have m1 := hM.1
  have e1 := hE.1
  have d1 := hD.1
  have b1 := hB.1
  have k1 := hK.1
  have t1 := hT.1
  have q : 0 ≤ a2 → a2 < σ 129 6 → 0 ≤ a1 → a1 < 8 → σ 20 (a2 * 8 + a1) = hh_and (hh_shr (σ 129 (50 + 20 * a2 + 17)) a1) 1 := fun z1 z2 z3 z4 => (hM.2 a2 z1 z2).2.2.2.2.2.1 a1 z3 z4
  refine wp_X11_wall _ _ _ (fun hs h1 h2 h3 => ?_)
  unfold P_X11_wall
  repeat' (first | with_reducible refine And.intro ?_ ?_ | with_reducible refine hh_all_eq ?_ | simp (disch := omega) only [hh_up_ne, hh_up_at, hh_up_off, not_true_eq_false, not_false_eq_true, false_implies, true_implies, implies_true, and_true, true_and, Int.add_zero] | with_reducible intro _ | omega | refine c_X6_has (by first | omega | (simp (disch := omega) only [hh_up_ne, hh_up_at, hh_up_off]; omega)) ?_ ?_ | refine c_X5_has (by first | omega | (simp (disch := omega) only [hh_up_ne, hh_up_at, hh_up_off]; omega)) ?_ ?_ | refine c_within ?_ ?_)
  all_goals (refine wp_X12_wall _ _ _ (fun hs h1 h2 h3 => ?_); unfold P_X12_wall B_X12_wall_86; repeat' (first | with_reducible refine And.intro ?_ ?_ | with_reducible refine hh_all_eq ?_ | simp (disch := omega) only [hh_up_ne, hh_up_at, hh_up_off, not_true_eq_false, not_false_eq_true, false_implies, true_implies, implies_true, and_true, true_and, Int.add_zero] | with_reducible intro _ | omega | refine c_isPerson (by first | omega | (simp (disch := omega) only [hh_up_ne, hh_up_at, hh_up_off]; omega)) ?_ ?_ | refine c_isMatter (by first | omega | (simp (disch := omega) only [hh_up_ne, hh_up_at, hh_up_off]; omega)) ?_ ?_ | refine c_in ?_ ?_))
  all_goals first | exact h | skip
  all_goals
    have hw := (hM.2 a2 (by omega) (by omega)).2.2.2.2.2.2
    have hb := hr_bits (w := σ 129 (50 + 20 * a2 + 17)) (p := a1) hw (by omega)
    have hb3 : hh_and (hh_shr (σ 129 (50 + 20 * a2 + 17)) a1) 1 = 0 ∨ hh_and (hh_shr (σ 129 (50 + 20 * a2 + 17)) a1) 1 = 1 := hb.2.2
    refine hh_name (P := hr_R) (fun ρ hρ => ?_)
    refine h.nw (fun r r1 r2 => by rw [hρ]; simp (disch := omega) only [hh_up_ne, hh_cpy_ne]) (by rw [hρ]; rfl) (by rw [hρ]; rfl) (by rw [hρ]; rfl) (by rw [hρ]; rfl) (by rw [hρ]; rfl) (by rw [hρ]; rfl) (by rw [hρ]; rfl) (by rw [hρ]; rfl) (by rw [hρ]; rfl) (by rw [hρ]; rfl) (by rw [hρ]; rfl) (by rw [hρ]; rfl) (by rw [hρ]; rfl) (by rw [hρ]; rfl) ?_
    have es : ∀ k : Int, (k ≠ 50 + 20 * a2 + 17) → ρ 129 k = σ 129 k := fun k hk => by rw [hρ]; simp (disch := omega) only [hh_up_ne, hh_up_at, hh_up_off]
    have g0 : (0 ≤ ρ 129 (50 + 20 * a2 + 17) ∧ ρ 129 (50 + 20 * a2 + 17) ≤ 255) ∧ ∀ p : Int, 0 ≤ p → p < 8 → hr_bit (ρ 129 (50 + 20 * a2 + 17)) p = if p = a1 then a3 else hr_bit (σ 129 (50 + 20 * a2 + 17)) p := by
      rw [hρ]
      simp (disch := omega) only [hh_up_ne, hh_up_at, hh_up_off]
      first
        | (refine ⟨hb.2.1, fun p p1 p2 => ?_⟩
           rw [hb.1 p p1 p2]
           by_cases z : p = a1
           · rw [if_pos z, if_pos z]
             show 1 - hh_and (hh_shr (σ 129 (50 + 20 * a2 + 17)) a1) 1 = a3
             omega
           · rw [if_neg z, if_neg z])
        | (refine ⟨hw, fun p p1 p2 => ?_⟩
           by_cases z : p = a1
           · rw [if_pos z, z]
             show hh_and (hh_shr (σ 129 (50 + 20 * a2 + 17)) a1) 1 = a3
             omega
           · rw [if_neg z])
    have c3 : ∀ k : Int, ρ 20 k = if k = a2 * 8 + a1 then a3 else σ 20 k := fun k => by rw [hρ]; simp (disch := omega) only [hh_up_ne, hh_up_eq]
    refine ⟨hU.cg (by rw [hρ]; rfl) (by rw [hρ]; rfl) (fun k k1 k2 => es k (by omega)), hP.cg (by rw [hρ]; rfl) (by rw [hρ]; rfl) (by rw [hρ]; rfl) (by rw [hρ]; rfl) (fun k hk => es k (by omega)), hC.cg (by rw [hρ]; rfl) (by rw [hρ]; rfl) (fun k hk => es k (by omega)), ⟨by rw [show ρ 13 = σ 13 by rw [hρ]; rfl, es 6 (by omega)]; exact m1, fun m z1 z2 => ?_⟩, hE.cg (fun r r1 r2 => by rw [hρ]; simp (disch := omega) only [hh_up_ne, hh_cpy_ne]) (by first | (rw [es 4 (by omega)]; exact Int.le_refl _) | omega) (by first | (rw [es 6 (by omega)]; exact Int.le_refl _) | omega) (by first | (rw [es 0 (by omega)]; exact Int.le_refl _) | omega) (by first | (rw [es 10 (by omega)]; exact Int.le_refl _) | omega) (fun k hk => es k (by omega)) (fun b b1 b2 => es _ (by omega)), hD.cg (fun r r1 r2 => by rw [hρ]; simp (disch := omega) only [hh_up_ne, hh_cpy_ne]) (by first | (rw [es 4 (by omega)]; exact Int.le_refl _) | omega) (fun k hk => es k (by omega)), hB.cg hC hM (fun r r1 r2 => by rw [hρ]; simp (disch := omega) only [hh_up_ne, hh_cpy_ne]) (by rw [es 6 (by omega)]; exact Int.le_refl _) (by rw [es 0 (by omega)]; exact Int.le_refl _) (fun k hk => es k (by omega)) (fun m y1 y2 _ k k1 k2 => es k (by omega)), hK.cg (by rw [hρ]; rfl) (by rw [hρ]; rfl) (by rw [hρ]; rfl) (by rw [hρ]; rfl) (by first | (rw [es 6 (by omega)]; exact Int.le_refl _) | omega) (fun k hk => es k (by omega)), hT.cg (by rw [hρ]; rfl) (by rw [hρ]; rfl) (by rw [hρ]; rfl) (by rw [hρ]; rfl) (by rw [hρ]; rfl) (es 5 (by omega)) (fun k hk => es k (by omega))⟩
    rw [es 6 (by omega)] at z2
    by_cases z : m = a2
    · subst z
      obtain ⟨⟨x1, x2, x3, x4, x5, x6⟩, x7, x8, x9, x10, x11, x12⟩ := hM.2 m z1 z2
      unfold hr_M1
      rw [show ρ 14 = σ 14 by rw [hρ]; rfl, show ρ 15 = σ 15 by rw [hρ]; rfl, show ρ 16 = σ 16 by rw [hρ]; rfl, show ρ 17 = σ 17 by rw [hρ]; rfl, show ρ 18 = σ 18 by rw [hρ]; rfl, show ρ 19 = σ 19 by rw [hρ]; rfl, show ρ 21 = σ 21 by rw [hρ]; rfl, show ρ 22 = σ 22 by rw [hρ]; rfl, show ρ 23 = σ 23 by rw [hρ]; rfl, es (50 + 20 * m) (by omega), es (50 + 20 * m + 1) (by omega), es (50 + 20 * m + 2) (by omega), es (50 + 20 * m + 3) (by omega), es (50 + 20 * m + 4) (by omega), es (50 + 20 * m + 10) (by omega), es 5 (by omega)]
      refine ⟨⟨x1, x2, x3, x4, x5, x6⟩, fun i i1 i2 => ?_, fun i j i1 i2 i3 => ?_, fun k k1 k2 => ?_, fun y => ?_, ⟨fun p p1 p2 => ?_, g0.1⟩⟩
      · rw [es _ (by omega), es _ (by omega)]
        exact x7 i i1 i2
      · rw [es _ (by omega), es _ (by omega)]
        exact x8 i j i1 i2 i3
      · rw [es _ (by omega)]
        exact x9 k k1 k2
      · rw [es _ (by omega)]
        exact x10 y
      · rw [c3, g0.2 p p1 p2]
        by_cases y : p = a1
        · rw [if_pos (by omega), if_pos y]
        · rw [if_neg (by omega), if_neg y]
          exact x11 p p1 p2
    · exact (hM.2 m z1 z2).cg (by rw [hρ]; rfl) (by rw [hρ]; rfl) (by rw [hρ]; rfl) (by rw [hρ]; rfl) (fun i _ _ => by rw [hρ]; rfl) (fun i _ _ => by rw [hρ]; rfl) (fun i _ _ => by rw [c3, if_neg (by omega)]) (by rw [hρ]; rfl) (by rw [hρ]; rfl) (fun i _ _ => by rw [hρ]; rfl) (by rw [es 5 (by omega)]; exact Int.le_refl _) (fun k k1 k2 => es k (by omega))
/-- a new matter in the class -/
theorem c_begin {d : Nat} {σ : hh_S} {Q : Int → hh_S → Prop} {a1 a2 a3 : Int} (hm : 0 ≤ σ 13 0 ∧ σ 13 0 < 10) (hc : 0 ≤ a2 ∧ a2 ≤ 4)
    (hq : ∀ ρ : hh_S, (∀ r : Nat, (r < 13 ∨ 23 < r) → ρ r = σ r) → ρ 13 0 = σ 13 0 + 1 → (∀ k : Int, ρ 14 k = if k = σ 13 0 then a1 else σ 14 k) → (∀ k : Int, ρ 15 k = if k = σ 13 0 then a2 else σ 15 k) → (∀ k : Int, ρ 16 k = if k = σ 13 0 then a3 else σ 16 k) → (∀ k : Int, ρ 17 k = if k = σ 13 0 then 1 else σ 17 k) → (∀ k : Int, ρ 18 k = if k = σ 13 0 * 3 then a2 else σ 18 k) → (∀ k : Int, ρ 19 k = if k = σ 13 0 * 3 then 1 else σ 19 k) → (∀ k : Int, ρ 20 k = if σ 13 0 * 8 ≤ k ∧ k < σ 13 0 * 8 + 8 then 0 else σ 20 k) → (∀ k : Int, ρ 21 k = if k = σ 13 0 then 0 else σ 21 k) → (∀ k : Int, ρ 22 k = if k = σ 13 0 then 0 else σ 22 k) → (∀ k : Int, ρ 23 k = if σ 13 0 * 6 ≤ k ∧ k < σ 13 0 * 6 + 6 then 0 else σ 23 k) → Q (σ 13 0) ρ) : hh_Sp (d + 2) hm_X5_begin [hh_R 13, hh_I a1, hh_I a2, hh_I a3] σ Q := by
  refine wp_X5_begin _ _ _ (fun hs h1 h2 h3 => ⟨by omega, wp_X5_putPayer _ _ _ (fun _ _ _ _ => ⟨by omega, ⟨by omega, ?_⟩⟩)⟩)
  rw [show (100 * a2 + 1) / 100 = a2 by omega, show (100 * a2 + 1) % 100 = 1 by omega, Int.add_zero]
  refine hh_name (P := fun ρ => ∃ n, hh_lp2 (B_X5_begin_70 (d + 1) Q) n (σ 13 0) 0 ρ) (fun ρ0 hρ0 => ?_)
  refine hh_lp2_of (fun n x4 x5 τ => (x4 = σ 13 0 ∧ 0 ≤ x5 ∧ x5 ≤ 8 ∧ 8 - x5 ≤ n) ∧ (∀ r : Nat, r ≠ 20 → τ r = ρ0 r) ∧ (∀ k : Int, τ 20 k = if σ 13 0 * 8 ≤ k ∧ k < σ 13 0 * 8 + x5 then 0 else σ 20 k)) ?_ 8 (σ 13 0) 0 ρ0 ⟨by omega, fun _ _ => rfl, fun k => by rw [if_neg (by omega), hρ0]; rfl⟩
  rintro n x4 x5 τ k ⟨⟨rfl, i1, i2, i3⟩, i4, i5⟩ hk
  unfold B_X5_begin_70 B_X5_begin_97
  refine ⟨fun c => ?_, fun c => ⟨by omega, hk (n - 1) _ _ _ (by omega) ⟨by omega, fun r hr => by rw [hh_up_ne hr]; exact i4 r hr, fun j => ?_⟩⟩⟩
  · refine hh_lp2_of (fun n x4 x5 υ => (x4 = σ 13 0 ∧ 0 ≤ x5 ∧ x5 ≤ 6 ∧ 6 - x5 ≤ n) ∧ (∀ r : Nat, r ≠ 23 → υ r = τ r) ∧ (∀ k : Int, υ 23 k = if σ 13 0 * 6 ≤ k ∧ k < σ 13 0 * 6 + x5 then 0 else σ 23 k)) ?_ 6 (σ 13 0) 0 τ ⟨by omega, fun _ _ => rfl, fun k => by rw [if_neg (by omega), i4 23 (by omega), hρ0]; rfl⟩
    rintro n y4 y5 υ k ⟨⟨rfl, j1, j2, j3⟩, j4, j5⟩ hk
    unfold B_X5_begin_100 B_X5_begin_127
    refine ⟨fun c2 => ⟨by omega, ?_⟩, fun c2 => ⟨by omega, hk (n - 1) _ _ _ (by omega) ⟨by omega, fun r hr => by rw [hh_up_ne hr]; exact j4 r hr, fun j => ?_⟩⟩⟩
    · have hr : ∀ r : Nat, r ≠ 13 → r ≠ 20 → r ≠ 23 → hh_up υ 13 0 (σ 13 0 + 1) r = ρ0 r := fun r r1 r2 r3 => by rw [hh_up_ne r1, j4 r r3, i4 r r2]
      refine hq _ (fun r hr2 => ?_) (hh_up_at _ _ _ _) (fun k => ?_) (fun k => ?_) (fun k => ?_) (fun k => ?_) (fun k => ?_) (fun k => ?_) (fun k => ?_) (fun k => ?_) (fun k => ?_) (fun k => ?_)
      · rw [hr r (by omega) (by omega) (by omega), hρ0]
        simp (disch := omega) only [hh_up_ne]
      · rw [hr 14 (by omega) (by omega) (by omega), hρ0]
        simp (disch := omega) only [hh_up_ne, hh_up_eq]
      · rw [hr 15 (by omega) (by omega) (by omega), hρ0]
        simp (disch := omega) only [hh_up_ne, hh_up_eq]
      · rw [hr 16 (by omega) (by omega) (by omega), hρ0]
        simp (disch := omega) only [hh_up_ne, hh_up_eq]
      · rw [hr 17 (by omega) (by omega) (by omega), hρ0]
        simp (disch := omega) only [hh_up_ne, hh_up_eq]
      · rw [hr 18 (by omega) (by omega) (by omega), hρ0]
        simp (disch := omega) only [hh_up_ne, hh_up_eq]
      · rw [hr 19 (by omega) (by omega) (by omega), hρ0]
        simp (disch := omega) only [hh_up_ne, hh_up_eq]
      · rw [hh_up_ne (by omega), j4 20 (by omega), i5, show x5 = 8 by omega]
      · rw [hr 21 (by omega) (by omega) (by omega), hρ0]
        simp (disch := omega) only [hh_up_ne, hh_up_eq]
      · rw [hr 22 (by omega) (by omega) (by omega), hρ0]
        simp (disch := omega) only [hh_up_ne, hh_up_eq]
      · rw [hh_up_ne (by omega), j5, show y5 = 6 by omega]
    · rw [hh_up_eq]
      show (if j = σ 13 0 * 6 + y5 then 0 else υ 23 j) = _
      by_cases z : j = σ 13 0 * 6 + y5
      · rw [if_pos z, if_pos (by omega)]
      · rw [if_neg z, j5]
        by_cases y : σ 13 0 * 6 ≤ j ∧ j < σ 13 0 * 6 + y5
        · rw [if_pos y, if_pos (by omega)]
        · rw [if_neg y, if_neg (by omega)]
  · rw [hh_up_eq]
    show (if j = σ 13 0 * 8 + x5 then 0 else τ 20 j) = _
    by_cases z : j = σ 13 0 * 8 + x5
    · rw [if_pos z, if_pos (by omega)]
    · rw [if_neg z, i5]
      by_cases y : σ 13 0 * 8 ≤ j ∧ j < σ 13 0 * 8 + x5
      · rw [if_pos y, if_pos (by omega)]
      · rw [if_neg y, if_neg (by omega)]
theorem hr_bit0 : ∀ p : Fin 8, hr_bit 0 ((p : Nat) : Int) = 0 := by decide +kernel
set_option maxHeartbeats 2000000 in
theorem o_matter {σ : hh_S} {a1 a2 a3 : Int} (h : hr_R σ) : hr_op2 hm_X11_matter hm_X12_matter [hh_I a1, hh_I a2, hh_I a3] σ := by
  obtain ⟨hU, hP, hC, hM, hE, hD, hB, hK, hT⟩ := h.1
  have u := hU
  unfold hr_U at u
  have p1 := hP.1
  have c1 := hC.1
  have m1 := hM.1
  have e1 := hE.1
  have d1 := hD.1
  have b1 := hB.1
  have k1 := hK.1
  have t1 := hT.1
  refine wp_X11_matter _ _ _ (fun hs h1 h2 h3 => ?_)
  unfold P_X11_matter
  repeat' (first | with_reducible refine And.intro ?_ ?_ | with_reducible refine hh_all_eq ?_ | simp (disch := omega) only [hh_up_ne, hh_up_at, hh_up_off, not_true_eq_false, not_false_eq_true, false_implies, true_implies, implies_true, and_true, true_and, Int.add_zero] | with_reducible intro _ | omega | refine c_within ?_ ?_ | refine c_X1_has (by first | omega | (simp (disch := omega) only [hh_up_ne, hh_up_at, hh_up_off]; omega)) ?_ ?_)
  all_goals first | (refine wp_X12_matter _ _ _ (fun hs h1 h2 h3 => ?_); unfold P_X12_matter; repeat' (first | with_reducible refine And.intro ?_ ?_ | with_reducible refine hh_all_eq ?_ | simp (disch := omega) only [hh_up_ne, hh_up_at, hh_up_off, not_true_eq_false, not_false_eq_true, false_implies, true_implies, implies_true, and_true, true_and, Int.add_zero] | with_reducible intro _ | omega | refine c_in ?_ ?_ | refine c_isClient (by first | omega | (simp (disch := omega) only [hh_up_ne, hh_up_at, hh_up_off]; omega)) ?_ ?_)) | skip
  all_goals first | exact h | skip
  refine c_begin (by omega) (by omega) (fun ρ v0 v13 v14 v15 v16 v17 v18 v19 v20 v21 v22 v23 => ?_)
  have v129 : ρ 129 = σ 129 := v0 129 (by omega)
  refine wp_X12_matter _ _ _ (fun hs h1 h2 h3 => ?_)
  unfold P_X12_matter
  refine c_in (fun _ _ => ?_) (fun z => by omega)
  refine ⟨fun z => by omega, fun _ => ?_⟩
  refine c_isClient (by rw [v129]; omega) (fun _ _ => ?_) (fun z => by rw [v129] at z; omega)
  refine ⟨fun z => by omega, fun _ => ?_⟩
  refine c_in (fun _ _ => ?_) (fun z => by omega)
  refine ⟨fun _ => ?_, fun z => by omega⟩
  rw [v129]
  refine ⟨fun _ => ⟨by omega, ?_⟩, fun z => by omega⟩
  generalize hM0 : σ 129 6 = M at *
  refine hh_lp5_of (fun n x1 x2 x3 x4 x5 τ => (x1 = a1 ∧ x2 = a2 ∧ x3 = a3 ∧ x4 = 50 + 20 * M ∧ 0 ≤ x5 ∧ x5 ≤ 20 ∧ 20 - x5 ≤ n) ∧ (∀ r : Nat, r ≠ 129 → τ r = ρ r) ∧ (∀ k : Int, τ 129 k = if 50 + 20 * M ≤ k ∧ k < 50 + 20 * M + x5 then 0 else σ 129 k)) ?_ 20 a1 a2 a3 (50 + 20 * M) 0 ρ ⟨by omega, fun _ _ => rfl, fun k => by rw [if_neg (by omega), v129]⟩
  rintro n x1 x2 x3 x4 x5 τ k ⟨⟨rfl, rfl, rfl, rfl, i1, i2, i3⟩, i4, i5⟩ hk
  unfold B_X12_matter_63 B_X12_matter_87
  refine ⟨fun c => ⟨by omega, ?_⟩, fun c => ⟨by omega, hk (n - 1) _ _ _ _ _ _ (by omega) ⟨by omega, fun r hr => by rw [hh_up_ne hr]; exact i4 r hr, fun j => ?_⟩⟩⟩
  · refine hh_name (P := fun υ => ∃ n, hh_lp2 (B_X12_matter_151 199 _) n (50 + 20 * M) 1 υ) (fun υ0 hυ0 => ?_)
    have u0 : ∀ r : Nat, r ≠ 129 → υ0 r = ρ r := fun r hr => by rw [hυ0]; simp (disch := omega) only [hh_up_ne]; exact i4 r hr
    have ue : ∀ k : Int, (k < 50 + 20 * M ∨ 50 + 20 * M + 20 ≤ k) → υ0 129 k = σ 129 k := fun k hk => by rw [hυ0]; simp (disch := omega) only [hh_up_off]; rw [i5, if_neg (by omega)]
    have uz : ∀ k : Int, 50 + 20 * M ≤ k → k < 50 + 20 * M + 20 → k ≠ 50 + 20 * M → k ≠ 50 + 20 * M + 1 → k ≠ 50 + 20 * M + 2 → k ≠ 50 + 20 * M + 10 → k ≠ 50 + 20 * M + 11 → k ≠ 50 + 20 * M + 14 → υ0 129 k = 0 := fun k k1 k2 q1 q2 q3 q4 q5 q6 => by rw [hυ0]; simp (disch := omega) only [hh_up_off]; rw [i5, if_pos (by omega)]
    have w0 : υ0 129 (50 + 20 * M) = x1 := by rw [hυ0]; simp (disch := omega) only [hh_up_ne, hh_up_at, hh_up_off]
    have w1 : υ0 129 (50 + 20 * M + 1) = x2 := by rw [hυ0]; simp (disch := omega) only [hh_up_ne, hh_up_at, hh_up_off]
    have w2 : υ0 129 (50 + 20 * M + 2) = x3 := by rw [hυ0]; simp (disch := omega) only [hh_up_ne, hh_up_at, hh_up_off]
    have w10 : υ0 129 (50 + 20 * M + 10) = 1 := by rw [hυ0]; simp (disch := omega) only [hh_up_ne, hh_up_at, hh_up_off]
    have w11 : υ0 129 (50 + 20 * M + 11) = x2 := by rw [hυ0]; simp (disch := omega) only [hh_up_ne, hh_up_at, hh_up_off]
    have w14 : υ0 129 (50 + 20 * M + 14) = 1 := by rw [hυ0]; simp (disch := omega) only [hh_up_ne, hh_up_at, hh_up_off]
    refine hh_lp2_of (fun n x4 x5 υ => (x4 = 50 + 20 * M ∧ 1 ≤ x5 ∧ x5 ≤ 6 ∧ 6 - x5 ≤ n) ∧ (∀ r : Nat, r ≠ 129 → υ r = ρ r) ∧ (∀ k : Int, υ 129 k = if 50 + 20 * M + 4 + 1 ≤ k ∧ k < 50 + 20 * M + 4 + x5 then -1 else υ0 129 k)) ?_ 6 (50 + 20 * M) 1 υ0 ⟨by omega, u0, fun k => by rw [if_neg (by omega)]⟩
    rintro n y4 y5 υ k ⟨⟨rfl, j1, j2, j3⟩, j4, j5⟩ hk
    unfold B_X12_matter_151 B_X12_matter_177
    refine ⟨fun c2 => ?_, fun c2 => ⟨by omega, hk (n - 1) _ _ _ (by omega) ⟨by omega, fun r hr => by rw [hh_up_ne hr]; exact j4 r hr, fun j => ?_⟩⟩⟩
    · have e6 : υ 129 6 = M := by rw [j5, if_neg (by omega), ue 6 (by omega)]; exact hM0
      rw [e6]
      refine ⟨by omega, by omega, ?_⟩
      refine hh_name (P := hr_R) (fun π hπ => ?_)
      have pr : ∀ r : Nat, r ≠ 129 → π r = ρ r := fun r hr => by rw [hπ, hh_up_ne hr]; exact j4 r hr
      have p0 : ∀ r : Nat, (r < 13 ∨ 23 < r) → r ≠ 129 → π r = σ r := fun r hr hr2 => by rw [pr r hr2]; exact v0 r hr
      have es : ∀ k : Int, (k ≠ 6 ∧ (k < 50 + 20 * M ∨ 50 + 20 * M + 20 ≤ k)) → π 129 k = σ 129 k := fun k hk => by rw [hπ, hh_up_off hk.1, j5, if_neg (by omega)]; exact ue k hk.2
      have f6 : π 129 6 = M + 1 := by rw [hπ, hh_up_at]
      have pu : ∀ k : Int, (50 + 20 * M ≤ k ∧ k < 50 + 20 * M + 5) ∨ (50 + 20 * M + 10 ≤ k ∧ k < 50 + 20 * M + 20) → π 129 k = υ0 129 k := fun k hk => by rw [hπ, hh_up_off (by omega), j5, if_neg (by omega)]
      have pn : ∀ k : Int, 1 ≤ k → k ≤ 5 → π 129 (50 + 20 * M + 4 + k) = -1 := fun k k1 k2 => by rw [hπ, hh_up_off (by omega), j5, if_pos (by omega)]
      have hpt : ∀ r : Nat, 24 ≤ r → r < 55 → π r = σ r := fun r r1 r2 => p0 r (by omega) (by omega)
      refine h.nw (fun r r1 r2 => p0 r (by omega) (by omega)) (p0 0 (by omega) (by omega)) (by rw [p0 109 (by omega) (by omega)]) (p0 110 (by omega) (by omega)) (p0 122 (by omega) (by omega)) (p0 123 (by omega) (by omega)) (p0 124 (by omega) (by omega)) (by rw [p0 128 (by omega) (by omega)]) (by rw [p0 128 (by omega) (by omega)]) (by rw [p0 128 (by omega) (by omega)]) (p0 130 (by omega) (by omega)) (p0 133 (by omega) (by omega)) (p0 144 (by omega) (by omega)) (p0 145 (by omega) (by omega)) (p0 146 (by omega) (by omega)) ?_
      refine ⟨hU.cg (p0 1 (by omega) (by omega)) (hpt 54 (by omega) (by omega)) (fun k k1 k2 => es k (by omega)), hP.cg (p0 2 (by omega) (by omega)) (p0 3 (by omega) (by omega)) (p0 4 (by omega) (by omega)) (p0 5 (by omega) (by omega)) (fun k hk => es k (by omega)), hC.cg (p0 6 (by omega) (by omega)) (p0 7 (by omega) (by omega)) (fun k hk => es k (by omega)), ⟨by rw [pr 13 (by omega)]; omega, fun m z1 z2 => ?_⟩, hE.cg (fun r r1 r2 => hpt r r1 (by omega)) (by rw [es 4 (by omega)]; exact Int.le_refl _) (by omega) (by rw [es 0 (by omega)]; exact Int.le_refl _) (by rw [es 10 (by omega)]; exact Int.le_refl _) (fun k hk => es k (by omega)) (fun b b1 b2 => es _ (by omega)), hD.cg (fun r r1 r2 => hpt r (by omega) (by omega)) (by rw [es 4 (by omega)]; exact Int.le_refl _) (fun k hk => es k (by omega)), hB.cg hC hM (fun r r1 r2 => hpt r (by omega) (by omega)) (by omega) (by rw [es 0 (by omega)]; exact Int.le_refl _) (fun k hk => es k (by omega)) (fun m y1 y2 _ k k1 k2 => es k (by omega)), hK.cg (hpt 50 (by omega) (by omega)) (hpt 51 (by omega) (by omega)) (hpt 52 (by omega) (by omega)) (hpt 53 (by omega) (by omega)) (by omega) (fun k hk => es k (by omega)), hT.cg (p0 8 (by omega) (by omega)) (p0 9 (by omega) (by omega)) (p0 10 (by omega) (by omega)) (p0 11 (by omega) (by omega)) (p0 12 (by omega) (by omega)) (es 5 (by omega)) (fun k hk => es k (by omega))⟩
      rcases (show m < M ∨ m = M by omega) with z | z
      · exact (hM.2 m z1 (by omega)).cg (by rw [pr 14 (by omega), v14, if_neg (by omega)]) (by rw [pr 15 (by omega), v15, if_neg (by omega)]) (by rw [pr 16 (by omega), v16, if_neg (by omega)]) (by rw [pr 17 (by omega), v17, if_neg (by omega)]) (fun i _ _ => by rw [pr 18 (by omega), v18, if_neg (by omega)]) (fun i _ _ => by rw [pr 19 (by omega), v19, if_neg (by omega)]) (fun i _ _ => by rw [pr 20 (by omega), v20, if_neg (by omega)]) (by rw [pr 21 (by omega), v21, if_neg (by omega)]) (by rw [pr 22 (by omega), v22, if_neg (by omega)]) (fun i _ _ => by rw [pr 23 (by omega), v23, if_neg (by omega)]) (by rw [es 5 (by omega)]; exact Int.le_refl _) (fun k k1 k2 => es k (by omega))
      · subst z
        unfold hr_M1
        rw [pr 14 (by omega), pr 15 (by omega), pr 16 (by omega), pr 17 (by omega), pr 18 (by omega), pr 19 (by omega), pr 20 (by omega), pr 21 (by omega), pr 22 (by omega), pr 23 (by omega), v14, v15, v16, v17, v21, v22, if_pos (by omega), if_pos (by omega), if_pos (by omega), if_pos (by omega), if_pos (by omega), if_pos (by omega), pu (50 + 20 * m) (by omega), pu (50 + 20 * m + 1) (by omega), pu (50 + 20 * m + 2) (by omega), pu (50 + 20 * m + 3) (by omega), pu (50 + 20 * m + 4) (by omega), pu (50 + 20 * m + 10) (by omega), pu (50 + 20 * m + 17) (by omega), w0, w1, w2, w10, uz (50 + 20 * m + 3) (by omega) (by omega) (by omega) (by omega) (by omega) (by omega) (by omega) (by omega), uz (50 + 20 * m + 4) (by omega) (by omega) (by omega) (by omega) (by omega) (by omega) (by omega) (by omega), uz (50 + 20 * m + 17) (by omega) (by omega) (by omega) (by omega) (by omega) (by omega) (by omega) (by omega), es 5 (by omega)]
        refine ⟨by omega, fun i q1 q2 => ?_, fun i j q1 q2 q3 => by omega, fun k q1 q2 => ?_, fun q1 => by omega, ⟨fun p q1 q2 => ?_, by omega⟩⟩
        · obtain rfl : i = 0 := by omega
          rw [v18, v19, if_pos (by omega), if_pos (by omega), Int.add_zero, Int.add_zero, pu _ (by omega), pu _ (by omega), w11, w14]
          omega
        · rw [v23, if_pos (by omega), pn k q1 q2]
          decide
        · rw [v20, if_pos (by omega)]
          obtain ⟨n, rfl⟩ := Int.eq_ofNat_of_zero_le q1
          exact (hr_bit0 ⟨n, by omega⟩).symm
    · rw [hh_up_eq]
      show (if j = 50 + 20 * M + 4 + y5 then -1 else υ 129 j) = _
      by_cases z : j = 50 + 20 * M + 4 + y5
      · rw [if_pos z, if_pos (by omega)]
      · rw [if_neg z, j5]
        by_cases y : 50 + 20 * M + 4 + 1 ≤ j ∧ j < 50 + 20 * M + 4 + y5
        · rw [if_pos y, if_pos (by omega)]
        · rw [if_neg y, if_neg (by omega)]
  · rw [hh_up_eq]
    show (if j = 50 + 20 * M + x5 then 0 else τ 129 j) = _
    by_cases z : j = 50 + 20 * M + x5
    · rw [if_pos z, if_pos (by omega)]
    · rw [if_neg z, i5]
      by_cases y : 50 + 20 * M ≤ j ∧ j < 50 + 20 * M + x5
      · rw [if_pos y, if_pos (by omega)]
      · rw [if_neg y, if_neg (by omega)]
