theorem hr_ct_zero {s : Int → Int} {c : Int} : ∀ n : Nat, (∀ t : Nat, t < n → s (1840 + 484 * t) ≠ c) → hr_ct s c n = 0 := by
  intro n
  induction n with
  | zero => intro _; rfl
  | succ n ih =>
    intro h
    show hr_ct s c n + _ = 0
    rw [ih (fun t t1 => h t (by omega)), if_neg (h n (by omega))]
    rfl
theorem hr_bitsF : ∀ w : Fin 256, ∀ p : Fin 8, (∀ q : Fin 8, hr_bit (hh_xor ((w : Nat) : Int) (hh_shl 1 ((p : Nat) : Int))) ((q : Nat) : Int) = if q = p then 1 - hr_bit ((w : Nat) : Int) ((p : Nat) : Int) else hr_bit ((w : Nat) : Int) ((q : Nat) : Int)) ∧ (0 ≤ hh_xor ((w : Nat) : Int) (hh_shl 1 ((p : Nat) : Int)) ∧ hh_xor ((w : Nat) : Int) (hh_shl 1 ((p : Nat) : Int)) ≤ 255) ∧ (hr_bit ((w : Nat) : Int) ((p : Nat) : Int) = 0 ∨ hr_bit ((w : Nat) : Int) ((p : Nat) : Int) = 1) := by decide +kernel
theorem hr_bits {w p : Int} (hw : 0 ≤ w ∧ w ≤ 255) (hp : 0 ≤ p ∧ p < 8) : (∀ q : Int, 0 ≤ q → q < 8 → hr_bit (hh_xor w (hh_shl 1 p)) q = if q = p then 1 - hr_bit w p else hr_bit w q) ∧ (0 ≤ hh_xor w (hh_shl 1 p) ∧ hh_xor w (hh_shl 1 p) ≤ 255) ∧ (hr_bit w p = 0 ∨ hr_bit w p = 1) := by
  obtain ⟨n, rfl⟩ := Int.eq_ofNat_of_zero_le hw.1
  obtain ⟨k, rfl⟩ := Int.eq_ofNat_of_zero_le hp.1
  have z := hr_bitsF ⟨n, by omega⟩ ⟨k, by omega⟩
  refine ⟨fun q q1 q2 => ?_, z.2⟩
  obtain ⟨j, rfl⟩ := Int.eq_ofNat_of_zero_le q1
  have y := z.1 ⟨j, by omega⟩
  rw [show hr_bit (hh_xor (n : Int) (hh_shl 1 (k : Int))) (j : Int) = _ from y]
  by_cases e : j = k
  · rw [if_pos (Fin.ext e), if_pos (by omega)]
  · rw [if_neg (fun t => e (Fin.mk.inj t)), if_neg (by omega)]
set_option maxHeartbeats 2000000 in
theorem o_client {σ : hh_S} (h : hr_R σ) : hr_op2 hm_X11_client hm_X12_client [] σ := by
  obtain ⟨hU, hP, hC, hM, hE, hD, hB, hK, hT⟩ := h.1
  have u := hU
  unfold hr_U at u
  have p1 := hP.1
  have c1 := hC.1
  have m1 := hM.1
  have e1 := hE.1
  have d1 := hD.1
  have b1 := hB.1
  have k1 := hK.1
  have t1 := hT.1
  refine wp_X11_client (fun hs => ?_)
  unfold P_X11_client
  repeat' (first | with_reducible refine And.intro ?_ ?_ | with_reducible refine hh_all_eq ?_ | simp (disch := omega) only [hh_up_ne, hh_up_at, hh_up_off, not_true_eq_false, not_false_eq_true, false_implies, true_implies, implies_true, and_true, true_and, Int.add_zero] | with_reducible intro _ | omega | refine c_within ?_ ?_)
  all_goals (refine wp_X12_client (fun hs => ?_); unfold P_X12_client; repeat' (first | with_reducible refine And.intro ?_ ?_ | with_reducible refine hh_all_eq ?_ | simp (disch := omega) only [hh_up_ne, hh_up_at, hh_up_off, not_true_eq_false, not_false_eq_true, false_implies, true_implies, implies_true, and_true, true_and, Int.add_zero] | with_reducible intro _ | omega | refine c_in ?_ ?_))
  all_goals first | exact h | skip
  refine hh_name (P := hr_R) (fun ρ hρ => ?_)
  refine h.nw (fun r r1 r2 => by rw [hρ]; simp (disch := omega) only [hh_up_ne, hh_cpy_ne]) (by rw [hρ]; rfl) (by rw [hρ]; rfl) (by rw [hρ]; rfl) (by rw [hρ]; rfl) (by rw [hρ]; rfl) (by rw [hρ]; rfl) (by rw [hρ]; rfl) (by rw [hρ]; rfl) (by rw [hρ]; rfl) (by rw [hρ]; rfl) (by rw [hρ]; rfl) (by rw [hρ]; rfl) (by rw [hρ]; rfl) (by rw [hρ]; rfl) ?_
  have es : ∀ k : Int, (k ≠ 5 ∧ k ≠ 44 + σ 129 5) → ρ 129 k = σ 129 k := fun k hk => by rw [hρ]; simp (disch := omega) only [hh_up_ne, hh_up_at, hh_up_off]
  have f5 : ρ 129 5 = σ 129 5 + 1 := by rw [hρ]; simp (disch := omega) only [hh_up_ne, hh_up_at, hh_up_off]
  have g0 : ρ 129 (44 + σ 129 5) = 0 := by rw [hρ]; simp (disch := omega) only [hh_up_ne, hh_up_at, hh_up_off]
  have c0 : ρ 6 0 = σ 6 0 + 1 := by rw [hρ]; simp (disch := omega) only [hh_up_ne, hh_up_at, hh_up_off]
  have c3 : ∀ k : Int, ρ 7 k = if k = σ 6 0 then 0 else σ 7 k := fun k => by rw [hρ]; simp (disch := omega) only [hh_up_ne, hh_up_eq]
  have c4 : ∀ k : Int, ρ 8 k = if k = σ 6 0 then 0 else σ 8 k := fun k => by rw [hρ]; simp (disch := omega) only [hh_up_ne, hh_up_eq]
  refine ⟨hU.cg (by rw [hρ]; rfl) (by rw [hρ]; rfl) (fun k k1 k2 => es k (by omega)), hP.cg (by rw [hρ]; rfl) (by rw [hρ]; rfl) (by rw [hρ]; rfl) (by rw [hρ]; rfl) (fun k hk => es k (by omega)), ⟨by omega, fun p p1 p2 => ?_⟩, hM.cg (by rw [hρ]; rfl) (by rw [hρ]; rfl) (by rw [hρ]; rfl) (by rw [hρ]; rfl) (by rw [hρ]; rfl) (by rw [hρ]; rfl) (by rw [hρ]; rfl) (by rw [hρ]; rfl) (by rw [hρ]; rfl) (by rw [hρ]; rfl) (by rw [hρ]; rfl) (by first | (rw [es 5 (by omega)]; exact Int.le_refl _) | omega) (fun k hk => es k (by omega)), hE.cg (fun r r1 r2 => by rw [hρ]; simp (disch := omega) only [hh_up_ne, hh_cpy_ne]) (by first | (rw [es 4 (by omega)]; exact Int.le_refl _) | omega) (by first | (rw [es 6 (by omega)]; exact Int.le_refl _) | omega) (by first | (rw [es 0 (by omega)]; exact Int.le_refl _) | omega) (by first | (rw [es 10 (by omega)]; exact Int.le_refl _) | omega) (fun k hk => es k (by omega)) (fun b b1 b2 => es _ (by omega)), hD.cg (fun r r1 r2 => by rw [hρ]; simp (disch := omega) only [hh_up_ne, hh_cpy_ne]) (by first | (rw [es 4 (by omega)]; exact Int.le_refl _) | omega) (fun k hk => es k (by omega)), hB.cg hC hM (fun r r1 r2 => by rw [hρ]; simp (disch := omega) only [hh_up_ne, hh_cpy_ne]) (by first | (rw [es 6 (by omega)]; exact Int.le_refl _) | omega) (by first | (rw [es 0 (by omega)]; exact Int.le_refl _) | omega) (fun k hk => es k (by omega)) (fun m m1 m2 m3 k k1 k2 => es k (by omega)), hK.cg (by rw [hρ]; rfl) (by rw [hρ]; rfl) (by rw [hρ]; rfl) (by rw [hρ]; rfl) (by first | (rw [es 6 (by omega)]; exact Int.le_refl _) | omega) (fun k hk => es k (by omega)), ⟨by rw [es 9 (by omega)]; exact t1, fun c c1 c2 => ?_, fun t t2 => ?_⟩⟩
  · rw [c3]
    rcases (show p < σ 129 5 ∨ p = σ 129 5 by omega) with z | z
    · rw [if_neg (by omega), es _ (by omega)]
      exact hC.2 p p1 z
    · subst z
      rw [if_pos (by omega), g0]
      omega
  · rw [c4, es 9 (by omega), hr_ct.cg (s := σ 129) (s' := ρ 129) (σ 129 9).toNat (fun t t1 => es _ (by omega))]
    rcases (show c < σ 129 5 ∨ c = σ 129 5 by omega) with z | z
    · rw [if_neg (by omega)]
      exact hT.2.1 c c1 z
    · rw [if_pos (by omega), hr_ct_zero (σ 129 9).toNat (fun t t1 => ?_)]
      · omega
      · have := (hT.2.2 t (by omega)).1
        omega
  · rw [es 9 (by omega)] at t2
    exact (hT.2.2 t t2).cg (fun q _ => ⟨by rw [hρ]; rfl, by rw [hρ]; rfl, by rw [hρ]; rfl, fun i _ _ => by rw [hρ]; rfl⟩) (by omega) (fun k k1 k2 => es k (by omega))
set_option maxHeartbeats 2000000 in
theorem o_withdraw {σ : hh_S} {a1 : Int} (h : hr_R σ) : hr_op2 hm_X11_withdraw hm_X12_withdraw [hh_I a1] σ := by
  obtain ⟨hU, hP, hC, hM, hE, hD, hB, hK, hT⟩ := h.1
  have u := hU
  unfold hr_U at u
  have p1 := hP.1
  have c1 := hC.1
  have m1 := hM.1
  have e1 := hE.1
  have d1 := hD.1
  have b1 := hB.1
  have k1 := hK.1
  have t1 := hT.1
  have q := fun z1 z2 => hE.2 a1 z1 z2
  unfold hr_E1 hr_nn at q
  refine wp_X11_withdraw _ (fun hs h1 => ?_)
  unfold P_X11_withdraw
  repeat' (first | with_reducible refine And.intro ?_ ?_ | with_reducible refine hh_all_eq ?_ | simp (disch := omega) only [hh_up_ne, hh_up_at, hh_up_off, not_true_eq_false, not_false_eq_true, false_implies, true_implies, implies_true, and_true, true_and, Int.add_zero] | with_reducible intro _ | omega | refine c_X3_has (by first | omega | (simp (disch := omega) only [hh_up_ne, hh_up_at, hh_up_off]; omega)) ?_ ?_)
  all_goals (refine wp_X12_withdraw _ (fun hs h1 => ?_); unfold P_X12_withdraw; repeat' (first | with_reducible refine And.intro ?_ ?_ | with_reducible refine hh_all_eq ?_ | simp (disch := omega) only [hh_up_ne, hh_up_at, hh_up_off, not_true_eq_false, not_false_eq_true, false_implies, true_implies, implies_true, and_true, true_and, Int.add_zero] | with_reducible intro _ | omega | refine c_isEntry (by first | omega | (simp (disch := omega) only [hh_up_ne, hh_up_at, hh_up_off]; omega)) ?_ ?_))
  all_goals first | exact h | skip
  refine hh_name (P := hr_R) (fun ρ hρ => ?_)
  refine h.nw (fun r r1 r2 => by rw [hρ]; simp (disch := omega) only [hh_up_ne, hh_cpy_ne]) (by rw [hρ]; rfl) (by rw [hρ]; rfl) (by rw [hρ]; rfl) (by rw [hρ]; rfl) (by rw [hρ]; rfl) (by rw [hρ]; rfl) (by rw [hρ]; rfl) (by rw [hρ]; rfl) (by rw [hρ]; rfl) (by rw [hρ]; rfl) (by rw [hρ]; rfl) (by rw [hρ]; rfl) (by rw [hρ]; rfl) (by rw [hρ]; rfl) ?_
  have es : ∀ k : Int, (k ≠ 250 + 12 * a1 + 7) → ρ 129 k = σ 129 k := fun k hk => by rw [hρ]; simp (disch := omega) only [hh_up_ne, hh_up_at, hh_up_off]
  have g0 : ρ 129 (250 + 12 * a1 + 7) = σ 129 0 := by rw [hρ]; simp (disch := omega) only [hh_up_ne, hh_up_at, hh_up_off]
  have c3 : ∀ k : Int, ρ 32 k = if k = a1 then σ 1 8 else σ 32 k := fun k => by rw [hρ]; simp (disch := omega) only [hh_up_ne, hh_up_eq]
  have cr : ∀ r : Nat, r ≠ 32 → r < 128 → ρ r = σ r := fun r r1 r2 => by rw [hρ]; simp (disch := omega) only [hh_up_ne]
  refine ⟨hU.cg (by rw [hρ]; rfl) (by rw [hρ]; rfl) (fun k k1 k2 => es k (by omega)), hP.cg (by rw [hρ]; rfl) (by rw [hρ]; rfl) (by rw [hρ]; rfl) (by rw [hρ]; rfl) (fun k hk => es k (by omega)), hC.cg (by rw [hρ]; rfl) (by rw [hρ]; rfl) (fun k hk => es k (by omega)), hM.cg (by rw [hρ]; rfl) (by rw [hρ]; rfl) (by rw [hρ]; rfl) (by rw [hρ]; rfl) (by rw [hρ]; rfl) (by rw [hρ]; rfl) (by rw [hρ]; rfl) (by rw [hρ]; rfl) (by rw [hρ]; rfl) (by rw [hρ]; rfl) (by rw [hρ]; rfl) (by first | (rw [es 5 (by omega)]; exact Int.le_refl _) | omega) (fun k hk => es k (by omega)), ⟨by rw [cr 24 (by omega) (by omega), es 7 (by omega)]; exact e1, fun e z1 z2 => ?_⟩, hD.cg (fun r r1 r2 => by rw [hρ]; simp (disch := omega) only [hh_up_ne, hh_cpy_ne]) (by first | (rw [es 4 (by omega)]; exact Int.le_refl _) | omega) (fun k hk => es k (by omega)), hB.cg hC hM (fun r r1 r2 => by rw [hρ]; simp (disch := omega) only [hh_up_ne, hh_cpy_ne]) (by first | (rw [es 6 (by omega)]; exact Int.le_refl _) | omega) (by first | (rw [es 0 (by omega)]; exact Int.le_refl _) | omega) (fun k hk => es k (by omega)) (fun m m1 m2 m3 k k1 k2 => es k (by omega)), hK.cg (by rw [hρ]; rfl) (by rw [hρ]; rfl) (by rw [hρ]; rfl) (by rw [hρ]; rfl) (by first | (rw [es 6 (by omega)]; exact Int.le_refl _) | omega) (fun k hk => es k (by omega)), hT.cg (by rw [hρ]; rfl) (by rw [hρ]; rfl) (by rw [hρ]; rfl) (by rw [hρ]; rfl) (by rw [hρ]; rfl) (es 5 (by omega)) (fun k hk => es k (by omega))⟩
  rw [es 7 (by omega)] at z2
  by_cases z : e = a1
  · subst z
    unfold hr_E1 hr_nn
    rw [c3, if_pos rfl, g0, cr 25 (by omega) (by omega), cr 26 (by omega) (by omega), cr 27 (by omega) (by omega), cr 28 (by omega) (by omega), cr 29 (by omega) (by omega), cr 30 (by omega) (by omega), cr 31 (by omega) (by omega), cr 33 (by omega) (by omega), cr 34 (by omega) (by omega), cr 35 (by omega) (by omega), es 0 (by omega), es 4 (by omega), es 6 (by omega), es 10 (by omega), es (250 + 12 * e) (by omega), es (250 + 12 * e + 1) (by omega), es (250 + 12 * e + 2) (by omega), es (250 + 12 * e + 3) (by omega), es (250 + 12 * e + 4) (by omega), es (250 + 12 * e + 5) (by omega), es (250 + 12 * e + 6) (by omega), es (250 + 12 * e + 8) (by omega), es (250 + 12 * e + 9) (by omega), es (250 + 12 * e + 10) (by omega)]
    have q2 := q z1 z2
    refine ⟨q2.1, ⟨by omega, q2.2.1.2⟩, fun y => ?_⟩
    omega
  · refine (hE.2 e z1 z2).cg (fun r r1 r2 => ?_) (by rw [es 4 (by omega)]; exact Int.le_refl _) (by rw [es 6 (by omega)]; exact Int.le_refl _) (by rw [es 0 (by omega)]; exact Int.le_refl _) (by rw [es 10 (by omega)]; exact Int.le_refl _) (fun k k1 k2 => es k (by omega)) (fun y1 y2 => es _ (by omega))
    by_cases y : r = 32
    · subst y
      rw [c3, if_neg z]
    · rw [cr r y (by omega)]
set_option maxHeartbeats 2000000 in
theorem o_told {σ : hh_S} {a1 a2 : Int} (h : hr_R σ) : hr_op2 hm_X11_told hm_X12_told [hh_I a1, hh_I a2] σ := by
  obtain ⟨hU, hP, hC, hM, hE, hD, hB, hK, hT⟩ := h.1
  have u := hU
  unfold hr_U at u
  have p1 := hP.1
  have c1 := hC.1
  have m1 := hM.1
  have e1 := hE.1
  have d1 := hD.1
  have b1 := hB.1
  have k1 := hK.1
  have t1 := hT.1
  have q := fun z1 z2 => hE.2 a1 z1 z2
  unfold hr_E1 hr_nn at q
  refine wp_X11_told _ _ (fun hs h1 h2 => ?_)
  unfold P_X11_told
  repeat' (first | with_reducible refine And.intro ?_ ?_ | with_reducible refine hh_all_eq ?_ | simp (disch := omega) only [hh_up_ne, hh_up_at, hh_up_off, not_true_eq_false, not_false_eq_true, false_implies, true_implies, implies_true, and_true, true_and, Int.add_zero] | with_reducible intro _ | omega | refine c_X3_has (by first | omega | (simp (disch := omega) only [hh_up_ne, hh_up_at, hh_up_off]; omega)) ?_ ?_)
  all_goals (try subst_vars)
  all_goals (refine wp_X12_told _ _ (fun hs h1 h2 => ?_); unfold P_X12_told; repeat' (first | with_reducible refine And.intro ?_ ?_ | with_reducible refine hh_all_eq ?_ | simp (disch := omega) only [hh_up_ne, hh_up_at, hh_up_off, not_true_eq_false, not_false_eq_true, false_implies, true_implies, implies_true, and_true, true_and, Int.add_zero] | with_reducible intro _ | omega | refine c_isEntry (by first | omega | (simp (disch := omega) only [hh_up_ne, hh_up_at, hh_up_off]; omega)) ?_ ?_ | refine c_in ?_ ?_ | refine c_orNone ?_ ?_))
  all_goals exact h
set_option maxHeartbeats 2000000 in
theorem o_retain {σ : hh_S} {a1 a2 : Int} (h : hr_R σ) : hr_op2 hm_X11_retain hm_X12_retain [hh_I a1, hh_I a2] σ := by
  obtain ⟨hU, hP, hC, hM, hE, hD, hB, hK, hT⟩ := h.1
  have u := hU
  unfold hr_U at u
  have p1 := hP.1
  have c1 := hC.1
  have m1 := hM.1
  have e1 := hE.1
  have d1 := hD.1
  have b1 := hB.1
  have k1 := hK.1
  have t1 := hT.1
  have q := fun z1 z2 => (hM.2 a1 z1 z2).1.2.2.2.2.1
  refine wp_X11_retain _ _ (fun hs h1 h2 => ?_)
  unfold P_X11_retain
  repeat' (first | with_reducible refine And.intro ?_ ?_ | with_reducible refine hh_all_eq ?_ | simp (disch := omega) only [hh_up_ne, hh_up_at, hh_up_off, not_true_eq_false, not_false_eq_true, false_implies, true_implies, implies_true, and_true, true_and, Int.add_zero] | with_reducible intro _ | omega | refine c_X5_has (by first | omega | (simp (disch := omega) only [hh_up_ne, hh_up_at, hh_up_off]; omega)) ?_ ?_ | refine c_within ?_ ?_)
  all_goals (refine wp_X12_retain _ _ (fun hs h1 h2 => ?_); unfold P_X12_retain; repeat' (first | with_reducible refine And.intro ?_ ?_ | with_reducible refine hh_all_eq ?_ | simp (disch := omega) only [hh_up_ne, hh_up_at, hh_up_off, not_true_eq_false, not_false_eq_true, false_implies, true_implies, implies_true, and_true, true_and, Int.add_zero] | with_reducible intro _ | omega | refine c_isMatter (by first | omega | (simp (disch := omega) only [hh_up_ne, hh_up_at, hh_up_off]; omega)) ?_ ?_ | refine c_in ?_ ?_))
  all_goals first | exact h | skip
  refine hh_name (P := hr_R) (fun ρ hρ => ?_)
  refine h.nw (fun r r1 r2 => by rw [hρ]; simp (disch := omega) only [hh_up_ne, hh_cpy_ne]) (by rw [hρ]; rfl) (by rw [hρ]; rfl) (by rw [hρ]; rfl) (by rw [hρ]; rfl) (by rw [hρ]; rfl) (by rw [hρ]; rfl) (by rw [hρ]; rfl) (by rw [hρ]; rfl) (by rw [hρ]; rfl) (by rw [hρ]; rfl) (by rw [hρ]; rfl) (by rw [hρ]; rfl) (by rw [hρ]; rfl) (by rw [hρ]; rfl) ?_
  have es : ∀ k : Int, (k ≠ 50 + 20 * a1 + 3) → ρ 129 k = σ 129 k := fun k hk => by rw [hρ]; simp (disch := omega) only [hh_up_ne, hh_up_at, hh_up_off]
  have g0 : ρ 129 (50 + 20 * a1 + 3) = σ 129 (50 + 20 * a1 + 3) + a2 := by rw [hρ]; simp (disch := omega) only [hh_up_ne, hh_up_at, hh_up_off]
  have c3 : ∀ k : Int, ρ 21 k = if k = a1 then σ 21 a1 + a2 else σ 21 k := fun k => by rw [hρ]; simp (disch := omega) only [hh_up_ne, hh_up_eq]
  refine ⟨hU.cg (by rw [hρ]; rfl) (by rw [hρ]; rfl) (fun k k1 k2 => es k (by omega)), hP.cg (by rw [hρ]; rfl) (by rw [hρ]; rfl) (by rw [hρ]; rfl) (by rw [hρ]; rfl) (fun k hk => es k (by omega)), hC.cg (by rw [hρ]; rfl) (by rw [hρ]; rfl) (fun k hk => es k (by omega)), ⟨by rw [show ρ 13 = σ 13 by rw [hρ]; rfl, es 6 (by omega)]; exact m1, fun m z1 z2 => ?_⟩, hE.cg (fun r r1 r2 => by rw [hρ]; simp (disch := omega) only [hh_up_ne, hh_cpy_ne]) (by first | (rw [es 4 (by omega)]; exact Int.le_refl _) | omega) (by first | (rw [es 6 (by omega)]; exact Int.le_refl _) | omega) (by first | (rw [es 0 (by omega)]; exact Int.le_refl _) | omega) (by first | (rw [es 10 (by omega)]; exact Int.le_refl _) | omega) (fun k hk => es k (by omega)) (fun b b1 b2 => es _ (by omega)), hD.cg (fun r r1 r2 => by rw [hρ]; simp (disch := omega) only [hh_up_ne, hh_cpy_ne]) (by first | (rw [es 4 (by omega)]; exact Int.le_refl _) | omega) (fun k hk => es k (by omega)), hB.cg hC hM (fun r r1 r2 => by rw [hρ]; simp (disch := omega) only [hh_up_ne, hh_cpy_ne]) (by rw [es 6 (by omega)]; exact Int.le_refl _) (by rw [es 0 (by omega)]; exact Int.le_refl _) (fun k hk => es k (by omega)) (fun m y1 y2 _ k k1 k2 => es k (by omega)), hK.cg (by rw [hρ]; rfl) (by rw [hρ]; rfl) (by rw [hρ]; rfl) (by rw [hρ]; rfl) (by first | (rw [es 6 (by omega)]; exact Int.le_refl _) | omega) (fun k hk => es k (by omega)), hT.cg (by rw [hρ]; rfl) (by rw [hρ]; rfl) (by rw [hρ]; rfl) (by rw [hρ]; rfl) (by rw [hρ]; rfl) (es 5 (by omega)) (fun k hk => es k (by omega))⟩
  rw [es 6 (by omega)] at z2
  by_cases z : m = a1
  · subst z
    obtain ⟨⟨x1, x2, x3, x4, x5, x6⟩, x7, x8, x9, x10, x11, x12⟩ := hM.2 m z1 z2
    unfold hr_M1
    rw [c3, if_pos rfl, g0, show ρ 14 = σ 14 by rw [hρ]; rfl, show ρ 15 = σ 15 by rw [hρ]; rfl, show ρ 16 = σ 16 by rw [hρ]; rfl, show ρ 17 = σ 17 by rw [hρ]; rfl, show ρ 18 = σ 18 by rw [hρ]; rfl, show ρ 19 = σ 19 by rw [hρ]; rfl, show ρ 20 = σ 20 by rw [hρ]; rfl, show ρ 22 = σ 22 by rw [hρ]; rfl, show ρ 23 = σ 23 by rw [hρ]; rfl, es (50 + 20 * m) (by omega), es (50 + 20 * m + 1) (by omega), es (50 + 20 * m + 2) (by omega), es (50 + 20 * m + 4) (by omega), es (50 + 20 * m + 10) (by omega), es (50 + 20 * m + 17) (by omega), es 5 (by omega)]
    refine ⟨⟨x1, x2, x3, x4, by omega, x6⟩, fun i i1 i2 => ?_, fun i j i1 i2 i3 => ?_, fun k k1 k2 => ?_, fun y => ?_, x11, x12⟩
    · rw [es _ (by omega), es _ (by omega)]
      exact x7 i i1 i2
    · rw [es _ (by omega), es _ (by omega)]
      exact x8 i j i1 i2 i3
    · rw [es _ (by omega)]
      exact x9 k k1 k2
    · rw [es _ (by omega)]
      exact x10 y
  · exact (hM.2 m z1 z2).cg (by rw [hρ]; rfl) (by rw [hρ]; rfl) (by rw [hρ]; rfl) (by rw [hρ]; rfl) (fun i _ _ => by rw [hρ]; rfl) (fun i _ _ => by rw [hρ]; rfl) (fun i _ _ => by rw [hρ]; rfl) (by rw [c3, if_neg z]) (by rw [hρ]; rfl) (fun i _ _ => by rw [hρ]; rfl) (by rw [es 5 (by omega)]; exact Int.le_refl _) (fun k k1 k2 => es k (by omega))
set_option maxHeartbeats 2000000 in
theorem o_trust {σ : hh_S} {a1 a2 : Int} (h : hr_R σ) : hr_op2 hm_X11_trust hm_X12_trust [hh_I a1, hh_I a2] σ := by
  obtain ⟨hU, hP, hC, hM, hE, hD, hB, hK, hT⟩ := h.1
  have u := hU
  unfold hr_U at u
  have p1 := hP.1
  have c1 := hC.1
  have m1 := hM.1
  have e1 := hE.1
  have d1 := hD.1
  have b1 := hB.1
  have k1 := hK.1
  have t1 := hT.1
  have q := hC.2 a1
  refine wp_X11_trust _ _ (fun hs h1 h2 => ?_)
  unfold P_X11_trust
  repeat' (first | with_reducible refine And.intro ?_ ?_ | with_reducible refine hh_all_eq ?_ | simp (disch := omega) only [hh_up_ne, hh_up_at, hh_up_off, not_true_eq_false, not_false_eq_true, false_implies, true_implies, implies_true, and_true, true_and, Int.add_zero] | with_reducible intro _ | omega | refine c_X1_has (by first | omega | (simp (disch := omega) only [hh_up_ne, hh_up_at, hh_up_off]; omega)) ?_ ?_ | refine c_within ?_ ?_)
  all_goals (refine wp_X12_trust _ _ (fun hs h1 h2 => ?_); unfold P_X12_trust; repeat' (first | with_reducible refine And.intro ?_ ?_ | with_reducible refine hh_all_eq ?_ | simp (disch := omega) only [hh_up_ne, hh_up_at, hh_up_off, not_true_eq_false, not_false_eq_true, false_implies, true_implies, implies_true, and_true, true_and, Int.add_zero] | with_reducible intro _ | omega | refine c_isClient (by first | omega | (simp (disch := omega) only [hh_up_ne, hh_up_at, hh_up_off]; omega)) ?_ ?_ | refine c_in ?_ ?_))
  all_goals first | exact h | skip
  refine hh_name (P := hr_R) (fun ρ hρ => ?_)
  refine h.nw (fun r r1 r2 => by rw [hρ]; simp (disch := omega) only [hh_up_ne, hh_cpy_ne]) (by rw [hρ]; rfl) (by rw [hρ]; rfl) (by rw [hρ]; rfl) (by rw [hρ]; rfl) (by rw [hρ]; rfl) (by rw [hρ]; rfl) (by rw [hρ]; rfl) (by rw [hρ]; rfl) (by rw [hρ]; rfl) (by rw [hρ]; rfl) (by rw [hρ]; rfl) (by rw [hρ]; rfl) (by rw [hρ]; rfl) (by rw [hρ]; rfl) ?_
  have es : ∀ k : Int, (k ≠ 44 + a1) → ρ 129 k = σ 129 k := fun k hk => by rw [hρ]; simp (disch := omega) only [hh_up_ne, hh_up_at, hh_up_off]
  have g0 : ρ 129 (44 + a1) = σ 129 (44 + a1) + a2 := by rw [hρ]; simp (disch := omega) only [hh_up_ne, hh_up_at, hh_up_off]
  have c3 : ∀ k : Int, ρ 7 k = if k = a1 then σ 7 a1 + a2 else σ 7 k := fun k => by rw [hρ]; simp (disch := omega) only [hh_up_ne, hh_up_eq]
  refine ⟨hU.cg (by rw [hρ]; rfl) (by rw [hρ]; rfl) (fun k k1 k2 => es k (by omega)), hP.cg (by rw [hρ]; rfl) (by rw [hρ]; rfl) (by rw [hρ]; rfl) (by rw [hρ]; rfl) (fun k hk => es k (by omega)), ⟨by rw [show ρ 6 = σ 6 by rw [hρ]; rfl, es 5 (by omega)]; exact c1, fun p p1 p2 => ?_⟩, hM.cg (by rw [hρ]; rfl) (by rw [hρ]; rfl) (by rw [hρ]; rfl) (by rw [hρ]; rfl) (by rw [hρ]; rfl) (by rw [hρ]; rfl) (by rw [hρ]; rfl) (by rw [hρ]; rfl) (by rw [hρ]; rfl) (by rw [hρ]; rfl) (by rw [hρ]; rfl) (by first | (rw [es 5 (by omega)]; exact Int.le_refl _) | omega) (fun k hk => es k (by omega)), hE.cg (fun r r1 r2 => by rw [hρ]; simp (disch := omega) only [hh_up_ne, hh_cpy_ne]) (by first | (rw [es 4 (by omega)]; exact Int.le_refl _) | omega) (by first | (rw [es 6 (by omega)]; exact Int.le_refl _) | omega) (by first | (rw [es 0 (by omega)]; exact Int.le_refl _) | omega) (by first | (rw [es 10 (by omega)]; exact Int.le_refl _) | omega) (fun k hk => es k (by omega)) (fun b b1 b2 => es _ (by omega)), hD.cg (fun r r1 r2 => by rw [hρ]; simp (disch := omega) only [hh_up_ne, hh_cpy_ne]) (by first | (rw [es 4 (by omega)]; exact Int.le_refl _) | omega) (fun k hk => es k (by omega)), hB.cg hC hM (fun r r1 r2 => by rw [hρ]; simp (disch := omega) only [hh_up_ne, hh_cpy_ne]) (by first | (rw [es 6 (by omega)]; exact Int.le_refl _) | omega) (by first | (rw [es 0 (by omega)]; exact Int.le_refl _) | omega) (fun k hk => es k (by omega)) (fun m m1 m2 m3 k k1 k2 => es k (by omega)), hK.cg (by rw [hρ]; rfl) (by rw [hρ]; rfl) (by rw [hρ]; rfl) (by rw [hρ]; rfl) (by first | (rw [es 6 (by omega)]; exact Int.le_refl _) | omega) (fun k hk => es k (by omega)), hT.cg (by rw [hρ]; rfl) (by rw [hρ]; rfl) (by rw [hρ]; rfl) (by rw [hρ]; rfl) (by rw [hρ]; rfl) (es 5 (by omega)) (fun k hk => es k (by omega))⟩
  rw [es 5 (by omega)] at p2
  rw [c3]
  by_cases z : p = a1
  · subst z
    rw [if_pos rfl, g0]
    omega
  · rw [if_neg z, es _ (by omega)]
    exact hC.2 p p1 p2
set_option maxHeartbeats 2000000 in
theorem o_task {σ : hh_S} {a1 a2 a3 : Int} (h : hr_R σ) : hr_op2 hm_X11_task hm_X12_task [hh_I a1, hh_I a2, hh_I a3] σ := by
  obtain ⟨hU, hP, hC, hM, hE, hD, hB, hK, hT⟩ := h.1
  have u := hU
  unfold hr_U at u
  have p1 := hP.1
  have c1 := hC.1
  have m1 := hM.1
  have e1 := hE.1
  have d1 := hD.1
  have b1 := hB.1
  have k1 := hK.1
  have t1 := hT.1
  refine wp_X11_task _ _ _ (fun hs h1 h2 h3 => ?_)
  unfold P_X11_task
  repeat' (first | with_reducible refine And.intro ?_ ?_ | with_reducible refine hh_all_eq ?_ | simp (disch := omega) only [hh_up_ne, hh_up_at, hh_up_off, not_true_eq_false, not_false_eq_true, false_implies, true_implies, implies_true, and_true, true_and, Int.add_zero] | with_reducible intro _ | omega | refine c_X5_has (by first | omega | (simp (disch := omega) only [hh_up_ne, hh_up_at, hh_up_off]; omega)) ?_ ?_ | refine c_within ?_ ?_)
  all_goals (refine wp_X12_task _ _ _ (fun hs h1 h2 h3 => ?_); unfold P_X12_task; repeat' (first | with_reducible refine And.intro ?_ ?_ | with_reducible refine hh_all_eq ?_ | simp (disch := omega) only [hh_up_ne, hh_up_at, hh_up_off, not_true_eq_false, not_false_eq_true, false_implies, true_implies, implies_true, and_true, true_and, Int.add_zero] | with_reducible intro _ | omega | refine c_isMatter (by first | omega | (simp (disch := omega) only [hh_up_ne, hh_up_at, hh_up_off]; omega)) ?_ ?_ | refine c_in ?_ ?_))
  all_goals first | exact h | skip
  refine hh_name (P := hr_R) (fun ρ hρ => ?_)
  refine h.nw (fun r r1 r2 => by rw [hρ]; simp (disch := omega) only [hh_up_ne, hh_cpy_ne]) (by rw [hρ]; rfl) (by rw [hρ]; rfl) (by rw [hρ]; rfl) (by rw [hρ]; rfl) (by rw [hρ]; rfl) (by rw [hρ]; rfl) (by rw [hρ]; rfl) (by rw [hρ]; rfl) (by rw [hρ]; rfl) (by rw [hρ]; rfl) (by rw [hρ]; rfl) (by rw [hρ]; rfl) (by rw [hρ]; rfl) (by rw [hρ]; rfl) ?_
  have es : ∀ k : Int, (k ≠ 11 ∧ (k < 1822 + 3 * σ 129 11 ∨ 1822 + 3 * σ 129 11 + 2 < k)) → ρ 129 k = σ 129 k := fun k hk => by rw [hρ]; simp (disch := omega) only [hh_up_ne, hh_up_at, hh_up_off]
  have f4 : ρ 129 11 = σ 129 11 + 1 := by rw [hρ]; simp (disch := omega) only [hh_up_ne, hh_up_at, hh_up_off]
  have g0 : ρ 129 (1822 + 3 * σ 129 11) = a1 := by rw [hρ]; simp (disch := omega) only [hh_up_ne, hh_up_at, hh_up_off]
  have g1 : ρ 129 (1822 + 3 * σ 129 11 + 1) = a2 := by rw [hρ]; simp (disch := omega) only [hh_up_ne, hh_up_at, hh_up_off]
  have g2 : ρ 129 (1822 + 3 * σ 129 11 + 2) = a3 := by rw [hρ]; simp (disch := omega) only [hh_up_ne, hh_up_at, hh_up_off]
  have c0 : ρ 50 0 = σ 50 0 + 1 := by rw [hρ]; simp (disch := omega) only [hh_up_ne, hh_up_at, hh_up_off]
  have c3 : ∀ k : Int, ρ 51 k = if k = σ 50 0 then a1 else σ 51 k := fun k => by rw [hρ]; simp (disch := omega) only [hh_up_ne, hh_up_eq]
  have c4 : ∀ k : Int, ρ 52 k = if k = σ 50 0 then a2 else σ 52 k := fun k => by rw [hρ]; simp (disch := omega) only [hh_up_ne, hh_up_eq]
  have c5 : ∀ k : Int, ρ 53 k = if k = σ 50 0 then a3 else σ 53 k := fun k => by rw [hρ]; simp (disch := omega) only [hh_up_ne, hh_up_eq]
  refine ⟨hU.cg (by rw [hρ]; rfl) (by rw [hρ]; rfl) (fun k k1 k2 => es k (by omega)), hP.cg (by rw [hρ]; rfl) (by rw [hρ]; rfl) (by rw [hρ]; rfl) (by rw [hρ]; rfl) (fun k hk => es k (by omega)), hC.cg (by rw [hρ]; rfl) (by rw [hρ]; rfl) (fun k hk => es k (by omega)), hM.cg (by rw [hρ]; rfl) (by rw [hρ]; rfl) (by rw [hρ]; rfl) (by rw [hρ]; rfl) (by rw [hρ]; rfl) (by rw [hρ]; rfl) (by rw [hρ]; rfl) (by rw [hρ]; rfl) (by rw [hρ]; rfl) (by rw [hρ]; rfl) (by rw [hρ]; rfl) (by first | (rw [es 5 (by omega)]; exact Int.le_refl _) | omega) (fun k hk => es k (by omega)), hE.cg (fun r r1 r2 => by rw [hρ]; simp (disch := omega) only [hh_up_ne, hh_cpy_ne]) (by first | (rw [es 4 (by omega)]; exact Int.le_refl _) | omega) (by first | (rw [es 6 (by omega)]; exact Int.le_refl _) | omega) (by first | (rw [es 0 (by omega)]; exact Int.le_refl _) | omega) (by first | (rw [es 10 (by omega)]; exact Int.le_refl _) | omega) (fun k hk => es k (by omega)) (fun b b1 b2 => es _ (by omega)), hD.cg (fun r r1 r2 => by rw [hρ]; simp (disch := omega) only [hh_up_ne, hh_cpy_ne]) (by first | (rw [es 4 (by omega)]; exact Int.le_refl _) | omega) (fun k hk => es k (by omega)), hB.cg hC hM (fun r r1 r2 => by rw [hρ]; simp (disch := omega) only [hh_up_ne, hh_cpy_ne]) (by first | (rw [es 6 (by omega)]; exact Int.le_refl _) | omega) (by first | (rw [es 0 (by omega)]; exact Int.le_refl _) | omega) (fun k hk => es k (by omega)) (fun m m1 m2 m3 k k1 k2 => es k (by omega)), ⟨by omega, fun p p1 p2 => ?_⟩, hT.cg (by rw [hρ]; rfl) (by rw [hρ]; rfl) (by rw [hρ]; rfl) (by rw [hρ]; rfl) (by rw [hρ]; rfl) (es 5 (by omega)) (fun k hk => es k (by omega))⟩
  rw [c3, c4, c5, es 6 (by omega)]
  rcases (show p < σ 129 11 ∨ p = σ 129 11 by omega) with z | z
  · rw [if_neg (by omega), if_neg (by omega), if_neg (by omega), es _ (by omega), es _ (by omega), es _ (by omega)]
    exact hK.2 p p1 z
  · subst z
    rw [if_pos (by omega), if_pos (by omega), if_pos (by omega), g0, g1, g2]
    omega
set_option maxHeartbeats 2000000 in
theorem o_clear {σ : hh_S} (h : hr_R σ) : hr_op2 hm_X11_clear hm_X12_clear [] σ := by
  obtain ⟨hU, hP, hC, hM, hE, hD, hB, hK, hT⟩ := h.1
  have u := hU
  unfold hr_U at u
  have p1 := hP.1
  have c1 := hC.1
  have m1 := hM.1
  have e1 := hE.1
  have d1 := hD.1
  have b1 := hB.1
  have k1 := hK.1
  have t1 := hT.1
  refine wp_X11_clear (fun hs => ?_)
  unfold P_X11_clear
  repeat' (first | with_reducible refine And.intro ?_ ?_ | with_reducible refine hh_all_eq ?_ | simp (disch := omega) only [hh_up_ne, hh_up_at, hh_up_off, not_true_eq_false, not_false_eq_true, false_implies, true_implies, implies_true, and_true, true_and, Int.add_zero] | with_reducible intro _ | omega | refine c_within ?_ ?_)
  all_goals (refine wp_X12_clear (fun hs => ?_); unfold P_X12_clear; repeat' (first | with_reducible refine And.intro ?_ ?_ | with_reducible refine hh_all_eq ?_ | simp (disch := omega) only [hh_up_ne, hh_up_at, hh_up_off, not_true_eq_false, not_false_eq_true, false_implies, true_implies, implies_true, and_true, true_and, Int.add_zero] | with_reducible intro _ | omega | refine c_in ?_ ?_))
  refine hh_name (P := hr_R) (fun ρ hρ => ?_)
  refine h.nw (fun r r1 r2 => by rw [hρ]; simp (disch := omega) only [hh_up_ne, hh_cpy_ne]) (by rw [hρ]; rfl) (by rw [hρ]; rfl) (by rw [hρ]; rfl) (by rw [hρ]; rfl) (by rw [hρ]; rfl) (by rw [hρ]; rfl) (by rw [hρ]; rfl) (by rw [hρ]; rfl) (by rw [hρ]; rfl) (by rw [hρ]; rfl) (by rw [hρ]; rfl) (by rw [hρ]; rfl) (by rw [hρ]; rfl) (by rw [hρ]; rfl) ?_
  have es : ∀ k : Int, (k ≠ 11) → ρ 129 k = σ 129 k := fun k hk => by rw [hρ]; simp (disch := omega) only [hh_up_ne, hh_up_at, hh_up_off]
  have f4 : ρ 129 11 = 0 := by rw [hρ]; simp (disch := omega) only [hh_up_ne, hh_up_at, hh_up_off]
  have c0 : ρ 50 0 = 0 := by rw [hρ]; simp (disch := omega) only [hh_up_ne, hh_up_at, hh_up_off]
  exact ⟨hU.cg (by rw [hρ]; rfl) (by rw [hρ]; rfl) (fun k k1 k2 => es k (by omega)), hP.cg (by rw [hρ]; rfl) (by rw [hρ]; rfl) (by rw [hρ]; rfl) (by rw [hρ]; rfl) (fun k hk => es k (by omega)), hC.cg (by rw [hρ]; rfl) (by rw [hρ]; rfl) (fun k hk => es k (by omega)), hM.cg (by rw [hρ]; rfl) (by rw [hρ]; rfl) (by rw [hρ]; rfl) (by rw [hρ]; rfl) (by rw [hρ]; rfl) (by rw [hρ]; rfl) (by rw [hρ]; rfl) (by rw [hρ]; rfl) (by rw [hρ]; rfl) (by rw [hρ]; rfl) (by rw [hρ]; rfl) (by first | (rw [es 5 (by omega)]; exact Int.le_refl _) | omega) (fun k hk => es k (by omega)), hE.cg (fun r r1 r2 => by rw [hρ]; simp (disch := omega) only [hh_up_ne, hh_cpy_ne]) (by first | (rw [es 4 (by omega)]; exact Int.le_refl _) | omega) (by first | (rw [es 6 (by omega)]; exact Int.le_refl _) | omega) (by first | (rw [es 0 (by omega)]; exact Int.le_refl _) | omega) (by first | (rw [es 10 (by omega)]; exact Int.le_refl _) | omega) (fun k hk => es k (by omega)) (fun b b1 b2 => es _ (by omega)), hD.cg (fun r r1 r2 => by rw [hρ]; simp (disch := omega) only [hh_up_ne, hh_cpy_ne]) (by first | (rw [es 4 (by omega)]; exact Int.le_refl _) | omega) (fun k hk => es k (by omega)), hB.cg hC hM (fun r r1 r2 => by rw [hρ]; simp (disch := omega) only [hh_up_ne, hh_cpy_ne]) (by first | (rw [es 6 (by omega)]; exact Int.le_refl _) | omega) (by first | (rw [es 0 (by omega)]; exact Int.le_refl _) | omega) (fun k hk => es k (by omega)) (fun m m1 m2 m3 k k1 k2 => es k (by omega)), ⟨by omega, fun p p1 p2 => by omega⟩, hT.cg (by rw [hρ]; rfl) (by rw [hρ]; rfl) (by rw [hρ]; rfl) (by rw [hρ]; rfl) (by rw [hρ]; rfl) (es 5 (by omega)) (fun k hk => es k (by omega))⟩
set_option maxHeartbeats 2000000 in
theorem o_free {σ : hh_S} {a1 a2 : Int} (h : hr_R σ) : hr_op2 hm_X11_free hm_X12_free [hh_I a1, hh_I a2] σ := by
  obtain ⟨hU, hP, hC, hM, hE, hD, hB, hK, hT⟩ := h.1
  have u := hU
  unfold hr_U at u
  have p1 := hP.1
  have c1 := hC.1
  have m1 := hM.1
  have e1 := hE.1
  have d1 := hD.1
  have b1 := hB.1
  have k1 := hK.1
  have t1 := hT.1
  have q := hP.2 a1
  refine wp_X11_free _ _ (fun hs h1 h2 => ?_)
  unfold P_X11_free
  repeat' (first | with_reducible refine And.intro ?_ ?_ | with_reducible refine hh_all_eq ?_ | simp (disch := omega) only [hh_up_ne, hh_up_at, hh_up_off, not_true_eq_false, not_false_eq_true, false_implies, true_implies, implies_true, and_true, true_and, Int.add_zero] | with_reducible intro _ | omega | refine c_X6_has (by first | omega | (simp (disch := omega) only [hh_up_ne, hh_up_at, hh_up_off]; omega)) ?_ ?_ | refine c_within ?_ ?_)
  all_goals (refine wp_X12_free _ _ (fun hs h1 h2 => ?_); unfold P_X12_free; repeat' (first | with_reducible refine And.intro ?_ ?_ | with_reducible refine hh_all_eq ?_ | simp (disch := omega) only [hh_up_ne, hh_up_at, hh_up_off, not_true_eq_false, not_false_eq_true, false_implies, true_implies, implies_true, and_true, true_and, Int.add_zero] | with_reducible intro _ | omega | refine c_isPerson (by first | omega | (simp (disch := omega) only [hh_up_ne, hh_up_at, hh_up_off]; omega)) ?_ ?_ | refine c_in ?_ ?_))
  all_goals first | exact h | skip
  refine hh_name (P := hr_R) (fun ρ hρ => ?_)
  refine h.nw (fun r r1 r2 => by rw [hρ]; simp (disch := omega) only [hh_up_ne, hh_cpy_ne]) (by rw [hρ]; rfl) (by rw [hρ]; rfl) (by rw [hρ]; rfl) (by rw [hρ]; rfl) (by rw [hρ]; rfl) (by rw [hρ]; rfl) (by rw [hρ]; rfl) (by rw [hρ]; rfl) (by rw [hρ]; rfl) (by rw [hρ]; rfl) (by rw [hρ]; rfl) (by rw [hρ]; rfl) (by rw [hρ]; rfl) (by rw [hρ]; rfl) ?_
  have es : ∀ k : Int, (k ≠ 20 + 3 * a1 + 2) → ρ 129 k = σ 129 k := fun k hk => by rw [hρ]; simp (disch := omega) only [hh_up_ne, hh_up_at, hh_up_off]
  have g0 : ρ 129 (20 + 3 * a1 + 2) = a2 := by rw [hρ]; simp (disch := omega) only [hh_up_ne, hh_up_at, hh_up_off]
  have c5 : ∀ k : Int, ρ 5 k = if k = a1 then a2 else σ 5 k := fun k => by rw [hρ]; simp (disch := omega) only [hh_up_ne, hh_up_eq]
  refine ⟨hU.cg (by rw [hρ]; rfl) (by rw [hρ]; rfl) (fun k k1 k2 => es k (by omega)), ⟨by rw [show ρ 2 = σ 2 by rw [hρ]; rfl, es 4 (by omega)]; exact p1, fun p z1 z2 => ?_⟩, hC.cg (by rw [hρ]; rfl) (by rw [hρ]; rfl) (fun k hk => es k (by omega)), hM.cg (by rw [hρ]; rfl) (by rw [hρ]; rfl) (by rw [hρ]; rfl) (by rw [hρ]; rfl) (by rw [hρ]; rfl) (by rw [hρ]; rfl) (by rw [hρ]; rfl) (by rw [hρ]; rfl) (by rw [hρ]; rfl) (by rw [hρ]; rfl) (by rw [hρ]; rfl) (by first | (rw [es 5 (by omega)]; exact Int.le_refl _) | omega) (fun k hk => es k (by omega)), hE.cg (fun r r1 r2 => by rw [hρ]; simp (disch := omega) only [hh_up_ne, hh_cpy_ne]) (by first | (rw [es 4 (by omega)]; exact Int.le_refl _) | omega) (by first | (rw [es 6 (by omega)]; exact Int.le_refl _) | omega) (by first | (rw [es 0 (by omega)]; exact Int.le_refl _) | omega) (by first | (rw [es 10 (by omega)]; exact Int.le_refl _) | omega) (fun k hk => es k (by omega)) (fun b b1 b2 => es _ (by omega)), hD.cg (fun r r1 r2 => by rw [hρ]; simp (disch := omega) only [hh_up_ne, hh_cpy_ne]) (by first | (rw [es 4 (by omega)]; exact Int.le_refl _) | omega) (fun k hk => es k (by omega)), hB.cg hC hM (fun r r1 r2 => by rw [hρ]; simp (disch := omega) only [hh_up_ne, hh_cpy_ne]) (by first | (rw [es 6 (by omega)]; exact Int.le_refl _) | omega) (by first | (rw [es 0 (by omega)]; exact Int.le_refl _) | omega) (fun k hk => es k (by omega)) (fun m m1 m2 m3 k k1 k2 => es k (by omega)), hK.cg (by rw [hρ]; rfl) (by rw [hρ]; rfl) (by rw [hρ]; rfl) (by rw [hρ]; rfl) (by first | (rw [es 6 (by omega)]; exact Int.le_refl _) | omega) (fun k hk => es k (by omega)), hT.cg (by rw [hρ]; rfl) (by rw [hρ]; rfl) (by rw [hρ]; rfl) (by rw [hρ]; rfl) (by rw [hρ]; rfl) (es 5 (by omega)) (fun k hk => es k (by omega))⟩
  rw [es 4 (by omega)] at z2
  rw [c5, show ρ 3 = σ 3 by rw [hρ]; rfl, show ρ 4 = σ 4 by rw [hρ]; rfl, es (20 + 3 * p) (by omega), es (20 + 3 * p + 1) (by omega)]
  by_cases z : p = a1
  · subst z
    rw [if_pos rfl, g0]
    have := hP.2 p z1 z2
    omega
  · rw [if_neg z, es _ (by omega)]
    exact hP.2 p z1 z2
