def hr_R0 (s : Int → Int) (tries : Int) : Int × hr_St := hr_sk s (s 11).toNat (s 4).toNat (s 11).toNat (fun p => s (20 + 3 * p + 2)) (fun _ => 0) 0 (tries, -1, fun _ => 0)
set_option maxHeartbeats 2000000 in
theorem c_X7_seek {d : Nat} {σ : hh_S} {s : Int → Int} {tries : Int} {Q : Int → hh_S → Prop} (h : hr_N σ s) (ht : 1 ≤ tries ∧ tries ≤ 30000) (hq : ∀ ρ : hh_S, (∀ r : Nat, r ≠ 117 → r ≠ 118 → r ≠ 119 → r ≠ 120 → r ≠ 121 → ρ r = σ r) → hr_ps1 ρ (s 11).toNat (hr_R0 s tries).2 → -1 ≤ (hr_R0 s tries).2.2.1 → Q (if (hr_R0 s tries).1 = 0 then -1000000004 else hr_en (hr_R0 s tries).2.2.1) ρ) : hh_Sp (d + 20) hm_X7_seek [hh_R 117, hh_I tries] σ Q := by
  obtain ⟨hU, hP, hC, hM, hE, hD, hB, hK, hT⟩ := h
  have p1 := hP.1
  have k1 := hK.1
  have m1 := hM.1
  obtain ⟨T, hTT⟩ : ∃ T : Nat, s 11 = T := ⟨(s 11).toNat, by omega⟩
  obtain ⟨N, hNN⟩ : ∃ N : Nat, s 4 = N := ⟨(s 4).toNat, by omega⟩
  unfold hr_R0 at hq
  rw [show (s 11).toNat = T by omega, show (s 4).toNat = N by omega] at hq
  have FIN : ∀ τ : hh_S, (∀ r : Nat, r ≠ 118 → r ≠ 119 → τ r = σ r) → (∀ p : Int, 0 ≤ p → p < N → τ 119 p = s (20 + 3 * p + 2)) → (∀ t p : Int, 0 ≤ t → t < T → 0 ≤ p → p < N → τ 118 (t * 8 + p) = if hr_my s t p then 1 else 0) → B_X7_seek_129 (d + 19) Q tries τ := by
    intro τ r1 l1 y1
    unfold B_X7_seek_129
    have fp : ∀ r : Nat, (2 ≤ r ∧ r < 6) ∨ (50 ≤ r ∧ r < 54) → τ r = σ r := fun r hr => r1 r (by omega) (by omega)
    have sf := @c_seekFrom s T N hTT hNN T (Nat.le_refl _) (d + 16 - T) (hh_up (hh_up τ 117 5 (-1000000002)) 117 6 tries) (fun p => s (20 + 3 * p + 2)) (fun _ => 0) 0 (tries, -1, fun _ => 0) (fun r143 σ143 => (r143 = 0 → Q (-1000000004) σ143) ∧ (¬ r143 = 0 → Q (σ143 117 5) σ143)) (hP.cg (by rw [← fp 2 (by omega)]; rfl) (by rw [← fp 3 (by omega)]; rfl) (by rw [← fp 4 (by omega)]; rfl) (by rw [← fp 5 (by omega)]; rfl) (fun _ _ => rfl)) (hK.cg (by rw [← fp 50 (by omega)]; rfl) (by rw [← fp 51 (by omega)]; rfl) (by rw [← fp 52 (by omega)]; rfl) (by rw [← fp 53 (by omega)]; rfl) (Int.le_refl _) (fun _ _ => rfl)) (fun t p t1 t2 t3 t4 => by rw [hh_up_ne (by omega), hh_up_ne (by omega)]; exact y1 t p t1 t2 t3 t4) (fun p t1 t2 => by rw [hh_up_ne (by omega), hh_up_ne (by omega)]; exact ⟨l1 p t1 t2, (hP.2 p t1 (by omega)).2.2.2⟩) (fun i i1 i2 => by omega) ⟨by rw [hh_up_at], by rw [hh_up_off (by omega), hh_up_at]; rfl, fun ne => absurd rfl ne⟩ ⟨by show 0 ≤ tries; omega, by show tries ≤ 30000; omega, Int.le_refl _⟩ (by omega) (fun ρ q1 q2 q3 q4 q5 => ?_)
    · rw [show d + 16 - T + T + 3 = d + 19 by omega, show (T : Int) - T = 0 by omega] at sf
      exact sf
    have hq2 := hq ρ (fun r w1 w2 w3 w4 w5 => by rw [q1 r w1 w3 w4 w5, hh_up_ne w1, hh_up_ne w1, r1 r w2 w3]) q3 q4.2.2
    refine ⟨fun z => ?_, fun z => ?_⟩
    · rw [if_pos z] at hq2
      exact hq2
    · rw [if_neg z] at hq2
      rw [q3.2.1]
      exact hq2
  refine wp_X7_seek _ (fun _ _ => ?_)
  unfold P_X7_seek
  refine c_takeOver (N := 8) ⟨8, rfl, rfl, by omega⟩ ⟨8, rfl, rfl, by omega⟩ (by omega) ?_
  refine hh_lp2_of (fun n x1 x2 τ => x1 = tries ∧ (0 ≤ x2 ∧ x2 ≤ T ∧ T - x2 ≤ n) ∧ (∀ r : Nat, r ≠ 118 → r ≠ 119 → τ r = σ r) ∧ (∀ p : Int, 0 ≤ p → p < N → τ 119 p = s (20 + 3 * p + 2)) ∧ (∀ t p : Int, 0 ≤ t → t < x2 → 0 ≤ p → p < N → τ 118 (t * 8 + p) = if hr_my s t p then 1 else 0)) ?_ T tries 0 _ ⟨rfl, by omega, fun r q1 q2 => by rw [hh_cpy_ne q2], fun p q1 q2 => ?_, fun t p q1 q2 => by omega⟩
  · rintro n x1 x2 τ kk ⟨rfl, f1, r1, l1, y1⟩ hk
    unfold B_X7_seek_19
    rw [r1 50 (by omega) (by omega), k1.1, hTT]
    refine ⟨fun z => FIN τ r1 l1 (fun t p q1 q2 q3 q4 => y1 t p q1 (by omega) q3 q4), fun z => ?_⟩
    have kt := hK.2 x2 (by omega) (by omega)
    have mt := (hM.2 _ kt.1.2.1 kt.1.2.2).2.2.2.2.2
    refine hh_lp3_of (fun n' z1 z2 z3 τ' => (z1 = x1 ∧ z2 = x2) ∧ (0 ≤ z3 ∧ z3 ≤ N ∧ N - z3 ≤ n') ∧ (∀ r : Nat, r ≠ 118 → r ≠ 119 → τ' r = σ r) ∧ (∀ p : Int, 0 ≤ p → p < N → τ' 119 p = s (20 + 3 * p + 2)) ∧ (∀ t p : Int, 0 ≤ t → t < x2 → 0 ≤ p → p < N → τ' 118 (t * 8 + p) = if hr_my s t p then 1 else 0) ∧ (∀ p : Int, 0 ≤ p → p < z3 → τ' 118 (x2 * 8 + p) = if hr_my s x2 p then 1 else 0)) ?_ N x1 x2 0 τ ⟨⟨rfl, rfl⟩, by omega, r1, l1, y1, fun p q1 q2 => by omega⟩
    rintro n' z1 z2 z3 τ' k' ⟨⟨rfl, rfl⟩, g1, t1, t2, t3, t4⟩ hk'
    unfold B_X7_seek_35
    rw [t1 2 (by omega) (by omega), p1.1, hNN]
    refine ⟨fun y => ?_, fun y => ⟨by omega, ?_⟩⟩
    · unfold B_X7_seek_123
      refine ⟨by omega, hk (n - 1) _ _ _ (by omega) ⟨rfl, by omega, t1, t2, fun t p q1 q2 q3 q4 => ?_⟩⟩
      by_cases w : t = z2
      · rw [w]; exact t4 p q3 (by omega)
      · exact t3 t p q1 (by omega) q3 q4
    have px := hP.2 z3 (by omega) (by omega)
    have bx := (hr_bits (p := z3) mt.2 (by omega)).2.2
    have ST : ∀ v : Int, (v = if hr_my s z2 z3 then 1 else 0) → B_X7_seek_116 (d + 19) Q kk k' z1 z2 z3 (z2 * 8 + z3) v τ' := by
      intro v hv
      have vb : v = 0 ∨ v = 1 := by rw [hv]; split <;> omega
      unfold B_X7_seek_116
      refine ⟨by omega, hk' (n' - 1) _ _ _ _ (by omega) ⟨⟨rfl, rfl⟩, by omega, fun r q1 q2 => by rw [hh_up_ne q1]; exact t1 r q1 q2, fun p q1 q2 => by rw [hh_up_ne (by omega)]; exact t2 p q1 q2, fun t p q1 q2 q3 q4 => by rw [hh_up_off (by omega)]; exact t3 t p q1 q2 q3 q4, fun p q1 q2 => ?_⟩⟩
      by_cases w : p = z3
      · rw [w, hh_up_at, hv]
      · rw [hh_up_off (by omega)]; exact t4 p q1 (by omega)
    unfold B_X7_seek_115
    rw [t1 53 (by omega) (by omega), kt.2.2.1]
    have kd := kt.2.2
    refine c_X6_isUnder (by omega) (fun w => ⟨fun w2 => by omega, fun _ => ⟨by omega, ?_⟩⟩) (fun w => ⟨fun _ => ST 0 ?_, fun w2 => by omega⟩) <;> rw [t1 3 (by omega) (by omega), px.1.1] at w
    · rw [t1 51 (by omega) (by omega), kt.1.1]
      refine c_hasWall (by omega) (fun w3 => ⟨fun _ => ST 0 ?_, fun w4 => by omega⟩) (fun w3 => ⟨fun w4 => by omega, fun _ => ST 1 ?_⟩) <;> rw [t1 20 (by omega) (by omega), mt.1 z3 (by omega) (by omega)] at w3
      · rw [if_neg (fun x => by have := x.2; omega)]
      · rw [if_pos ⟨by omega, by omega⟩]
    · rw [if_neg (fun x => by have := x.1; omega)]
  · rw [hh_cpy_eq]
    show (if 0 ≤ p ∧ p < 0 + 8 then _ else _) = _
    rw [if_pos (by omega), show (0 : Int) + (p - 0) = p by omega]
    exact (hP.2 p q1 (by omega)).1.2.2
