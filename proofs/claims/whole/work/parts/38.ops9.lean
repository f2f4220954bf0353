theorem c_owedByAll {d : Nat} {σ : hh_S} {Q : Int → hh_S → Prop} {b : Int} (hb : 0 ≤ b ∧ b < 16) (hv : ∀ i : Int, 0 ≤ i → i < 3 → 0 ≤ σ 49 (b * 3 + i) ∧ σ 49 (b * 3 + i) ≤ 30000000) (hq : Q (σ 49 (b * 3 + 0) + σ 49 (b * 3 + 1) + σ 49 (b * 3 + 2)) σ) : hh_Sp (d + 1) hm_X0_owedByAll [hh_R 42, hh_I b] σ Q := by
  refine wp_X0_owedByAll _ (fun _ _ => ?_)
  refine hh_lp3_of (fun m x1 x2 x3 τ => τ = σ ∧ x1 = b ∧ 0 ≤ x3 ∧ x3 ≤ 3 ∧ 3 - x3 ≤ m ∧ x2 = hr_sm (fun i => σ 49 (b * 3 + i)) x3.toNat) ?_ 3 b 0 0 σ ⟨rfl, rfl, by omega, by omega, by omega, rfl⟩
  rintro m x1 x2 x3 τ k ⟨rfl, rfl, i1, i2, i3, rfl⟩ hk
  refine ⟨fun c => ?_, fun c => ?_⟩
  · rw [show x3.toNat = 3 by omega]
    have : hr_sm (fun i => τ 49 (x1 * 3 + i)) 3 = τ 49 (x1 * 3 + 0) + τ 49 (x1 * 3 + 1) + τ 49 (x1 * 3 + 2) := by
      show 0 + τ 49 (x1 * 3 + 0) + τ 49 (x1 * 3 + 1) + τ 49 (x1 * 3 + 2) = _
      omega
    rw [this]
    exact hq
  · have b1 := hr_sm_b (f := fun i => τ 49 (x1 * 3 + i)) (B := 30000000) (by decide) x3.toNat (fun i i1 i2 => hv i i1 (by omega))
    have b2 := hv x3 i1 (by omega)
    have b3 : ((x3.toNat : Nat) : Int) * 30000000 ≤ 3 * 30000000 := Int.mul_le_mul_of_nonneg_right (by omega) (by decide)
    refine ⟨by omega, hk (m - 1) _ _ _ _ (by omega) ⟨rfl, rfl, by omega, by omega, by omega, ?_⟩⟩
    rw [show (x3 + 1).toNat = x3.toNat + 1 by omega]
    show _ = hr_sm (fun i => τ 49 (x1 * 3 + i)) x3.toNat + τ 49 (x1 * 3 + (x3.toNat : Int))
    rw [show ((x3.toNat : Nat) : Int) = x3 by omega]
set_option maxHeartbeats 2000000 in
theorem o_about {σ : hh_S} {a1 a2 : Int} (h : hr_R σ) : hr_op2 hm_X11_about hm_X12_about [hh_I a1, hh_I a2] σ := by
  obtain ⟨hU, hP, hC, hM, hE, hD, hB, hK, hT⟩ := h.1
  have u := hU
  unfold hr_U at u
  have p1 := hP.1
  have c1 := hC.1
  have m1 := hM.1
  have e1 := hE.1
  have d1 := hD.1
  have b1 := hB.1
  have k1 := hK.1
  have t1 := hT.1
  have BD : (¬ (0 ≤ a1 ∧ a1 < σ 129 10) ∨ ¬ (0 ≤ a2 ∧ a2 ≤ 6)) → hh_Sp 200 hm_X12_about [hh_R 128, hh_I a1, hh_I a2] σ (fun r' σ2 => -1000000001 = r' ∧ hr_R σ2) := by
    intro hb
    refine wp_X12_about _ _ (fun _ _ _ => ?_)
    unfold P_X12_about
    refine c_isBill (by omega) (fun _ _ => ⟨fun z => by omega, fun _ => ?_⟩) (fun z => ⟨fun _ => ⟨rfl, h⟩, fun y => by omega⟩)
    exact c_in (fun _ _ => by omega) (fun z => ⟨fun y => by omega, fun _ => ⟨rfl, h⟩⟩)
  refine wp_X11_about _ _ (fun hs h1 h2 => ?_)
  unfold P_X11_about
  refine c_X0_has (by omega) (fun g1 g2 => ⟨fun _ => ?_, fun z => by omega⟩) (fun z => ⟨fun y => by omega, fun _ => BD (by omega)⟩)
  obtain ⟨⟨x1, x2, x3, x4, x5, x6⟩, x7, x8, x9, x10⟩ := hB.2 a1 g1 (by omega)
  have hp := hr_pay hC hM x1.2.1 x1.2.2
  have hd := (hM.2 _ x1.2.1 x1.2.2).2.2.1
  have md : ∀ r : Int, 0 ≤ a2 → a2 ≤ 6 → (a2 ≠ 6 → r = σ 129 (1630 + 12 * a1 + a2)) → (a2 = 6 → r = σ 129 (1630 + 12 * a1 + 6 + 0) + σ 129 (1630 + 12 * a1 + 6 + 1) + σ 129 (1630 + 12 * a1 + 6 + 2) + σ 129 (1630 + 12 * a1 + 6 + 3) + σ 129 (1630 + 12 * a1 + 6 + 4)) → hh_Sp 200 hm_X12_about [hh_R 128, hh_I a1, hh_I a2] σ (fun r' σ2 => r = r' ∧ hr_R σ2) := by
    intro r g3 g4 r0 r1
    refine wp_X12_about _ _ (fun _ _ _ => ?_)
    unfold P_X12_about
    refine c_isBill (by omega) (fun _ _ => ⟨fun z => by omega, fun _ => ?_⟩) (fun z => by omega)
    refine c_in (fun _ _ => ⟨fun _ => ⟨by omega, ?_⟩, fun z => by omega⟩) (fun z => by omega)
    refine hh_lp4_of (fun m y2 y3 y4 y5 τ => τ = σ ∧ y2 = a2 ∧ y3 = 1630 + 12 * a1 ∧ 0 ≤ y5 ∧ y5 ≤ 5 ∧ 5 - y5 ≤ m ∧ y4 = hr_sm (fun c => σ 129 (1630 + 12 * a1 + 6 + c)) y5.toNat) ?_ 5 a2 (1630 + 12 * a1) 0 0 σ ⟨rfl, rfl, rfl, by omega, by omega, by omega, rfl⟩
    rintro m y2 y3 y4 y5 τ k ⟨rfl, rfl, rfl, i1, i2, i3, rfl⟩ hk
    unfold B_X12_about_36 B_X12_about_65
    refine ⟨fun c => ⟨fun c2 => ⟨by omega, r0 c2, h⟩, fun c2 => ⟨?_, h⟩⟩, fun c => ?_⟩
    · rw [show y5.toNat = 5 by omega, r1 c2]
      show _ = 0 + τ 129 (1630 + 12 * a1 + 6 + 0) + τ 129 (1630 + 12 * a1 + 6 + 1) + τ 129 (1630 + 12 * a1 + 6 + 2) + τ 129 (1630 + 12 * a1 + 6 + 3) + τ 129 (1630 + 12 * a1 + 6 + 4)
      omega
    · have b1 := hr_sm_b (f := fun c => τ 129 (1630 + 12 * a1 + 6 + c)) (B := 30000000) (by decide) y5.toNat (fun i i1 i2 => x10 i i1 (by omega))
      have b2 := x10 y5 i1 (by omega)
      have b3 : ((y5.toNat : Nat) : Int) * 30000000 ≤ 5 * 30000000 := Int.mul_le_mul_of_nonneg_right (by omega) (by decide)
      refine ⟨by omega, hk (m - 1) _ _ _ _ _ (by omega) ⟨rfl, rfl, rfl, by omega, by omega, by omega, ?_⟩⟩
      rw [show (y5 + 1).toNat = y5.toNat + 1 by omega]
      show _ = hr_sm (fun c => τ 129 (1630 + 12 * a1 + 6 + c)) y5.toNat + τ 129 (1630 + 12 * a1 + 6 + (y5.toNat : Int))
      rw [show ((y5.toNat : Nat) : Int) = y5 by omega]
  refine ⟨fun z => BD (by omega), fun z => ⟨by omega, md _ (by omega) (by omega) (fun _ => ?_) (fun y => by omega)⟩, fun z => ⟨by omega, md _ (by omega) (by omega) (fun _ => ?_) (fun y => by omega)⟩, fun z => ⟨by omega, md _ (by omega) (by omega) (fun _ => ?_) (fun y => by omega)⟩, fun z => ⟨by omega, md _ (by omega) (by omega) (fun _ => ?_) (fun y => by omega)⟩, fun z => ⟨by omega, md _ (by omega) (by omega) (fun _ => ?_) (fun y => by omega)⟩, fun z => ⟨by omega, md _ (by omega) (by omega) (fun _ => ?_) (fun y => by omega)⟩, fun z => ?_⟩
  · rw [z, Int.add_zero]; exact x1.1
  · rw [z]; exact x2.1
  · rw [z]; exact x3
  · rw [z]; exact x4
  · rw [z]; exact x5
  · rw [z]; exact x6
  · have ow : ∀ i : Int, 0 ≤ i → i < 3 → 0 ≤ σ 49 (a1 * 3 + i) ∧ σ 49 (a1 * 3 + i) ≤ 30000000 := by
      intro i i1 i2
      by_cases w : i < σ 129 (50 + 20 * σ 129 (1630 + 12 * a1) + 10)
      · rw [x7 i i1 w]
        have := hp.2 i i1 w
        exact x10 _ this.1 this.2
      · rw [x8 i (by omega) i2]
        omega
    refine c_owedByAll (by omega) ow (md _ (by omega) (by omega) (fun y => absurd z y) (fun _ => ?_))
    generalize hn : σ 129 (50 + 20 * σ 129 (1630 + 12 * a1) + 10) = n at *
    refine hr_bal (n := n) (c0 := σ 129 (50 + 20 * σ 129 (1630 + 12 * a1) + 11 + 0)) (c1 := σ 129 (50 + 20 * σ 129 (1630 + 12 * a1) + 11 + 1)) (c2 := σ 129 (50 + 20 * σ 129 (1630 + 12 * a1) + 11 + 2)) (S := fun c => σ 129 (1630 + 12 * a1 + 6 + c)) hp.1 (hp.2 0 (by omega) (by omega)) (fun w => ⟨hp.2 1 (by omega) (by omega), hd 0 1 (by omega) (by omega) (by omega)⟩) (fun w => ⟨hp.2 2 (by omega) (by omega), hd 0 2 (by omega) (by omega) (by omega), hd 1 2 (by omega) (by omega) (by omega)⟩) rfl rfl rfl rfl rfl (x7 0 (by omega) (by omega)) ⟨fun w => x7 1 (by omega) (by omega), fun w => x8 1 (by omega) (by omega)⟩ ⟨fun w => x7 2 (by omega) (by omega), fun w => x8 2 (by omega) (by omega)⟩ (fun c k1 k2 k3 k4 k5 => x9 c k1 k2 (fun i i1 i2 => ?_))
    rcases (show i = 0 ∨ i = 1 ∨ i = 2 by omega) with rfl | rfl | rfl
    · exact k3
    · exact k4 (by omega)
    · exact k5 (by omega)
set_option maxHeartbeats 2000000 in
theorem hr_cnt11 {σ : hh_S} (h : hr_R σ) {r : Int} (hr2 : r = hr_sm (fun c => σ 129 (44 + c)) (σ 129 5).toNat) : ∃ n, hh_lp2 (B_X12_count_149 199 (fun r' σ2 => r = r' ∧ hr_R σ2)) n 0 0 σ := by
  obtain ⟨hU, hP, hC, hM, hE, hD, hB, hK, hT⟩ := h.1
  have c1 := hC.1
  refine hh_lp2_of (fun m x2 x3 τ => τ = σ ∧ 0 ≤ x3 ∧ x3 ≤ σ 129 5 ∧ σ 129 5 - x3 ≤ m ∧ x2 = hr_sm (fun c => σ 129 (44 + c)) x3.toNat) ?_ (σ 129 5).toNat 0 0 σ ⟨rfl, by omega, by omega, by omega, rfl⟩
  rintro m x2 x3 τ k ⟨rfl, i1, i2, i3, rfl⟩ hk
  refine ⟨fun c => ⟨by rw [hr2, show x3 = τ 129 5 by omega], h⟩, fun c => ?_⟩
  have b1 := hr_sm_b (f := fun c => τ 129 (44 + c)) (B := 9999999) (by decide) x3.toNat (fun i i1 i2 => (hC.2 i i1 (by omega)).2)
  have b2 := (hC.2 x3 i1 (by omega)).2
  have b3 : ((x3.toNat : Nat) : Int) * 9999999 ≤ 5 * 9999999 := Int.mul_le_mul_of_nonneg_right (by omega) (by decide)
  refine ⟨by omega, hk (m - 1) _ _ _ (by omega) ⟨rfl, by omega, by omega, by omega, ?_⟩⟩
  rw [show (x3 + 1).toNat = x3.toNat + 1 by omega]
  show _ = hr_sm (fun c => τ 129 (44 + c)) x3.toNat + τ 129 (44 + (x3.toNat : Int))
  rw [show ((x3.toNat : Nat) : Int) = x3 by omega]
set_option maxHeartbeats 2000000 in
theorem hr_cnt12 {σ : hh_S} (h : hr_R σ) {r : Int} (hr2 : r = hr_sm (fun m => σ 129 (50 + 20 * m + 3)) (σ 129 6).toNat) : ∃ n, hh_lp2 (B_X12_count_181 199 (fun r' σ2 => r = r' ∧ hr_R σ2)) n 0 0 σ := by
  obtain ⟨hU, hP, hC, hM, hE, hD, hB, hK, hT⟩ := h.1
  have c1 := hM.1
  refine hh_lp2_of (fun m x2 x3 τ => τ = σ ∧ 0 ≤ x3 ∧ x3 ≤ σ 129 6 ∧ σ 129 6 - x3 ≤ m ∧ x2 = hr_sm (fun m => σ 129 (50 + 20 * m + 3)) x3.toNat) ?_ (σ 129 6).toNat 0 0 σ ⟨rfl, by omega, by omega, by omega, rfl⟩
  rintro m x2 x3 τ k ⟨rfl, i1, i2, i3, rfl⟩ hk
  refine ⟨fun c => ⟨by rw [hr2, show x3 = τ 129 6 by omega], h⟩, fun c => ?_⟩
  have b1 := hr_sm_b (f := fun m => τ 129 (50 + 20 * m + 3)) (B := 999999) (by decide) x3.toNat (fun i i1 i2 => (hM.2 i i1 (by omega)).1.2.2.2.2.1.2)
  have b2 := (hM.2 x3 i1 (by omega)).1.2.2.2.2.1.2
  have b3 : ((x3.toNat : Nat) : Int) * 999999 ≤ 10 * 999999 := Int.mul_le_mul_of_nonneg_right (by omega) (by decide)
  refine ⟨by omega, hk (m - 1) _ _ _ (by omega) ⟨rfl, by omega, by omega, by omega, ?_⟩⟩
  rw [show (x3 + 1).toNat = x3.toNat + 1 by omega]
  show _ = hr_sm (fun m => τ 129 (50 + 20 * m + 3)) x3.toNat + τ 129 (50 + 20 * (x3.toNat : Int) + 3)
  rw [show ((x3.toNat : Nat) : Int) = x3 by omega]
set_option maxHeartbeats 2000000 in
theorem o_count {σ : hh_S} {a1 : Int} (h : hr_R σ) : hr_op2 hm_X11_count hm_X12_count [hh_I a1] σ := by
  obtain ⟨hU, hP, hC, hM, hE, hD, hB, hK, hT⟩ := h.1
  have u := hU
  unfold hr_U at u
  have p1 := hP.1
  have c1 := hC.1
  have m1 := hM.1
  have e1 := hE.1
  have d1 := hD.1
  have b1 := hB.1
  have k1 := hK.1
  have t1 := hT.1
  have w1 := h.2.2.2.1.1.1
  have w2 := h.2.2.2.2.1.1
  refine wp_X11_count _ (fun _ _ => ?_)
  unfold P_X11_count
  refine ⟨fun z => ?_, fun z => ?_, fun z => ?_, fun z => ?_, fun z => ?_, fun z => ?_, fun z => ?_, fun z => ?_, fun z => ?_, fun z => ?_, fun z => ?_, fun z => ?_, fun z => ?_, fun z => ?_⟩
  · exact wp_X12_count _ (fun _ _ => ⟨fun _ => ⟨rfl, h⟩, fun z => absurd z (by omega), fun z => absurd z (by omega), fun z => absurd z (by omega), fun z => absurd z (by omega), fun z => absurd z (by omega), fun z => absurd z (by omega), fun z => absurd z (by omega), fun z => absurd z (by omega), fun z => absurd z (by omega), fun z => absurd z (by omega), fun z => absurd z (by omega), fun z => absurd z (by omega), fun z => absurd z (by omega)⟩)
  · subst z; exact wp_X12_count _ (fun _ _ => ⟨fun z => absurd z (by decide), fun _ => ⟨p1.1, h⟩, fun z => absurd z (by decide), fun z => absurd z (by decide), fun z => absurd z (by decide), fun z => absurd z (by decide), fun z => absurd z (by decide), fun z => absurd z (by decide), fun z => absurd z (by decide), fun z => absurd z (by decide), fun z => absurd z (by decide), fun z => absurd z (by decide), fun z => absurd z (by decide), fun z => absurd z (by decide)⟩)
  · subst z; exact wp_X12_count _ (fun _ _ => ⟨fun z => absurd z (by decide), fun z => absurd z (by decide), fun _ => ⟨c1.1, h⟩, fun z => absurd z (by decide), fun z => absurd z (by decide), fun z => absurd z (by decide), fun z => absurd z (by decide), fun z => absurd z (by decide), fun z => absurd z (by decide), fun z => absurd z (by decide), fun z => absurd z (by decide), fun z => absurd z (by decide), fun z => absurd z (by decide), fun z => absurd z (by decide)⟩)
  · subst z; exact wp_X12_count _ (fun _ _ => ⟨fun z => absurd z (by decide), fun z => absurd z (by decide), fun z => absurd z (by decide), fun _ => ⟨m1.1, h⟩, fun z => absurd z (by decide), fun z => absurd z (by decide), fun z => absurd z (by decide), fun z => absurd z (by decide), fun z => absurd z (by decide), fun z => absurd z (by decide), fun z => absurd z (by decide), fun z => absurd z (by decide), fun z => absurd z (by decide), fun z => absurd z (by decide)⟩)
  · subst z; exact wp_X12_count _ (fun _ _ => ⟨fun z => absurd z (by decide), fun z => absurd z (by decide), fun z => absurd z (by decide), fun z => absurd z (by decide), fun _ => ⟨e1.1, h⟩, fun z => absurd z (by decide), fun z => absurd z (by decide), fun z => absurd z (by decide), fun z => absurd z (by decide), fun z => absurd z (by decide), fun z => absurd z (by decide), fun z => absurd z (by decide), fun z => absurd z (by decide), fun z => absurd z (by decide)⟩)
  · subst z; exact wp_X12_count _ (fun _ _ => ⟨fun z => absurd z (by decide), fun z => absurd z (by decide), fun z => absurd z (by decide), fun z => absurd z (by decide), fun z => absurd z (by decide), fun _ => ⟨d1.1, h⟩, fun z => absurd z (by decide), fun z => absurd z (by decide), fun z => absurd z (by decide), fun z => absurd z (by decide), fun z => absurd z (by decide), fun z => absurd z (by decide), fun z => absurd z (by decide), fun z => absurd z (by decide)⟩)
  · subst z
    refine c_sumOf1 (by omega) (fun i i1 i2 => ?_) ?_
    · have := hT.2.1 i i1 (by omega)
      have := hr_ct_nn (σ 129) i (σ 129 9).toNat
      omega
    · have e1 : hr_sm (σ 8) (σ 6 0).toNat = hr_sm (fun c => hr_ct (σ 129) c (σ 129 9).toNat) (σ 6 0).toNat := hr_sm.cg _ (fun i i1 i2 => (hT.2.1 i i1 (by omega)).1)
      have e2 := hr_ct_sum (σ 129) (σ 6 0).toNat (σ 129 9).toNat (fun t t1 => by have := (hT.2.2 t (by omega)).1; omega)
      rw [e1, e2]
      exact wp_X12_count _ (fun _ _ => ⟨fun z => absurd z (by decide), fun z => absurd z (by decide), fun z => absurd z (by decide), fun z => absurd z (by decide), fun z => absurd z (by decide), fun z => absurd z (by decide), fun _ => ⟨by omega, h⟩, fun z => absurd z (by decide), fun z => absurd z (by decide), fun z => absurd z (by decide), fun z => absurd z (by decide), fun z => absurd z (by decide), fun z => absurd z (by decide), fun z => absurd z (by decide)⟩)
  · subst z; exact wp_X12_count _ (fun _ _ => ⟨fun z => absurd z (by decide), fun z => absurd z (by decide), fun z => absurd z (by decide), fun z => absurd z (by decide), fun z => absurd z (by decide), fun z => absurd z (by decide), fun z => absurd z (by decide), fun _ => ⟨b1.1, h⟩, fun z => absurd z (by decide), fun z => absurd z (by decide), fun z => absurd z (by decide), fun z => absurd z (by decide), fun z => absurd z (by decide), fun z => absurd z (by decide)⟩)
  · subst z; exact wp_X12_count _ (fun _ _ => ⟨fun z => absurd z (by decide), fun z => absurd z (by decide), fun z => absurd z (by decide), fun z => absurd z (by decide), fun z => absurd z (by decide), fun z => absurd z (by decide), fun z => absurd z (by decide), fun z => absurd z (by decide), fun _ => ⟨k1.1, h⟩, fun z => absurd z (by decide), fun z => absurd z (by decide), fun z => absurd z (by decide), fun z => absurd z (by decide), fun z => absurd z (by decide)⟩)
  · subst z; exact wp_X12_count _ (fun _ _ => ⟨fun z => absurd z (by decide), fun z => absurd z (by decide), fun z => absurd z (by decide), fun z => absurd z (by decide), fun z => absurd z (by decide), fun z => absurd z (by decide), fun z => absurd z (by decide), fun z => absurd z (by decide), fun z => absurd z (by decide), fun _ => ⟨w1, h⟩, fun z => absurd z (by decide), fun z => absurd z (by decide), fun z => absurd z (by decide), fun z => absurd z (by decide)⟩)
  · subst z; exact wp_X12_count _ (fun _ _ => ⟨fun z => absurd z (by decide), fun z => absurd z (by decide), fun z => absurd z (by decide), fun z => absurd z (by decide), fun z => absurd z (by decide), fun z => absurd z (by decide), fun z => absurd z (by decide), fun z => absurd z (by decide), fun z => absurd z (by decide), fun z => absurd z (by decide), fun _ => ⟨w2, h⟩, fun z => absurd z (by decide), fun z => absurd z (by decide), fun z => absurd z (by decide)⟩)
  · subst z; exact wp_X12_count _ (fun _ _ => ⟨fun z => absurd z (by decide), fun z => absurd z (by decide), fun z => absurd z (by decide), fun z => absurd z (by decide), fun z => absurd z (by decide), fun z => absurd z (by decide), fun z => absurd z (by decide), fun z => absurd z (by decide), fun z => absurd z (by decide), fun z => absurd z (by decide), fun z => absurd z (by decide), fun _ => ⟨u.1.1, h⟩, fun z => absurd z (by decide), fun z => absurd z (by decide)⟩)
  · subst z
    refine c_sumOf0 (by omega) (fun i i1 i2 => ?_) ?_
    · have := hC.2 i i1 (by omega)
      omega
    · have e1 : hr_sm (σ 7) (σ 6 0).toNat = hr_sm (fun c => σ 129 (44 + c)) (σ 6 0).toNat := hr_sm.cg _ (fun i i1 i2 => (hC.2 i i1 (by omega)).1)
      rw [e1, c1.1]
      exact wp_X12_count _ (fun _ _ => ⟨fun z => absurd z (by decide), fun z => absurd z (by decide), fun z => absurd z (by decide), fun z => absurd z (by decide), fun z => absurd z (by decide), fun z => absurd z (by decide), fun z => absurd z (by decide), fun z => absurd z (by decide), fun z => absurd z (by decide), fun z => absurd z (by decide), fun z => absurd z (by decide), fun z => absurd z (by decide), fun _ => hr_cnt11 h rfl, fun z => absurd z (by decide)⟩)
  · subst z
    refine c_sumOf2 (by omega) (fun i i1 i2 => ?_) ?_
    · have := (hM.2 i i1 (by omega)).1.2.2.2.2.1
      omega
    · have e1 : hr_sm (σ 21) (σ 13 0).toNat = hr_sm (fun m => σ 129 (50 + 20 * m + 3)) (σ 13 0).toNat := hr_sm.cg _ (fun i i1 i2 => (hM.2 i i1 (by omega)).1.2.2.2.2.1.1)
      rw [e1, m1.1]
      exact wp_X12_count _ (fun _ _ => ⟨fun z => absurd z (by decide), fun z => absurd z (by decide), fun z => absurd z (by decide), fun z => absurd z (by decide), fun z => absurd z (by decide), fun z => absurd z (by decide), fun z => absurd z (by decide), fun z => absurd z (by decide), fun z => absurd z (by decide), fun z => absurd z (by decide), fun z => absurd z (by decide), fun z => absurd z (by decide), fun z => absurd z (by decide), fun _ => hr_cnt12 h rfl⟩)
