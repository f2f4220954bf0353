set_option maxHeartbeats 2000000 in
theorem hr_R.stage {σ ρ : hh_S} (h : hr_R σ) {m t v : Int} (hm : 0 ≤ m ∧ m < σ 129 6) (ht : 1 ≤ t ∧ t ≤ 5) (hv : 0 ≤ v ∧ v ≤ 30000000) (er : ∀ r : Nat, (r < 111 ∨ (122 ≤ r ∧ r < 125) ∨ (128 ≤ r ∧ r < 131) ∨ r = 133 ∨ (144 ≤ r ∧ r < 147)) → r ≠ 22 → r ≠ 23 → r ≠ 129 → ρ r = σ r) (e22 : ∀ k : Int, ρ 22 k = if k = m then t else σ 22 k) (e23 : ∀ k : Int, ρ 23 k = if k = m * 6 + t then v else σ 23 k) (es : ∀ j : Int, j ≠ 50 + 20 * m + 4 → j ≠ 50 + 20 * m + 4 + t → ρ 129 j = σ 129 j) (f1 : ρ 129 (50 + 20 * m + 4) = t) (f2 : ρ 129 (50 + 20 * m + 4 + t) = v) : hr_R ρ := by
  obtain ⟨hU, hP, hC, hM, hE, hD, hB, hK, hT⟩ := h.1
  have u := hU
  unfold hr_U at u
  have p1 := hP.1
  have c1 := hC.1
  have m1 := hM.1
  have e1 := hE.1
  have d1 := hD.1
  have b1 := hB.1
  have k1 := hK.1
  have t1 := hT.1
  have e (r : Nat) (z : (r < 111 ∨ (122 ≤ r ∧ r < 125) ∨ (128 ≤ r ∧ r < 131) ∨ r = 133 ∨ (144 ≤ r ∧ r < 147)) ∧ r ≠ 22 ∧ r ≠ 23 ∧ r ≠ 129) : ρ r = σ r := er r z.1 z.2.1 z.2.2.1 z.2.2.2
  have es2 : ∀ j : Int, (j < 54 ∨ 250 ≤ j) → ρ 129 j = σ 129 j := fun j hj => es j (by omega) (by omega)
  have L : ∀ k : Int, (k < 54 ∨ 250 ≤ k) → σ 129 k ≤ ρ 129 k := fun k hk => by rw [es2 k hk]; exact Int.le_refl _
  refine h.nw (fun r r1 r2 => e r (by omega)) (e 0 (by omega)) (by rw [e 109 (by omega)]) (e 110 (by omega)) (e 122 (by omega)) (e 123 (by omega)) (e 124 (by omega)) (by rw [e 128 (by omega)]) (by rw [e 128 (by omega)]) (by rw [e 128 (by omega)]) (e 130 (by omega)) (e 133 (by omega)) (e 144 (by omega)) (e 145 (by omega)) (e 146 (by omega)) ?_
  refine ⟨hU.cg (e 1 (by omega)) (e 54 (by omega)) (fun k k1 k2 => es2 k (by omega)), hP.cg (e 2 (by omega)) (e 3 (by omega)) (e 4 (by omega)) (e 5 (by omega)) (fun k hk => es2 k (by omega)), hC.cg (e 6 (by omega)) (e 7 (by omega)) (fun k hk => es2 k (by omega)), ⟨by rw [e 13 (by omega), es2 6 (by omega)]; exact m1, fun p z1 z2 => ?_⟩, hE.cg (fun r r1 r2 => e r (by omega)) (L 4 (by omega)) (L 6 (by omega)) (L 0 (by omega)) (L 10 (by omega)) (fun k hk => es2 k (by omega)) (fun b' b1 b2 => es2 _ (by omega)), hD.cg (fun r r1 r2 => e r (by omega)) (L 4 (by omega)) (fun k hk => es2 k (by omega)), hB.cg hC hM (fun r r1 r2 => e r (by omega)) (L 6 (by omega)) (L 0 (by omega)) (fun k hk => es2 k (by omega)) (fun m' m1 m2 m3 k k1 k2 => es k (by omega) (by omega)), hK.cg (e 50 (by omega)) (e 51 (by omega)) (e 52 (by omega)) (e 53 (by omega)) (L 6 (by omega)) (fun k hk => es2 k (by omega)), hT.cg (e 8 (by omega)) (e 9 (by omega)) (e 10 (by omega)) (e 11 (by omega)) (e 12 (by omega)) (es2 5 (by omega)) (fun k hk => es2 k (by omega))⟩
  rw [es2 6 (by omega)] at z2
  by_cases z : p = m
  · subst z
    obtain ⟨⟨h1, h2, h3, h4, h5, h6⟩, h7, h8, h9, h10, h11, h12⟩ := hM.2 p z1 z2
    unfold hr_M1
    rw [e 14 (by omega), e 15 (by omega), e 16 (by omega), e 17 (by omega), e 18 (by omega), e 19 (by omega), e 20 (by omega), e 21 (by omega), e22, if_pos rfl, f1, f2, es2 5 (by omega), es (50 + 20 * p) (by omega) (by omega), es (50 + 20 * p + 1) (by omega) (by omega), es (50 + 20 * p + 2) (by omega) (by omega), es (50 + 20 * p + 3) (by omega) (by omega), es (50 + 20 * p + 10) (by omega) (by omega), es (50 + 20 * p + 17) (by omega) (by omega)]
    refine ⟨⟨h1, h2, h3, h4, h5, by omega⟩, fun i i1 i2 => ?_, fun i j i1 i2 i3 => ?_, fun k k1 k2 => ?_, fun _ => hv.1, h11, h12⟩
    · rw [es _ (by omega) (by omega), es _ (by omega) (by omega)]
      exact h7 i i1 i2
    · rw [es _ (by omega) (by omega), es _ (by omega) (by omega)]
      exact h8 i j i1 i2 i3
    · rw [e23]
      by_cases y : k = t
      · rw [if_pos (by omega), y, f2]
        refine ⟨?_, by omega, by omega⟩
        unfold hh_max
        split <;> omega
      · rw [if_neg (by omega), es _ (by omega) (by omega)]
        exact h9 k k1 k2
  · exact (hM.2 p z1 z2).cg (by rw [e 14 (by omega)]) (by rw [e 15 (by omega)]) (by rw [e 16 (by omega)]) (by rw [e 17 (by omega)]) (fun i _ _ => by rw [e 18 (by omega)]) (fun i _ _ => by rw [e 19 (by omega)]) (fun i _ _ => by rw [e 20 (by omega)]) (by rw [e 21 (by omega)]) (by rw [e22, if_neg z]) (fun i i1 i2 => by rw [e23, if_neg (by omega)]) (L 5 (by omega)) (fun k k1 k2 => es k (by omega) (by omega))
set_option maxHeartbeats 2000000 in
theorem o_stage {σ : hh_S} {a1 a2 : Int} (h : hr_R σ) : hr_op2 hm_X11_stage hm_X12_stage [hh_I a1, hh_I a2] σ := by
  obtain ⟨hU, hP, hC, hM, hE, hD, hB, hK, hT⟩ := h.1
  have u := hU
  unfold hr_U at u
  have p1 := hP.1
  have c1 := hC.1
  have m1 := hM.1
  have e1 := hE.1
  have d1 := hD.1
  have b1 := hB.1
  have k1 := hK.1
  have t1 := hT.1
  have hN := h.1
  refine wp_X11_stage _ _ (fun hs h1 h2 => ?_)
  unfold P_X11_stage
  have BD : ∀ r : Int, (¬ ((0 ≤ a1 ∧ a1 < σ 129 6) ∧ 1 ≤ a2 ∧ a2 ≤ 5) → r = -1000000001) → (((0 ≤ a1 ∧ a1 < σ 129 6) ∧ 1 ≤ a2 ∧ a2 ≤ 5) → r = -1000000002 ∧ ¬ σ 129 (50 + 20 * a1 + 4) < a2) → hh_Sp 200 hm_X12_stage [hh_R 128, hh_I a1, hh_I a2] σ (fun r' σ2 => r = r' ∧ hr_R σ2) := by
    intro r hb1 hb2
    refine wp_X12_stage _ _ (fun _ _ _ => ?_)
    unfold P_X12_stage
    refine c_isMatter (by omega) (fun y1 y2 => ⟨fun z => by omega, fun _ => ?_⟩) (fun z => ⟨fun _ => ⟨hb1 (by omega), h⟩, fun y => by omega⟩)
    refine c_in (fun y3 y4 => ⟨fun _ => ⟨by omega, fun y => ?_, fun y => ⟨(hb2 (by omega)).1, h⟩⟩, fun z => by omega⟩) (fun z => ⟨fun y => by omega, fun _ => ⟨hb1 (by omega), h⟩⟩)
    exact absurd y (hb2 (by omega)).2
  refine c_X5_has (by omega) (fun g1 g2 => ⟨fun z => by omega, fun _ => ?_⟩) (fun z => ⟨fun _ => BD _ (fun _ => rfl) (fun y => by omega), fun y => by omega⟩)
  refine c_within (fun g3 g4 => ⟨fun _ => ⟨by omega, fun g5 => ?_, fun g5 => ?_⟩, fun z => by omega⟩) (fun z => ⟨fun y => by omega, fun _ => BD _ (fun _ => rfl) (fun y => by omega)⟩)
  · have hm1 := (hM.2 a1 g1 (by omega)).1
    refine c_chargeMatter hN (by omega) (fun ρ q1 q2 => ⟨by omega, ?_⟩)
    rw [u.1.1] at q2 ⊢
    obtain ⟨s, hs⟩ : ∃ s : Int → Int, s = σ 129 := ⟨_, rfl⟩
    have cb : ∀ o : Nat, o < (σ 129 7).toNat → 0 ≤ hr_ch (σ 129) o (σ 129 0) a1 (σ 129 (50 + 20 * a1)) ∧ hr_ch (σ 129) o (σ 129 0) a1 (σ 129 (50 + 20 * a1)) ≤ 239976 := fun o ho => hr_ch_b hN (by omega)
    have sb := hr_se_b (s := σ 129) (m := a1) (k := σ 129 0) (g := fun e => hr_ch (σ 129) e (σ 129 0) a1 (σ 129 (50 + 20 * a1))) (N := (σ 129 7).toNat) (c := 239976) (by decide) cb
    have sN := sb (σ 129 7).toNat (by omega)
    refine wp_X12_stage _ _ (fun _ _ _ => ?_)
    unfold P_X12_stage
    have w9 : hh_up (hh_up ρ 22 a1 a2) 23 (a1 * 6 + a2) (hr_se (σ 129) a1 (σ 129 0) (fun e => hr_ch (σ 129) e (σ 129 0) a1 (σ 129 (50 + 20 * a1))) (σ 129 7).toNat) 129 = σ 129 := by rw [hh_up_ne (by omega), hh_up_ne (by omega), q1 129 (by omega) (by omega) (by omega)]
    have cu : (0 : Int) ≤ 0 := Int.le_refl _
    refine c_isMatter (by rw [w9]; omega) (fun _ _ => ⟨fun z => by omega, fun _ => ?_⟩) (fun z => by rw [w9] at z; omega)
    refine c_in (fun _ _ => ⟨fun _ => ?_, fun z => by omega⟩) (fun z => by omega)
    rw [w9]
    refine ⟨by omega, fun _ => ?_, fun z => by omega⟩
    refine hh_lp5_of (fun n x1 x2 x3 x4 x5 τ => (x1 = a1 ∧ x2 = a2 ∧ x3 = 50 + 20 * a1) ∧ (∀ r : Nat, r ≠ 136 → r ≠ 137 → τ r = hh_up (hh_up ρ 22 a1 a2) 23 (a1 * 6 + a2) (hr_se (σ 129) a1 (σ 129 0) (fun e => hr_ch (σ 129) e (σ 129 0) a1 (σ 129 (50 + 20 * a1))) (σ 129 7).toNat) r) ∧ ∃ o : Nat, x5 = o ∧ (o : Int) ≤ σ 129 7 ∧ σ 129 7 - o ≤ n ∧ x4 = hr_se (σ 129) a1 (σ 129 0) (fun e => hr_ch (σ 129) e (σ 129 0) a1 (σ 129 (50 + 20 * a1))) o) ?_ 90 a1 a2 (50 + 20 * a1) 0 0 _ ⟨⟨rfl, rfl, rfl⟩, fun _ _ _ => rfl, 0, rfl, by omega, by omega, rfl⟩
    rintro n x1 x2 x3 x4 x5 τ kk ⟨⟨rfl, rfl, rfl⟩, r1, o, rfl, f1, f2, rfl⟩ hk
    have t9 : τ 129 = σ 129 := by rw [r1 129 (by omega) (by omega), w9]
    have so := sb o (by omega)
    unfold B_X12_stage_49
    rw [t9]
    refine ⟨fun c => ?_, fun c => ⟨by omega, ?_⟩⟩
    · unfold B_X12_stage_123
      have eo : o = (σ 129 7).toNat := by omega
      rw [eo]
      refine ⟨by omega, rfl, ?_⟩
      refine h.stage (m := x1) (t := x2) (v := hr_se (σ 129) x1 (σ 129 0) (fun e => hr_ch (σ 129) e (σ 129 0) x1 (σ 129 (50 + 20 * x1))) (σ 129 7).toNat) (by omega) (by omega) (by omega) (fun r r2 r3 r4 r5 => ?_) (fun k => ?_) (fun k => ?_) (fun j j1 j2 => ?_) ?_ ?_
      · rw [hh_up_ne r5, hh_up_ne r5, r1 r (by omega) (by omega), hh_up_ne r4, hh_up_ne r3, q1 r (by omega) (by omega) (by omega)]
      · rw [hh_up_ne (by omega), hh_up_ne (by omega), r1 22 (by omega) (by omega), hh_up_ne (by omega), hh_up_eq, q1 22 (by omega) (by omega) (by omega)]
      · rw [hh_up_ne (by omega), hh_up_ne (by omega), r1 23 (by omega) (by omega), hh_up_eq, hh_up_ne (by omega), q1 23 (by omega) (by omega) (by omega)]
      · rw [hh_up_off j2, hh_up_off j1, t9]
      · rw [hh_up_off (by omega), hh_up_at]
      · rw [hh_up_at]
    obtain ⟨⟨w1, w2, w3, w4, w5, w6, w7⟩, ⟨w8, _⟩, w10⟩ := hE.2 o (by omega) (by omega)
    have w8' := w8.1
    unfold hr_nn at w8'
    have co := cb o (by omega)
    have NX : ∀ (τ' : hh_S) (y : Int), (∀ r : Nat, r ≠ 136 → r ≠ 137 → τ' r = τ r) → (0 ≤ y ∧ y ≤ 239976) → (y = if hr_q (σ 129) x1 (σ 129 0) o then hr_ch (σ 129) o (σ 129 0) x1 (σ 129 (50 + 20 * x1)) else 0) → B_X12_stage_114 199 (fun r' σ2 => hr_se (σ 129) x1 (σ 129 0) (fun e => hr_ch (σ 129) e (σ 129 0) x1 (σ 129 (50 + 20 * x1))) (σ 129 7).toNat = r' ∧ hr_R σ2) kk x1 x2 (50 + 20 * x1) o (hr_se (σ 129) x1 (σ 129 0) (fun e => hr_ch (σ 129) e (σ 129 0) x1 (σ 129 (50 + 20 * x1))) o) y τ' := by
      intro τ' y r2 hy1 hy
      unfold B_X12_stage_114
      refine ⟨by omega, hk (n - 1) _ _ _ _ _ _ (by omega) ⟨⟨rfl, rfl, rfl⟩, fun r q1 q2 => by rw [r2 r q1 q2, r1 r q1 q2], o + 1, by omega, by omega, by omega, ?_⟩⟩
      rw [hy]
      rfl
    unfold B_X12_stage_113
    refine ⟨fun z => NX τ 0 (fun _ _ _ => rfl) (by omega) (by rw [if_neg (fun y => z y.1)]), fun z => ?_⟩
    refine c_isKnown (by omega) ?_ ?_ ?_ <;> rw [t9]
    · intro z5
      refine ⟨fun y => by omega, fun _ => ?_⟩
      refine c_chargedOf t9 hN (by omega) (fun π t1 => ?_)
      rw [z]
      exact NX π _ t1 co (by rw [if_pos ⟨z, z5⟩])
    · intro z5
      exact ⟨fun _ => NX τ 0 (fun _ _ _ => rfl) (by omega) (by rw [if_neg (fun y => z5 y.2)]), fun y => by omega⟩
    · omega
  · have hm1 := (hM.2 a1 g1 (by omega)).1
    exact BD _ (fun y => by omega) (fun _ => ⟨rfl, by omega⟩)
