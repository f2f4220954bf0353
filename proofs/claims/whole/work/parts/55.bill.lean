def hr_nb (s s' : Int → Int) (m up G T w R C : Int) (P : Int → Int) : Prop :=
  (∀ j : Int, (j < 250 ∨ 1330 ≤ j) → (j < 1630 + 12 * s 10 ∨ 1630 + 12 * s 10 + 12 ≤ j) → j ≠ 10 → j ≠ 50 + 20 * m + 3 → s' j = s j) ∧
  (∀ e : Int, 0 ≤ e → e < s 7 → (∀ k : Int, 0 ≤ k → k < 12 → k ≠ 8 → k ≠ 9 → s' (250 + 12 * e + k) = s (250 + 12 * e + k)) ∧ s' (250 + 12 * e + 8) = (if hr_tk s m up (s 0) e then s 10 else s (250 + 12 * e + 8)) ∧ s' (250 + 12 * e + 9) = (if hr_tk s m up (s 0) e then hr_ch s e (s 0) m (s (50 + 20 * m)) else s (250 + 12 * e + 9))) ∧
  (s' 10 = s 10 + 1 ∧ s' (50 + 20 * m + 3) = R ∧ s' (1630 + 12 * s 10) = m ∧ s' (1630 + 12 * s 10 + 1) = s 0 ∧ s' (1630 + 12 * s 10 + 2) = G ∧ s' (1630 + 12 * s 10 + 3) = T ∧ s' (1630 + 12 * s 10 + 4) = w ∧ s' (1630 + 12 * s 10 + 5) = C) ∧
  (∀ i : Int, 0 ≤ i → i < s (50 + 20 * m + 10) → s' (1630 + 12 * s 10 + 6 + s (50 + 20 * m + 11 + i)) = P i) ∧
  (∀ c : Int, 0 ≤ c → c < 5 → (∀ i : Int, 0 ≤ i → i < s (50 + 20 * m + 10) → s (50 + 20 * m + 11 + i) ≠ c) → s' (1630 + 12 * s 10 + 6 + c) = 0)
theorem hr_V.ag {σ : hh_S} {s s' : Int → Int} (h : hr_V σ s) (a : hr_ag s s') : hr_V σ s' := by
  obtain ⟨hU, hP, hC, hM, hE, hD, hB, hK, hT⟩ := h
  have e1 := hE.1
  have L : ∀ k : Int, k < 10 → s k ≤ s' k := fun k hk => by rw [a.1 k (by omega) (by omega)]; exact Int.le_refl _
  refine ⟨hU.cg rfl rfl (fun k k1 k2 => a.1 k (by omega) (by omega)), hP.cg rfl rfl rfl rfl (fun k hk => a.1 k (by omega) (by omega)), hC.cg rfl rfl (fun k hk => a.1 k (by omega) (by omega)), hM.cg rfl rfl rfl rfl rfl rfl rfl rfl rfl rfl rfl (L 5 (by omega)) (fun k hk => a.1 k (by omega) (by omega)), ⟨by rw [a.1 7 (by omega) (by omega)]; exact e1, fun e q1 q2 => ?_⟩, hD.cg (fun _ _ _ => rfl) (L 4 (by omega)) (fun k hk => a.1 k (by omega) (by omega)), trivial, hK.cg rfl rfl rfl rfl (L 6 (by omega)) (fun k hk => a.1 k (by omega) (by omega)), hT.cg rfl rfl rfl rfl rfl (a.1 5 (by omega) (by omega)) (fun k hk => a.1 k (by omega) (by omega))⟩
  rw [a.1 7 (by omega) (by omega)] at q2
  have x := hE.2 e q1 q2
  have E := a.2 e q1 (by omega)
  unfold hr_F1 at x ⊢
  rw [a.e0 q1 (by omega), E 1 (by omega) (by omega), E 2 (by omega) (by omega), E 3 (by omega) (by omega), E 4 (by omega) (by omega), E 5 (by omega) (by omega), E 6 (by omega) (by omega), E 7 (by omega) (by omega), a.1 0 (by omega) (by omega), a.1 4 (by omega) (by omega), a.1 6 (by omega) (by omega)]
  exact x
set_option maxHeartbeats 2000000 in
theorem c_X12_bill {d : Nat} {σ π : hh_S} {s : Int → Int} {m up dn G0 n : Int} {Q : Int → hh_S → Prop} (hs : σ 129 = s) (h : hr_N π s) (ha : (0 ≤ m ∧ m < s 6) ∧ (0 ≤ up ∧ up ≤ s 0) ∧ 0 ≤ dn ∧ dn ≤ 100) (hb : s 10 < 16) (hg1 : s (50 + 20 * m) = 1 → (∃ b : Int, 0 ≤ b ∧ b < s 10 ∧ s (1630 + 12 * b) = m) → G0 = 0) (hg2 : s (50 + 20 * m) = 1 → (∀ b : Int, 0 ≤ b → b < s 10 → s (1630 + 12 * b) ≠ m) → G0 = s (50 + 20 * m + 2)) (hg3 : ¬ s (50 + 20 * m) = 1 → G0 = 0) (hg0 : 0 ≤ G0 ∧ G0 ≤ 99999)
    (hn : s (50 + 20 * m + 10) = n)
    (hq : ∀ ρ : hh_S, (∀ r : Nat, r ≠ 129 → r ≠ 136 → r ≠ 137 → r ≠ 138 → ρ r = σ r) → ∀ G T w : Int, G = G0 + hr_tg s m up (s 0) (s (50 + 20 * m)) (s 7).toNat → T = G - G * dn / 100 → w = hh_min (s (50 + 20 * m + 3)) T → hr_nb s (ρ 129) m up G T w (s (50 + 20 * m + 3) - w) (hr_tc s m up (s 0) (s 7).toNat) (hr_pp (fun k => s (50 + 20 * m + 14 + k)) n.toNat (T - w)) → Q (s 10) ρ) : hh_Sp (d + 6) hm_X12_bill [hh_R 128, hh_I m, hh_I up, hh_I dn] σ Q := by
  have h' := h
  obtain ⟨hU, hP, hC, hM, hE, hD, hB, hK, hT⟩ := h'
  have u := hU
  unfold hr_U at u
  have e1 := hE.1
  have m1 := hM.1
  have b1 := hB.1
  have c1 := hC.1
  obtain ⟨⟨h1, h2, h3, h4, h5, h6⟩, h7, h8, h9, h10, h11, h12⟩ := hM.2 m ha.1.1 ha.1.2
  have hV := h.v
  have TB := hr_tg_b h m up (s 0) (s (50 + 20 * m))
  have TN := TB (s 7).toNat (by omega)
  have L4 : ∀ τ0 : hh_S, (∀ r : Nat, r ≠ 129 → r ≠ 136 → r ≠ 137 → r ≠ 138 → τ0 r = σ r) → ∀ G T w : Int, G = G0 + hr_tg s m up (s 0) (s (50 + 20 * m)) (s 7).toNat → T = G - G * dn / 100 → w = hh_min (s (50 + 20 * m + 3)) T → (∀ j : Int, (j < 250 ∨ 1330 ≤ j) → (j < 1630 + 12 * s 10 ∨ 1630 + 12 * s 10 + 12 ≤ j) → j ≠ 50 + 20 * m + 3 → τ0 129 j = s j) → (∀ e : Int, 0 ≤ e → e < s 7 → (∀ k : Int, 0 ≤ k → k < 12 → k ≠ 8 → k ≠ 9 → τ0 129 (250 + 12 * e + k) = s (250 + 12 * e + k)) ∧ τ0 129 (250 + 12 * e + 8) = (if hr_tk s m up (s 0) e then s 10 else s (250 + 12 * e + 8)) ∧ τ0 129 (250 + 12 * e + 9) = (if hr_tk s m up (s 0) e then hr_ch s e (s 0) m (s (50 + 20 * m)) else s (250 + 12 * e + 9))) → (τ0 129 (50 + 20 * m + 3) = s (50 + 20 * m + 3) - w ∧ τ0 129 (1630 + 12 * s 10) = m ∧ τ0 129 (1630 + 12 * s 10 + 1) = s 0 ∧ τ0 129 (1630 + 12 * s 10 + 2) = G ∧ τ0 129 (1630 + 12 * s 10 + 3) = T ∧ τ0 129 (1630 + 12 * s 10 + 4) = w ∧ τ0 129 (1630 + 12 * s 10 + 5) = hr_tc s m up (s 0) (s 7).toNat) → (∀ c : Int, 0 ≤ c → c < 5 → τ0 129 (1630 + 12 * s 10 + 6 + c) = 0) → (∀ k : Int, 0 ≤ k → k < n → τ0 138 k = hr_pp (fun k => s (50 + 20 * m + 14 + k)) n.toNat (T - w) k) → ∃ i, hh_lp3 (B_X12_bill_422 (d + 5) Q) i (50 + 20 * m) (1630 + 12 * s 10) 0 τ0 := by
    intro τ0 r0 G T w hG hT hw z1 z2 z3 z4 z5
    refine hh_lp3_of (fun i x4 x6 x7 τ => (x4 = 50 + 20 * m ∧ x6 = 1630 + 12 * s 10) ∧ (0 ≤ x7 ∧ x7 ≤ n ∧ n - x7 ≤ i) ∧ (∀ r : Nat, r ≠ 129 → τ r = τ0 r) ∧ (∀ j : Int, (j < 1630 + 12 * s 10 + 6 ∨ 1630 + 12 * s 10 + 11 ≤ j) → τ 129 j = τ0 129 j) ∧ (∀ i : Int, 0 ≤ i → i < x7 → τ 129 (1630 + 12 * s 10 + 6 + s (50 + 20 * m + 11 + i)) = hr_pp (fun k => s (50 + 20 * m + 14 + k)) n.toNat (T - w) i) ∧ (∀ c : Int, 0 ≤ c → c < 5 → (∀ i : Int, 0 ≤ i → i < x7 → s (50 + 20 * m + 11 + i) ≠ c) → τ 129 (1630 + 12 * s 10 + 6 + c) = 0)) ?_ 3 (50 + 20 * m) (1630 + 12 * s 10) 0 τ0 ⟨⟨rfl, rfl⟩, by omega, fun _ _ => rfl, fun _ _ => rfl, fun i i1 i2 => by omega, fun c q1 q2 _ => z4 c q1 q2⟩
    rintro i x4 x6 x7 τ kk ⟨⟨rfl, rfl⟩, f1, r1, f2, f3, f4⟩ hk
    have t1 : ∀ j : Int, (j < 250 ∨ 1330 ≤ j) → (j < 1630 + 12 * s 10 ∨ 1630 + 12 * s 10 + 12 ≤ j) → j ≠ 50 + 20 * m + 3 → τ 129 j = s j := fun j q1 q2 q3 => by rw [f2 j (by omega)]; exact z1 j q1 q2 q3
    unfold B_X12_bill_422
    rw [t1 (50 + 20 * m + 10) (by omega) (by omega) (by omega), hn]
    refine ⟨by omega, fun y => ?_, fun y => ?_⟩
    · unfold B_X12_bill_474
      have ex : x7 = n := by omega
      rw [ex] at f3 f4
      rw [t1 10 (by omega) (by omega) (by omega)]
      refine ⟨by omega, ?_⟩
      rw [show s 10 + 1 - 1 = s 10 by omega]
      refine hq _ (fun r q1 q2 q3 q4 => by rw [hh_up_ne q1, r1 r q1, r0 r q1 q2 q3 q4]) G T w hG hT hw ⟨fun j q1 q2 q3 q4 => by rw [hh_up_off q3]; exact t1 j q1 q2 q4, fun e q1 q2 => ?_, ?_, fun i i1 i2 => ?_, fun c q1 q2 q3 => ?_⟩
      · refine ⟨fun k k1 k2 k3 k4 => ?_, ?_, ?_⟩
        · rw [hh_up_off (by omega), f2 _ (by omega)]; exact (z2 e q1 q2).1 k k1 k2 k3 k4
        · rw [hh_up_off (by omega), f2 _ (by omega)]; exact (z2 e q1 q2).2.1
        · rw [hh_up_off (by omega), f2 _ (by omega)]; exact (z2 e q1 q2).2.2
      · rw [hh_up_at, hh_up_off (by omega), hh_up_off (by omega), hh_up_off (by omega), hh_up_off (by omega), hh_up_off (by omega), hh_up_off (by omega), hh_up_off (by omega), f2 _ (by omega), f2 _ (by omega), f2 _ (by omega), f2 _ (by omega), f2 _ (by omega), f2 _ (by omega), f2 _ (by omega)]
        exact ⟨rfl, z3⟩
      · rw [hh_up_off (by have := h7 i i1 (by omega); omega)]
        exact f3 i i1 (by omega)
      · rw [hh_up_off (by omega)]
        exact f4 c q1 q2 (fun i i1 i2 => q3 i i1 (by omega))
    · have p7 := h7 x7 (by omega) (by omega)
      rw [t1 (50 + 20 * m + 11 + x7) (by omega) (by omega) (by omega), r1 138 (by omega), z5 x7 (by omega) (by omega)]
      refine ⟨by omega, hk (i - 1) _ _ _ _ (by omega) ⟨⟨rfl, rfl⟩, by omega, fun r hr => by rw [hh_up_ne hr]; exact r1 r hr, fun j hj => by rw [hh_up_off (by omega)]; exact f2 j hj, fun i i1 i2 => ?_, fun c q1 q2 q3 => ?_⟩⟩
      · by_cases x : i = x7
        · rw [x, hh_up_at]
        · have := h8 i x7 i1 (by omega) (by omega)
          rw [hh_up_off (by omega)]
          exact f3 i i1 (by omega)
      · have := q3 x7 (by omega) (by omega)
        rw [hh_up_off (by omega)]
        exact f4 c q1 q2 (fun i i1 i2 => q3 i i1 (by omega))
  have L3 : ∀ τ0 : hh_S, (∀ r : Nat, r ≠ 129 → r ≠ 136 → r ≠ 137 → τ0 r = σ r) → ∀ G : Int, G = G0 + hr_tg s m up (s 0) (s (50 + 20 * m)) (s 7).toNat → (∀ j : Int, (j < 250 ∨ 1330 ≤ j) → (j < 1630 + 12 * s 10 ∨ 1630 + 12 * s 10 + 12 ≤ j) → τ0 129 j = s j) → (∀ e : Int, 0 ≤ e → e < s 7 → (∀ k : Int, 0 ≤ k → k < 12 → k ≠ 8 → k ≠ 9 → τ0 129 (250 + 12 * e + k) = s (250 + 12 * e + k)) ∧ τ0 129 (250 + 12 * e + 8) = (if hr_tk s m up (s 0) e then s 10 else s (250 + 12 * e + 8)) ∧ τ0 129 (250 + 12 * e + 9) = (if hr_tk s m up (s 0) e then hr_ch s e (s 0) m (s (50 + 20 * m)) else s (250 + 12 * e + 9))) → τ0 129 (1630 + 12 * s 10 + 5) = hr_tc s m up (s 0) (s 7).toNat → (∀ c : Int, 0 ≤ c → c < 5 → τ0 129 (1630 + 12 * s 10 + 6 + c) = 0) → B_X12_bill_287 (d + 5) Q m dn (50 + 20 * m) G (1630 + 12 * s 10) τ0 := by
    intro τ0 r0 G hG z1 z2 z3 z4
    have gd : 0 ≤ G * dn ∧ G * dn ≤ 3000000000 := by
      have q1 : 0 ≤ G * dn := Int.mul_nonneg (by omega) (by omega)
      have q2 : G * dn ≤ 30000000 * 100 := Int.mul_le_mul (by omega) (by omega) (by omega) (by decide)
      omega
    have gd2 : G * dn / 100 ≤ G := by
      refine Int.ediv_le_of_le_mul (by omega) ?_
      exact Int.mul_le_mul_of_nonneg_left (by omega) (by omega)
    have gd3 : 0 ≤ G * dn / 100 := Int.ediv_nonneg gd.1 (by omega)
    unfold B_X12_bill_287
    refine ⟨by omega, ?_⟩
    rintro τ1 rfl
    refine ⟨by omega, ?_⟩
    rintro τ2 rfl
    refine ⟨by omega, c_less1 ⟨by omega, ?_⟩⟩
    have v1 : hh_up (hh_up (hh_up (hh_up τ0 129 (1630 + 12 * s 10) m) 129 (1630 + 12 * s 10 + 1) (hh_up τ0 129 (1630 + 12 * s 10) m 129 0)) 129 (1630 + 12 * s 10 + 2) G) 129 (1630 + 12 * s 10 + 3) (G - G * dn / 100) 129 (50 + 20 * m + 3) = s (50 + 20 * m + 3) := by
      simp (disch := omega) only [hh_up_at, hh_up_off]
      exact z1 _ (by omega) (by omega)
    have v2 : hh_up (hh_up (hh_up (hh_up τ0 129 (1630 + 12 * s 10) m) 129 (1630 + 12 * s 10 + 1) (hh_up τ0 129 (1630 + 12 * s 10) m 129 0)) 129 (1630 + 12 * s 10 + 2) G) 129 (1630 + 12 * s 10 + 3) (G - G * dn / 100) 129 (1630 + 12 * s 10 + 3) = G - G * dn / 100 := by
      simp (disch := omega) only [hh_up_at, hh_up_off]
    rw [v1, v2]
    obtain ⟨T, hT⟩ : ∃ T : Int, T = G - G * dn / 100 := ⟨_, rfl⟩
    rw [← hT]
    obtain ⟨w, hw⟩ : ∃ w : Int, w = hh_min (s (50 + 20 * m + 3)) T := ⟨_, rfl⟩
    rw [← hw]
    have wb : 0 ≤ w ∧ w ≤ s (50 + 20 * m + 3) ∧ w ≤ T := by
      unfold hh_min at hw
      split at hw <;> omega
    rintro τ3 rfl
    refine ⟨?_, ?_⟩
    · simp (disch := omega) only [hh_up_at, hh_up_off, hh_up_ne]
      rw [z1 _ (by omega) (by omega)]
      omega
    rintro τ4 h4'
    have y0 : ∀ r : Nat, r ≠ 129 → τ4 r = τ0 r := fun r hr => by rw [h4']; simp (disch := omega) only [hh_up_ne]
    have y1 : τ4 129 (50 + 20 * m + 3) = s (50 + 20 * m + 3) - w := by
      rw [h4']
      simp (disch := omega) only [hh_up_at, hh_up_off]
      rw [z1 _ (by omega) (by omega)]
    have y2 : ∀ j : Int, (j < 1630 + 12 * s 10 ∨ 1630 + 12 * s 10 + 5 ≤ j) → j ≠ 50 + 20 * m + 3 → τ4 129 j = τ0 129 j := fun j q1 q2 => by rw [h4']; simp (disch := omega) only [hh_up_off]
    have y3 : τ4 129 (1630 + 12 * s 10) = m ∧ τ4 129 (1630 + 12 * s 10 + 1) = s 0 ∧ τ4 129 (1630 + 12 * s 10 + 2) = G ∧ τ4 129 (1630 + 12 * s 10 + 3) = T ∧ τ4 129 (1630 + 12 * s 10 + 4) = w := by
      rw [h4']
      simp (disch := omega) only [hh_up_at, hh_up_off]
      rw [z1 0 (by omega) (by omega)]
      exact ⟨trivial, rfl, trivial, trivial, trivial⟩
    clear h4'
    rw [y3.2.2.2.1, y3.2.2.2.2]
    refine ⟨by omega, ?_⟩
    refine c_X12_split (s := τ4 129) (S := fun k => s (50 + 20 * m + 14 + k)) (n := n.toNat) rfl (by omega) ⟨by rw [y2 _ (by omega) (by omega), z1 _ (by omega) (by omega)]; omega, by omega, by omega⟩ (fun k k1 k2 => (h7 k k1 (by omega)).2.2) (fun k k1 k2 => by rw [y2 _ (by omega) (by omega), z1 _ (by omega) (by omega)]) (by omega) (fun π2 q1 q2 => ?_)
    refine L4 π2 (fun r x1 x2 x3 x4 => by rw [q1 r x4, y0 r x1, r0 r x1 x2 x3]) G T w hG hT hw (fun j x1 x2 x3 => ?_) (fun e x1 x2 => ?_) ?_ (fun c x1 x2 => ?_) (fun k k1 k2 => q2 k k1 (by omega)) <;> rw [q1 129 (by omega)]
    · rw [y2 _ (by omega) (by omega)]; exact z1 j x1 x2
    · refine ⟨fun k k1 k2 k3 k4 => ?_, ?_, ?_⟩
      · rw [y2 _ (by omega) (by omega)]; exact (z2 e x1 x2).1 k k1 k2 k3 k4
      · rw [y2 _ (by omega) (by omega)]; exact (z2 e x1 x2).2.1
      · rw [y2 _ (by omega) (by omega)]; exact (z2 e x1 x2).2.2
    · exact ⟨y1, y3.1, y3.2.1, y3.2.2.1, y3.2.2.2.1, y3.2.2.2.2, by rw [y2 _ (by omega) (by omega)]; exact z3⟩
    · rw [y2 _ (by omega) (by omega)]; exact z4 c x1 x2
  have L2 : ∀ τ0 : hh_S, (∀ r : Nat, r ≠ 129 → τ0 r = σ r) → (∀ j : Int, (j < 1630 + 12 * s 10 ∨ 1630 + 12 * s 10 + 12 ≤ j) → τ0 129 j = s j) → (∀ j : Int, 1630 + 12 * s 10 ≤ j → j < 1630 + 12 * s 10 + 12 → τ0 129 j = 0) → B_X12_bill_130 (d + 5) Q m up dn (50 + 20 * m) G0 (1630 + 12 * s 10) τ0 := by
    intro τ0 r0 z1 z2
    unfold B_X12_bill_130
    refine hh_lp7_of (fun i x1 x2 x3 x4 x5 x6 x7 τ => (x1 = m ∧ x2 = up ∧ x3 = dn ∧ x4 = 50 + 20 * m ∧ x6 = 1630 + 12 * s 10) ∧ (∀ r : Nat, r ≠ 129 → r ≠ 136 → r ≠ 137 → τ r = σ r) ∧ ∃ o : Nat, (x7 = o ∧ (o : Int) ≤ s 7 ∧ s 7 - o ≤ i ∧ x5 = G0 + hr_tg s m up (s 0) (s (50 + 20 * m)) o) ∧ (∀ j : Int, (j < 250 ∨ 1330 ≤ j) → (j < 1630 + 12 * s 10 ∨ 1630 + 12 * s 10 + 12 ≤ j) → τ 129 j = s j) ∧ (∀ e : Int, 0 ≤ e → e < 90 → ∀ k : Int, 0 ≤ k → k < 12 → k ≠ 8 → k ≠ 9 → τ 129 (250 + 12 * e + k) = s (250 + 12 * e + k)) ∧ (∀ e : Int, 0 ≤ e → e < o → τ 129 (250 + 12 * e + 8) = (if hr_tk s m up (s 0) e then s 10 else s (250 + 12 * e + 8)) ∧ τ 129 (250 + 12 * e + 9) = (if hr_tk s m up (s 0) e then hr_ch s e (s 0) m (s (50 + 20 * m)) else s (250 + 12 * e + 9))) ∧ (∀ e : Int, (o : Int) ≤ e → e < 90 → τ 129 (250 + 12 * e + 8) = s (250 + 12 * e + 8) ∧ τ 129 (250 + 12 * e + 9) = s (250 + 12 * e + 9)) ∧ τ 129 (1630 + 12 * s 10 + 5) = hr_tc s m up (s 0) o ∧ (∀ c : Int, 0 ≤ c → c < 5 → τ 129 (1630 + 12 * s 10 + 6 + c) = 0)) ?_ 90 m up dn (50 + 20 * m) G0 (1630 + 12 * s 10) 0 τ0 ⟨⟨rfl, rfl, rfl, rfl, rfl⟩, fun r q1 _ _ => r0 r q1, 0, ⟨rfl, by omega, by omega, by unfold hr_tg; omega⟩, fun j q1 q2 => z1 j q2, fun e q1 q2 k k1 k2 _ _ => z1 _ (by omega), fun e q1 q2 => by omega, fun e q1 q2 => ⟨z1 _ (by omega), z1 _ (by omega)⟩, by rw [z2 _ (by omega) (by omega)]; rfl, fun c q1 q2 => z2 _ (by omega) (by omega)⟩
    rintro i x1 x2 x3 x4 x5 x6 x7 τ kk ⟨⟨rfl, rfl, rfl, rfl, rfl⟩, r1, o, ⟨rfl, f1, f2, rfl⟩, g1, g2, g3, g4, g5, g6⟩ hk
    have tb := TB o f1
    have cb := hr_tc_b s x1 x2 (s 0) o
    unfold B_X12_bill_133
    rw [g1 7 (by omega) (by omega)]
    refine ⟨fun c => ?_, fun c => ?_⟩
    · have eo : o = (s 7).toNat := by omega
      rw [← eo] at L3
      refine L3 τ r1 _ rfl g1 (fun e q1 q2 => ⟨g2 e q1 (by omega), g3 e q1 (by omega)⟩) g5 g6
    have G8 := g4 o (by omega) (by omega)
    have G := g2 o (by omega) (by omega)
    obtain ⟨⟨w1, w2, w3, w4, w5, w6, w7⟩, ⟨w8, w9⟩, w12⟩ := hE.2 o (by omega) (by omega)
    have w8' := w8.1
    unfold hr_nn at w8'
    rw [G 1 (by omega) (by omega) (by omega) (by omega), G 2 (by omega) (by omega) (by omega) (by omega), G8.1, g1 0 (by omega) (by omega)]
    have NO : ¬ hr_tk s x1 x2 (s 0) o → B_X12_bill_281 (d + 5) Q kk x1 x2 x3 (50 + 20 * x1) (G0 + hr_tg s x1 x2 (s 0) (s (50 + 20 * x1)) o) (1630 + 12 * s 10) o τ := by
      intro z
      unfold B_X12_bill_281
      refine ⟨by omega, hk (i - 1) _ _ _ _ _ _ _ _ (by omega) ⟨⟨rfl, rfl, rfl, rfl, rfl⟩, r1, o + 1, ⟨by omega, by omega, by omega, ?_⟩, g1, g2, fun e q1 q2 => ?_, fun e q1 q2 => g4 e (by omega) q2, ?_, g6⟩⟩
      · show _ = G0 + (hr_tg s x1 x2 (s 0) (s (50 + 20 * x1)) o + (if _ then _ else _))
        rw [if_neg z, Int.add_zero]
      · by_cases y : e = o
        · rw [y, if_neg z, if_neg z]; exact G8
        · exact g3 e q1 (by omega)
      · rw [g5]
        show _ = hr_tc s x1 x2 (s 0) o + (if _ then _ else _)
        rw [if_neg z, Int.add_zero]
    refine ⟨by omega, fun z => NO (fun y => z y.1.1), fun z1 => ⟨by omega, fun z => NO (fun y => by have := y.1.2; omega), fun z2 => ⟨by omega, fun z => NO (fun y => z y.2.1), fun z3 => ?_⟩⟩⟩
    refine c_isKnown (by omega) ?_ ?_ ?_ <;> rw [G 7 (by omega) (by omega) (by omega) (by omega)]
    · rw [G 6 (by omega) (by omega) (by omega) (by omega)]
      intro z5
      have tk : hr_tk s x1 x2 (s 0) o := ⟨⟨z1, by omega⟩, z3, z5⟩
      refine ⟨fun _ => ⟨by omega, ?_⟩, fun y => by omega⟩
      rintro τ1 ht1
      rw [g1 10 (by omega) (by omega)] at ht1
      have a1 : ∀ r : Nat, r ≠ 129 → τ1 r = τ r := fun r hr => by rw [ht1, hh_up_ne hr]
      have a2 : τ1 129 (250 + 12 * (o : Int) + 8) = s 10 := by rw [ht1, hh_up_at]
      have a3 : ∀ j : Int, j ≠ 250 + 12 * (o : Int) + 8 → τ1 129 j = τ 129 j := fun j hj => by rw [ht1, hh_up_off hj]
      clear ht1
      have AG : hr_ag s (τ1 129) := ⟨fun j q1 q2 => by rw [a3 j (by omega)]; exact g1 j (by omega) (by omega), fun e q1 q2 k k1 k2 => by rw [a3 _ (by omega)]; exact g2 e q1 q2 k k1 (by omega) (by omega) (by omega)⟩
      have cho := hr_ch_b (k := s 0) (m := x1) (kd := s (50 + 20 * x1)) h (e := o) (by omega)
      rw [a3 0 (by omega), g1 0 (by omega) (by omega)]
      refine c_chargedOf' (s := τ1 129) rfl (hV.ag AG) (by rw [a3 7 (by omega), g1 7 (by omega) (by omega)]; omega) (fun π2 q1 => ?_)
      rw [a3 (250 + 12 * (o : Int) + 1) (by omega), G 1 (by omega) (by omega) (by omega) (by omega), z1, a3 (50 + 20 * x1) (by omega), g1 (50 + 20 * x1) (by omega) (by omega), hr_ch.ag AG hV (by omega) (by omega)]
      refine ⟨by omega, ?_⟩
      rintro τ2 ht2
      have b1' : ∀ r : Nat, r ≠ 129 → r ≠ 136 → r ≠ 137 → τ2 r = σ r := fun r x1 x2 x3 => by rw [ht2, hh_up_ne x1, q1 r x2 x3, a1 r x1, r1 r x1 x2 x3]
      have b2 : τ2 129 (250 + 12 * (o : Int) + 9) = hr_ch s o (s 0) x1 (s (50 + 20 * x1)) := by rw [ht2, hh_up_at]
      have b3 : ∀ j : Int, j ≠ 250 + 12 * (o : Int) + 9 → τ2 129 j = τ1 129 j := fun j hj => by rw [ht2, hh_up_off hj, q1 129 (by omega) (by omega)]
      clear ht2
      have b5 : τ2 129 (1630 + 12 * s 10 + 5) = hr_tc s x1 x2 (s 0) o := by rw [b3 _ (by omega), a3 _ (by omega)]; exact g5
      rw [b5]
      unfold B_X12_bill_281
      refine ⟨by omega, by omega, hk (i - 1) _ _ _ _ _ _ _ _ (by omega) ⟨⟨rfl, rfl, rfl, rfl, rfl⟩, fun r x1 x2 x3 => by rw [hh_up_ne x1]; exact b1' r x1 x2 x3, o + 1, ⟨by omega, by omega, by omega, ?_⟩, fun j q1 q2 => ?_, fun e q1 q2 k k1 k2 k3 k4 => ?_, fun e q1 q2 => ?_, fun e q1 q2 => ?_, ?_, fun c q1 q2 => ?_⟩⟩
      · show _ = G0 + (hr_tg s x1 x2 (s 0) (s (50 + 20 * x1)) o + (if _ then _ else _))
        rw [if_pos tk]
        omega
      · rw [hh_up_off (by omega), b3 _ (by omega), a3 _ (by omega)]; exact g1 j q1 q2
      · rw [hh_up_off (by omega), b3 _ (by omega), a3 _ (by omega)]; exact g2 e q1 q2 k k1 k2 k3 k4
      · rw [hh_up_off (by omega), hh_up_off (by omega)]
        by_cases y : e = o
        · rw [y, if_pos tk, if_pos tk, b3 _ (by omega), a2, b2]
          exact ⟨rfl, rfl⟩
        · rw [b3 _ (by omega), b3 _ (by omega), a3 _ (by omega), a3 _ (by omega)]
          exact g3 e q1 (by omega)
      · rw [hh_up_off (by omega), hh_up_off (by omega), b3 _ (by omega), b3 _ (by omega), a3 _ (by omega), a3 _ (by omega)]
        exact g4 e (by omega) q2
      · rw [hh_up_at]
        show _ = hr_tc s x1 x2 (s 0) o + (if _ then _ else _)
        rw [if_pos tk]
      · rw [hh_up_off (by omega), b3 _ (by omega), a3 _ (by omega)]; exact g6 c q1 q2
    · rw [G 6 (by omega) (by omega) (by omega) (by omega)]
      intro z5
      exact ⟨fun y => by omega, fun _ => NO (fun y => z5 y.2.2)⟩
    · omega
  have L1 : B_X12_bill_85 (d + 5) Q m up dn (50 + 20 * m) G0 σ := by
    unfold B_X12_bill_85
    rw [hs]
    refine ⟨by omega, ?_⟩
    refine hh_lp7_of (fun i x1 x2 x3 x4 x5 x6 x7 τ => (x1 = m ∧ x2 = up ∧ x3 = dn ∧ x4 = 50 + 20 * m ∧ x5 = G0 ∧ x6 = 1630 + 12 * s 10) ∧ (0 ≤ x7 ∧ x7 ≤ 12 ∧ 12 - x7 ≤ i) ∧ (∀ r : Nat, r ≠ 129 → τ r = σ r) ∧ (∀ j : Int, (j < 1630 + 12 * s 10 ∨ 1630 + 12 * s 10 + 12 ≤ j) → τ 129 j = s j) ∧ (∀ j : Int, 1630 + 12 * s 10 ≤ j → j < 1630 + 12 * s 10 + x7 → τ 129 j = 0)) ?_ 12 m up dn (50 + 20 * m) G0 (1630 + 12 * s 10) 0 σ ⟨⟨rfl, rfl, rfl, rfl, rfl, rfl⟩, by omega, fun _ _ => rfl, fun j _ => by rw [hs], fun j q1 q2 => by omega⟩
    rintro i x1 x2 x3 x4 x5 x6 x7 τ kk ⟨⟨rfl, rfl, rfl, rfl, rfl, rfl⟩, f1, r1, f2, f3⟩ hk
    unfold B_X12_bill_106
    refine ⟨fun c => L2 τ r1 f2 (fun j q1 q2 => f3 j q1 (by omega)), fun c => ⟨by omega, hk (i - 1) _ _ _ _ _ _ _ _ (by omega) ⟨⟨rfl, rfl, rfl, rfl, rfl, rfl⟩, by omega, fun r hr => by rw [hh_up_ne hr]; exact r1 r hr, fun j hj => by rw [hh_up_off (by omega)]; exact f2 j hj, fun j q1 q2 => ?_⟩⟩⟩
    by_cases y : j = 1630 + 12 * s 10 + x7
    · rw [y, hh_up_at]
    · rw [hh_up_off y]; exact f3 j q1 (by omega)
  refine wp_X12_bill _ _ _ (fun _ _ _ _ => ?_)
  unfold P_X12_bill B_X12_bill_84
  refine c_isMatter (by rw [hs]; omega) (fun _ _ => ⟨fun z => by omega, fun _ => ?_⟩) (fun z => by rw [hs] at z; omega)
  refine c_isPast (fun _ _ => ⟨fun z => by omega, fun _ => ?_⟩) (fun z => by rw [hs] at z; omega)
  refine c_in (fun _ _ => ⟨fun _ => ?_, fun z => by omega⟩) (fun z => by omega)
  rw [hs]
  refine ⟨fun _ => ⟨by omega, fun z => ?_, fun z => ?_⟩, fun z => by omega⟩
  · rw [hg3 z] at L1
    exact L1
  · refine c_isBilled (by rw [hs]; omega) ?_ ?_ <;> rw [hs]
    · intro y
      refine ⟨fun _ => ?_, fun y => by omega⟩
      rw [hg1 z y] at L1
      exact L1
    · intro y
      refine ⟨fun y => by omega, fun _ => ⟨by omega, ?_⟩⟩
      rw [hg2 z y] at L1
      exact L1
