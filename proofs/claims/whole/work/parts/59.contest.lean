set_option maxHeartbeats 2000000 in
theorem m_contest {d : Nat} {σ ω : hh_S} {e b m cut : Int} {n : Nat} {Q : Int → hh_S → Prop} (h : hr_R ω) (hs : σ 129 = ω 129) (he : 0 ≤ e ∧ e < ω 129 7) (hb : ω 129 (250 + 12 * e + 8) = b ∧ 0 ≤ b) (hm : ω 129 (250 + 12 * e + 1) = m) (hn : ω 129 (50 + 20 * m + 10) = n) (hc : 0 ≤ cut ∧ cut ≤ 239976)
    (hF : ∀ i : Int, 0 ≤ i → i < n → ¬ ω 7 (ω 18 (m * 3 + i)) + (hr_pp (fun k => ω 129 (50 + 20 * m + 14 + k)) n cut i - hh_min (hr_pp (fun k => ω 129 (50 + 20 * m + 14 + k)) n cut i) (ω 49 (b * 3 + i))) ≤ 9999999 → ∀ ρ : hh_S, (∀ r : Nat, r ≠ 138 → ρ r = σ r) → Q (-1000000003) ρ)
    (hG : (∀ i : Int, 0 ≤ i → i < n → ω 7 (ω 18 (m * 3 + i)) + (hr_pp (fun k => ω 129 (50 + 20 * m + 14 + k)) n cut i - hh_min (hr_pp (fun k => ω 129 (50 + 20 * m + 14 + k)) n cut i) (ω 49 (b * 3 + i))) ≤ 9999999) → ∀ ρ : hh_S, (∀ r : Nat, r ≠ 129 → r ≠ 138 → ρ r = σ r) → ρ 129 = hh_up (hr_gv ω b m (hr_pp (fun k => ω 129 (50 + 20 * m + 14 + k)) n cut) n) 129 (250 + 12 * e + 10) cut 129 → Q cut ρ) : B_X12_contest_115 (d + 2) Q (250 + 12 * e) cut σ := by
  obtain ⟨hU, hP, hC, hM, hE, hD, hB, hK, hT⟩ := h.1
  have e1 := hE.1
  have c1 := hC.1
  have m1 := hM.1
  have b1 := hB.1
  obtain ⟨w1, ⟨w8, w9, w10, w11⟩, w12⟩ := hE.2 e he.1 he.2
  have w2 := w1.2.1
  rw [hb.1] at w9 w12
  rw [hm] at w2 w12
  have o0 := hr_owed h (b := b) (c := 0) (by omega) (by omega)
  have hx := (hB.2 b hb.2 w9.2).1.1
  have hbm : ω 43 b = m := by rw [hx.1]; exact w12 hb.2
  rw [hbm] at o0
  obtain ⟨⟨v1, v2, v3, v4, v5, v6⟩, v7, v8, v9⟩ := hM.2 m w2.2.1 w2.2.2
  rw [hn] at v4 v7 v8
  obtain ⟨P, hPd⟩ : ∃ P : Int → Int, P = hr_pp (fun k => ω 129 (50 + 20 * m + 14 + k)) n cut := ⟨_, rfl⟩
  rw [← hPd] at hF hG
  have Pb : ∀ i : Int, 0 ≤ i → i < n → 0 ≤ P i ∧ P i ≤ 30000000 := by
    intro i i1 i2
    rw [hPd]
    have := hr_pp_b (S := fun k => ω 129 (50 + 20 * m + 14 + k)) (n := n) (c := cut) (k := i) (fun k k1 k2 => (v7 k k1 k2).2.2) (by omega) (by omega)
    omega
  have own : ∀ i : Int, 0 ≤ i → i < n → (0 ≤ ω 18 (m * 3 + i) ∧ ω 18 (m * 3 + i) < 5) ∧ ω 129 (50 + 20 * m + 11 + i) = ω 18 (m * 3 + i) ∧ ω 49 (b * 3 + i) = ω 129 (1630 + 12 * b + 6 + ω 18 (m * 3 + i)) ∧ (0 ≤ ω 49 (b * 3 + i) ∧ ω 49 (b * 3 + i) ≤ 30000000) ∧ ω 7 (ω 18 (m * 3 + i)) = ω 129 (44 + ω 18 (m * 3 + i)) ∧ 0 ≤ ω 7 (ω 18 (m * 3 + i)) ∧ ω 7 (ω 18 (m * 3 + i)) ≤ 9999999 := by
    intro i i1 i2
    have p := (v7 i i1 i2).1
    have oi := hr_owed h (b := b) (c := ω 18 (m * 3 + i)) (by omega) (by omega)
    rw [hbm] at oi
    have x := oi.2.2.1 i i1 (by omega) rfl
    have y := hC.2 (ω 18 (m * 3 + i)) (by omega) (by omega)
    have z := oi.2.2.2.2
    refine ⟨by omega, p.1.symm, x, by omega, y.1, by omega, by omega⟩
  have dst : ∀ i j : Int, 0 ≤ i → i < j → j < n → ω 18 (m * 3 + i) ≠ ω 18 (m * 3 + j) := by
    intro i j i1 i2 i3
    rw [(v7 i i1 (by omega)).1.1, (v7 j (by omega) i3).1.1]
    exact v8 i j i1 i2 i3
  unfold B_X12_contest_115
  rw [hs, hm]
  refine ⟨by omega, ?_⟩
  refine c_X12_split (S := fun k => ω 129 (50 + 20 * m + 14 + k)) (n := n) hs (by omega) ⟨hn, by omega, by omega⟩ (fun k k1 k2 => (v7 k k1 k2).2.2) (fun k _ _ => rfl) (by omega) (fun π q1 q2 => ?_)
  rw [← hPd] at q2
  have s9 : π 129 = ω 129 := by rw [q1 129 (by omega), hs]
  rw [s9, hb.1]
  refine ⟨by omega, ?_⟩
  have GIVE : (∀ i : Int, 0 ≤ i → i < n → ω 7 (ω 18 (m * 3 + i)) + (P i - hh_min (P i) (ω 49 (b * 3 + i))) ≤ 9999999) → B_X12_contest_258 (d + 2) Q (250 + 12 * e) cut m (1630 + 12 * b + 6) (50 + 20 * m + 11) π := by
    intro ok
    have G2 := hG ok
    unfold B_X12_contest_258
    refine hh_lp6_of (fun i x2 x5 x6 x7 x8 x9 τ => (x2 = 250 + 12 * e ∧ x5 = cut ∧ x6 = m ∧ x7 = 1630 + 12 * b + 6 ∧ x8 = 50 + 20 * m + 11) ∧ (∀ r : Nat, r ≠ 129 → τ r = π r) ∧ ∃ j : Nat, (x9 = j ∧ j ≤ n ∧ n - j ≤ i) ∧ τ 129 = hr_gv ω b m P j 129) ?_ n (250 + 12 * e) cut m (1630 + 12 * b + 6) (50 + 20 * m + 11) 0 π ⟨⟨rfl, rfl, rfl, rfl, rfl⟩, fun _ _ => rfl, 0, ⟨rfl, by omega, by omega⟩, s9⟩
    rintro i x2 x5 x6 x7 x8 x9 τ kk ⟨⟨rfl, rfl, rfl, rfl, rfl⟩, r1, j, ⟨rfl, f1, f2⟩, g1⟩ hk
    have un : ∀ k : Int, (k < 44 ∨ 50 ≤ k ∧ k < 1630) → hr_gv ω b x6 P j 129 k = ω 129 k := fun k hk => hr_gv_s ω b x6 P j (fun i i1 i2 => by have := (own i i1 (by omega)).1; omega)
    unfold B_X12_contest_261
    rw [g1, un _ (by omega), hn]
    refine ⟨by omega, fun z => ?_, fun z => ?_⟩
    · have ej : j = n := by omega
      rw [ej] at g1
      unfold B_X12_contest_360
      refine ⟨by omega, G2 _ (fun r r2 r3 => by rw [hh_up_ne r2, r1 r r2, q1 r r3]) ?_⟩
      rw [hh_up_eq, hh_up_eq, g1]
    have oj := own j (by omega) (by omega)
    have pj := Pb j (by omega) (by omega)
    have okj := ok j (by omega) (by omega)
    have V49 : hr_gv ω b x6 P j 49 (b * 3 + j) = ω 49 (b * 3 + j) := hr_gv_49 ω b x6 P j (by omega)
    have V7 : hr_gv ω b x6 P j 7 (ω 18 (x6 * 3 + j)) = ω 7 (ω 18 (x6 * 3 + j)) := hr_gv_7 ω b x6 P j (fun i i1 i2 => dst i j i1 i2 (by omega))
    have S1 : hr_gv ω b x6 P j 129 (1630 + 12 * b + 6 + ω 18 (x6 * 3 + j)) = ω 49 (b * 3 + j) := by
      rw [oj.2.2.1]
      exact hr_gv_s ω b x6 P j (fun i i1 i2 => by have := (own i i1 (by omega)).1; have := dst i j i1 i2 (by omega); omega)
    have S2 : hr_gv ω b x6 P j 129 (44 + ω 18 (x6 * 3 + j)) = ω 7 (ω 18 (x6 * 3 + j)) := by
      rw [oj.2.2.2.2.1]
      exact hr_gv_s ω b x6 P j (fun i i1 i2 => by have := (own i i1 (by omega)).1; have := dst i j i1 i2 (by omega); omega)
    have mb : 0 ≤ hh_min (P j) (ω 49 (b * 3 + j)) ∧ hh_min (P j) (ω 49 (b * 3 + j)) ≤ P j ∧ hh_min (P j) (ω 49 (b * 3 + j)) ≤ ω 49 (b * 3 + j) := by
      unfold hh_min
      split <;> omega
    rw [un (50 + 20 * x6 + 11 + j) (by omega), oj.2.1, S1, r1 138 (by omega), q2 j (by omega) (by omega)]
    refine ⟨by omega, c_less1 ?_⟩
    rw [g1, S1]
    refine ⟨by omega, ?_⟩
    rintro τ1 ht
    have a1 : τ1 138 j = P j := by rw [ht, hh_up_ne (by omega), r1 138 (by omega), q2 j (by omega) (by omega)]
    have a2 : τ1 129 (44 + ω 18 (x6 * 3 + j)) = ω 7 (ω 18 (x6 * 3 + j)) := by rw [ht, hh_up_off (by omega), g1, S2]
    rw [a1, a2]
    refine ⟨by omega, hk (i - 1) _ _ _ _ _ _ _ (by omega) ⟨⟨rfl, rfl, rfl, rfl, rfl⟩, fun r hr => by rw [hh_up_ne hr, ht, hh_up_ne hr]; exact r1 r hr, j + 1, ⟨by omega, by omega, by omega⟩, ?_⟩⟩
    show _ = hh_up _ _ _ _ 129
    rw [hh_up_eq, hh_up_eq, ht, hh_up_eq, hh_up_eq, hh_up_ne (by omega), hh_up_ne (by omega), V49, V7, g1]
  refine hh_lp6_of (fun i x2 x5 x6 x7 x8 x9 τ => τ = π ∧ (x2 = 250 + 12 * e ∧ x5 = cut ∧ x6 = m ∧ x7 = 1630 + 12 * b + 6 ∧ x8 = 50 + 20 * m + 11) ∧ (0 ≤ x9 ∧ x9 ≤ n ∧ n - x9 ≤ i) ∧ ∀ i : Int, 0 ≤ i → i < x9 → ω 7 (ω 18 (m * 3 + i)) + (P i - hh_min (P i) (ω 49 (b * 3 + i))) ≤ 9999999) ?_ n (250 + 12 * e) cut m (1630 + 12 * b + 6) (50 + 20 * m + 11) 0 π ⟨rfl, ⟨rfl, rfl, rfl, rfl, rfl⟩, by omega, fun i i1 i2 => by omega⟩
  rintro i x2 x5 x6 x7 x8 x9 τ kk ⟨rfl, ⟨rfl, rfl, rfl, rfl, rfl⟩, f1, f2⟩ hk
  unfold B_X12_contest_172
  rw [s9, hn]
  refine ⟨by omega, fun z => GIVE (fun i i1 i2 => f2 i i1 (by omega)), fun z => ?_⟩
  have oj := own x9 (by omega) (by omega)
  have pj := Pb x9 (by omega) (by omega)
  have F := hF x9 (by omega) (by omega)
  have mb : 0 ≤ hh_min (P x9) (ω 49 (b * 3 + x9)) ∧ hh_min (P x9) (ω 49 (b * 3 + x9)) ≤ P x9 ∧ hh_min (P x9) (ω 49 (b * 3 + x9)) ≤ ω 49 (b * 3 + x9) := by
    unfold hh_min
    split <;> omega
  rw [oj.2.1, ← oj.2.2.1, ← oj.2.2.2.2.1, q2 x9 (by omega) (by omega)]
  refine ⟨by omega, c_less1 ⟨by omega, fun y => ⟨by omega, hk (i - 1) _ _ _ _ _ _ _ (by omega) ⟨rfl, ⟨rfl, rfl, rfl, rfl, rfl⟩, by omega, fun i i1 i2 => ?_⟩⟩, fun y => F (by omega) τ q1⟩⟩
  by_cases x : i = x9
  · rw [x]; omega
  · exact f2 i i1 (by omega)
