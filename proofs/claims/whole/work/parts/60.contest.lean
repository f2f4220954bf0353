def hr_cut (q M C : Int) : Int := if C ≤ M then 0 else q - q * M / C
theorem hr_cut_b {q M C : Int} (hq : 0 ≤ q ∧ q ≤ 239976) (hM : 1 ≤ M ∧ M ≤ 240) (hC : 0 ≤ C ∧ C ≤ 240) : (0 ≤ q * M ∧ q * M ≤ 57594240) ∧ (¬ C ≤ M → 0 ≤ q * M / C ∧ q * M / C ≤ q) ∧ 0 ≤ hr_cut q M C ∧ hr_cut q M C ≤ 239976 := by
  have h1 : 0 ≤ q * M := Int.mul_nonneg hq.1 (by omega)
  have h2 : q * M ≤ 239976 * 240 := Int.mul_le_mul hq.2 hM.2 (by omega) (by decide)
  have h3 : ¬ C ≤ M → 0 ≤ q * M / C ∧ q * M / C ≤ q := fun z => ⟨Int.ediv_nonneg h1 (by omega), Int.ediv_le_of_le_mul (by omega) (Int.mul_le_mul_of_nonneg_left (by omega) hq.1)⟩
  refine ⟨by omega, h3, ?_⟩
  unfold hr_cut
  by_cases z : C ≤ M
  · rw [if_pos z]; omega
  · rw [if_neg z]
    have := h3 z
    omega
set_option maxHeartbeats 2000000 in
theorem o_contest {σ : hh_S} {a1 : Int} (h : hr_R σ) : hr_op2 hm_X11_contest hm_X12_contest [hh_I a1] σ := by
  obtain ⟨hU, hP, hC, hM, hE, hD, hB, hK, hT⟩ := h.1
  have u := hU
  unfold hr_U at u
  have p1 := hP.1
  have c1 := hC.1
  have m1 := hM.1
  have e1 := hE.1
  have d1 := hD.1
  have b1 := hB.1
  have k1 := hK.1
  have t1 := hT.1
  have hN := h.1
  have NOM : ∀ (ρ : hh_S) (r : Int), (∀ r : Nat, r ≠ 113 → r ≠ 115 → ρ r = σ r) → (¬ (0 ≤ a1 ∧ a1 < σ 129 7) → r = -1000000001) → ((0 ≤ a1 ∧ a1 < σ 129 7) → r = -1000000002 ∧ (σ 129 (250 + 12 * a1 + 8) = -1 ∨ ¬ σ 129 (250 + 12 * a1 + 10) = -1 ∨ hr_mc (σ 129) a1 (σ 129 7).toNat = 0)) → hh_Sp 200 hm_X12_contest [hh_R 128, hh_I a1] ρ (fun r' σ2 => r = r' ∧ hr_R σ2) := by
    intro ρ r w q1 q2
    have w9 : ρ 129 = σ 129 := w 129 (by omega) (by omega)
    have R' : ∀ π : hh_S, (∀ r : Nat, r ≠ 136 → r ≠ 137 → r ≠ 139 → π r = ρ r) → hr_R π := fun π q => h.fr (fun r hr => by rw [q r (by omega) (by omega) (by omega), w r (by omega) (by omega)])
    refine wp_X12_contest _ (fun _ _ => ?_)
    unfold P_X12_contest
    refine c_isEntry (by rw [w9]; omega) (fun y1 y2 => ⟨fun _ => ?_, fun z => by omega⟩) (fun z => ⟨fun y => by omega, fun _ => ⟨q1 (by rw [w9] at z; omega), R' ρ (fun _ _ _ _ => rfl)⟩⟩)
    rw [w9] at y2
    have q3 := q2 (by omega)
    rw [w9]
    refine ⟨by omega, fun z => ⟨q3.1, R' ρ (fun _ _ _ _ => rfl)⟩, fun z => ⟨by omega, fun z2 => ?_, fun z2 => ⟨q3.1, R' ρ (fun _ _ _ _ => rfl)⟩⟩⟩
    refine c_middleOf w9 hN (by omega) (fun π q => ?_)
    unfold hr_mid
    rw [if_pos (by omega)]
    exact ⟨fun y => absurd rfl y, fun _ => ⟨q3.1, R' π q⟩⟩
  refine wp_X11_contest _ (fun _ _ => ?_)
  unfold P_X11_contest
  refine c_X3_has (by omega) (fun g1 g2 => ⟨fun _ => ⟨by omega, ?_⟩, fun z => by omega⟩) (fun z => ⟨fun y => by omega, fun _ => NOM σ _ (fun _ _ _ => rfl) (fun _ => rfl) (fun y => by omega)⟩)
  have he : 0 ≤ a1 ∧ a1 < σ 129 7 := by omega
  obtain ⟨⟨w1, w2, w3, w4, w5, w6, w7⟩, ⟨w8, w9, w10, w11⟩, w12⟩ := hE.2 a1 he.1 he.2
  have n9 := w9.1
  have n11 := w11.1
  unfold hr_nn at n9 n11
  refine ⟨fun z => NOM σ _ (fun _ _ _ => rfl) (fun y => by omega) (fun _ => ⟨rfl, Or.inl (by omega)⟩), fun z1 => ⟨by omega, fun z2 => ?_, fun z => NOM σ _ (fun _ _ _ => rfl) (fun y => by omega) (fun _ => ⟨rfl, Or.inr (Or.inl (by omega))⟩)⟩⟩
  obtain ⟨b, hb⟩ : ∃ b : Int, σ 129 (250 + 12 * a1 + 8) = b := ⟨_, rfl⟩
  obtain ⟨m, hm⟩ : ∃ m : Int, σ 129 (250 + 12 * a1 + 1) = m := ⟨_, rfl⟩
  have mb := hr_ma_b hN a1 (σ 129 7).toNat (by omega)
  refine c_middleFor hN he (fun ρ1 r1 => ?_)
  by_cases zc : hr_mc (σ 129) a1 (σ 129 7).toNat = 0
  · have e0 : hr_mid (σ 129) a1 (-1000000005) = -1000000005 := by unfold hr_mid; rw [if_pos zc]
    rw [e0]
    exact ⟨fun y => absurd rfl y, fun _ => NOM ρ1 _ r1 (fun y => by omega) (fun _ => ⟨rfl, Or.inr (Or.inr zc)⟩)⟩
  clear NOM
  obtain ⟨M, hMd⟩ : ∃ M : Int, M = hr_ma (σ 129) a1 (σ 129 7).toNat (((hr_mc (σ 129) a1 (σ 129 7).toNat : Int) - 1) / 2) := ⟨_, rfl⟩
  have Mb : 1 ≤ M ∧ M ≤ 240 := by rw [hMd]; exact mb.2 _ (by omega) (by omega)
  have mid : ∀ no : Int, hr_mid (σ 129) a1 no = M := fun no => by unfold hr_mid; rw [if_neg zc, hMd]
  rw [mid]
  refine ⟨fun _ => ?_, fun y => by omega⟩
  have hN1 : hr_N ρ1 (σ 129) := hN.cg (fun r q1 q2 => r1 r (by omega) (by omega)) (fun _ _ _ => rfl)
  have e18 : ρ1 1 8 = σ 129 0 := by rw [r1 1 (by omega) (by omega)]; exact u.1.1
  rw [e18]
  refine c_countedOf hN1 he (fun ρ2 r2' => ?_)
  have r2 : ∀ r : Nat, r ≠ 113 → r ≠ 115 → ρ2 r = σ r := fun r q1 q2 => by rw [r2' r q1, r1 r q1 q2]
  obtain ⟨C, hCd⟩ : ∃ C : Int, C = hr_val (σ 129) a1 (σ 129 0) 0 := ⟨_, rfl⟩
  have Cb : 0 ≤ C ∧ C ≤ 240 := by
    rw [hCd]
    have := hr_val_b (k := σ 129 0) (w := 0) hN he
    rw [if_pos rfl] at this
    exact this
  rw [← hCd]
  obtain ⟨q, hqd⟩ : ∃ q : Int, q = σ 129 (250 + 12 * a1 + 9) := ⟨_, rfl⟩
  rw [r2 34 (by omega) (by omega), w10.1, ← hqd]
  rw [← hqd] at w10
  have cb := hr_cut_b (q := q) (M := M) (C := C) (by omega) Mb Cb
  obtain ⟨cut, hcut⟩ : ∃ cut : Int, cut = hr_cut q M C := ⟨_, rfl⟩
  rw [← hcut] at cb
  -- the matter and its payers
  rw [hm] at w2 w12
  rw [hb] at w9 w12 n9
  have hx := (hB.2 b (by omega) w9.2).1.1
  have hbm : σ 43 b = m := by rw [hx.1]; exact w12 (by omega)
  obtain ⟨⟨v1, v2, v3, v4, v5, v6⟩, v7, v8, v9⟩ := hM.2 m w2.2.1 w2.2.2
  obtain ⟨n, hn⟩ : ∃ n : Nat, σ 129 (50 + 20 * m + 10) = n := ⟨(σ 129 (50 + 20 * m + 10)).toNat, by omega⟩
  rw [hn] at v4 v7 v8
  obtain ⟨P, hPd⟩ : ∃ P : Int → Int, P = hr_pp (fun k => σ 129 (50 + 20 * m + 14 + k)) n cut := ⟨_, rfl⟩
  have Pb : ∀ i : Int, 0 ≤ i → i < n → 0 ≤ P i ∧ P i ≤ 30000000 := by
    intro i i1 i2
    rw [hPd]
    have := hr_pp_b (S := fun k => σ 129 (50 + 20 * m + 14 + k)) (n := n) (c := cut) (k := i) (fun k k1 k2 => (v7 k k1 k2).2.2) (by omega) (by omega)
    omega
  have own : ∀ i : Int, 0 ≤ i → i < n → (0 ≤ σ 18 (m * 3 + i) ∧ σ 18 (m * 3 + i) < 5) ∧ (0 ≤ σ 49 (b * 3 + i) ∧ σ 49 (b * 3 + i) ≤ 30000000) ∧ 0 ≤ σ 7 (σ 18 (m * 3 + i)) ∧ σ 7 (σ 18 (m * 3 + i)) ≤ 9999999 := by
    intro i i1 i2
    have p := (v7 i i1 i2).1
    have oi := hr_owed h (b := b) (c := σ 18 (m * 3 + i)) (by omega) (by omega)
    rw [hbm] at oi
    have x := oi.2.2.1 i i1 (by omega) rfl
    have y := hC.2 (σ 18 (m * 3 + i)) (by omega) (by omega)
    have z := oi.2.2.2.2
    refine ⟨by omega, by omega, by omega, by omega⟩
  have dst : ∀ i j : Int, 0 ≤ i → i < j → j < n → σ 18 (m * 3 + i) ≠ σ 18 (m * 3 + j) := by
    intro i j i1 i2 i3
    rw [(v7 i i1 (by omega)).1.1, (v7 j (by omega) i3).1.1]
    exact v8 i j i1 i2 i3
  -- the reference, from a store that has the same numbers
  have md : ∀ (ρ : hh_S) (r : Int), ρ 129 = σ 129 → (∀ π : hh_S, (∀ r : Nat, r ≠ 136 → r ≠ 137 → r ≠ 139 → π r = ρ r) → B_X12_contest_115 (194 + 5) (fun r' σ2 => r = r' ∧ hr_R σ2) (250 + 12 * a1) cut π) → hh_Sp 200 hm_X12_contest [hh_R 128, hh_I a1] ρ (fun r' σ2 => r = r' ∧ hr_R σ2) := by
    intro ρ r w9' K
    refine wp_X12_contest _ (fun _ _ => ?_)
    unfold P_X12_contest
    refine c_isEntry (by rw [w9']; omega) (fun y1 y2 => ⟨fun _ => ?_, fun z => by omega⟩) (fun z => by rw [w9'] at z; omega)
    rw [w9']
    refine ⟨by omega, fun z => by omega, fun z => ⟨by omega, fun z2 => ?_, fun z2 => by omega⟩⟩
    refine c_middleOf w9' hN he (fun π1 q1 => ?_)
    rw [mid]
    refine ⟨fun _ => ?_, fun y => by omega⟩
    have p9 : π1 129 = σ 129 := by rw [q1 129 (by omega) (by omega) (by omega), w9']
    rw [p9]
    refine c_gives p9 hN he (Or.inl rfl) (fun π2 q2 => ?_)
    have KK := K π2 (fun r y1 y2 y3 => by rw [q2 r y1 y2, q1 r y1 y2 y3])
    rw [hcut] at KK
    unfold hr_cut at KK
    rw [← hCd]
    refine ⟨fun y => ?_, fun y => ?_⟩
    · rw [if_pos y] at KK
      exact KK
    · rw [if_neg y] at KK
      have p9' : π2 129 = σ 129 := by rw [q2 129 (by omega) (by omega), p9]
      rw [p9', ← hqd]
      have c2 := cb.2.1 y
      exact ⟨by omega, KK⟩
  have MAIN : B_X11_contest_117 199 (fun r σ1 => hh_Sp 200 hm_X12_contest (hh_R 128 :: [hh_I a1]) σ1 (fun r' σ2 => r = r' ∧ hr_R σ2)) a1 cut ρ2 := by
    unfold B_X11_contest_117
    rw [r2 26 (by omega) (by omega), w2.1]
    refine ⟨by omega, ?_⟩
    refine c_X5_split (S := fun k => σ 129 (50 + 20 * m + 14 + k)) (n := n) (by omega) ⟨by rw [r2 17 (by omega) (by omega)]; exact v4.1, by omega, by omega⟩ (fun k k1 k2 => (v7 k k1 k2).2.2) (fun k k1 k2 => by rw [r2 19 (by omega) (by omega)]; exact (v7 k k1 k2).2.1) (by omega) (fun ρ3 r3' p1' p2' => ?_)
    rw [← hPd] at p1'
    have r3 : ∀ r : Nat, r ≠ 113 → r ≠ 115 → r ≠ 127 → ρ3 r = σ r := fun r q1 q2 q3 => by rw [r3' r q3, r2 r q1 q2]
    have e33 : ρ3 33 a1 = b := by rw [r3 33 (by omega) (by omega) (by omega)]; omega
    rw [e33]
    refine ⟨by omega, ?_⟩
    have f43 : ρ3 43 b = m := by rw [r3 43 (by omega) (by omega) (by omega)]; exact hbm
    have f17 : ρ3 17 m = n := by rw [r3 17 (by omega) (by omega) (by omega)]; exact v4.1
    refine c_canGiveBack (m := m) (by omega) ⟨f43, by omega, by omega⟩ (by omega) (fun i i1 i2 => by rw [r3 18 (by omega) (by omega) (by omega)]; exact (own i i1 (by omega)).1) (fun i i1 i2 => ?_) (fun ok => ?_) (fun i i1 i2 ok => ?_)
    · rw [r3 18 (by omega) (by omega) (by omega), r3 49 (by omega) (by omega) (by omega), r3 7 (by omega) (by omega) (by omega), p1' i i1 (by omega)]
      exact ⟨Pb i i1 (by omega), (own i i1 (by omega)).2⟩
    · have ok2 : ∀ i : Int, 0 ≤ i → i < n → σ 7 (σ 18 (m * 3 + i)) + (P i - hh_min (P i) (σ 49 (b * 3 + i))) ≤ 9999999 := by
        intro i i1 i2
        have := ok i i1 (by omega)
        rw [r3 18 (by omega) (by omega) (by omega), r3 49 (by omega) (by omega) (by omega), r3 7 (by omega) (by omega) (by omega), p1' i i1 i2] at this
        exact this
      refine ⟨fun _ => ⟨by omega, ?_⟩, fun y => by omega⟩
      rw [e33]
      refine c_giveBack (ω := σ) (P := P) (N := n) (m := m) (by omega) ⟨f43, by omega, by omega⟩ ⟨f17, by omega, by omega⟩ (fun r hr => r3 r (by omega) (by omega) (by omega)) (fun i i1 i2 => (own i i1 i2).1) (fun i i1 i2 => p1' i i1 i2) (fun i i2 => ?_) (fun ρ4 r4 g7 g49 => ?_)
      · rw [hr_gv_49 σ b m P i (by omega), hr_gv_7 σ b m P i (fun j j1 j2 => dst j i j1 j2 (by omega))]
        exact ⟨Pb i (by omega) (by omega), (own i (by omega) (by omega)).2⟩
      refine ⟨by omega, ?_⟩
      have s9 : hh_up ρ4 35 a1 cut 129 = σ 129 := by rw [hh_up_ne (by omega), r4 129 (by omega) (by omega), r3 129 (by omega) (by omega) (by omega)]
      refine md _ _ s9 (fun π q1 => ?_)
      have t9 : π 129 = σ 129 := by rw [q1 129 (by omega) (by omega) (by omega), s9]
      have mc := @m_contest 197 π σ a1 b m cut n (fun r' σ2 => cut = r' ∧ hr_R σ2) h t9 he ⟨hb, by omega⟩ hm hn cb.2.2
      rw [← hPd] at mc
      refine mc (fun i i1 i2 no => absurd (ok2 i i1 i2) no) (fun _ ρ x1 x2 => ⟨rfl, ?_⟩)
      have RV := hr_gv_R (P := P) h (b := b) (m := m) ⟨by omega, by omega⟩ hbm (fun i i1 i2 => Pb i i1 (by omega)) (fun i i1 i2 => ok2 i i1 (by omega)) n (by omega)
      have S7 : hr_gv σ b m P n 129 7 = σ 129 7 := hr_gv_s σ b m P n (fun i i1 i2 => by have := (own i i1 (by omega)).1; omega)
      have RC := hr_R.cut (e := a1) (c := cut) RV (by rw [S7]; exact he) cb.2.2
      refine RC.fr (fun r hr => ?_)
      by_cases y9 : r = 129
      · rw [y9, x2, hh_up_eq, hh_up_eq, hh_up_ne (by omega)]
      · rw [hh_up_ne y9, x1 r y9 (by omega), q1 r (by omega) (by omega) (by omega)]
        by_cases y35 : r = 35
        · rw [y35, hh_up_eq, hh_up_eq, r4 35 (by omega) (by omega), r3 35 (by omega) (by omega) (by omega), hr_gv_r σ b m P (by omega) (by omega) (by omega)]
        · rw [hh_up_ne y35, hh_up_ne y35]
          by_cases y7 : r = 7
          · rw [y7]; exact g7
          · by_cases y49 : r = 49
            · rw [y49]; exact g49
            · rw [r4 r y7 y49, r3 r (by omega) (by omega) (by omega), hr_gv_r σ b m P y7 y49 y9]
    · refine ⟨fun y => by omega, fun _ => ?_⟩
      rw [r3 18 (by omega) (by omega) (by omega), r3 49 (by omega) (by omega) (by omega), r3 7 (by omega) (by omega) (by omega), p1' i i1 (by omega)] at ok
      have s9 : ρ3 129 = σ 129 := r3 129 (by omega) (by omega) (by omega)
      refine md _ _ s9 (fun π q1 => ?_)
      have t9 : π 129 = σ 129 := by rw [q1 129 (by omega) (by omega) (by omega), s9]
      have mc := @m_contest 197 π σ a1 b m cut n (fun r' σ2 => -1000000003 = r' ∧ hr_R σ2) h t9 he ⟨hb, by omega⟩ hm hn cb.2.2
      rw [← hPd] at mc
      refine mc (fun i i1 i2 no ρ x1 => ⟨rfl, ?_⟩) (fun yes => absurd (yes i i1 (by omega)) ok)
      exact h.fr (fun r hr => by rw [x1 r (by omega), q1 r (by omega) (by omega) (by omega), r3 r (by omega) (by omega) (by omega)])
  have MA := MAIN
  rw [hcut] at MA
  unfold hr_cut at MA
  refine ⟨by omega, fun y => ?_, fun y => ⟨fun y2 => ?_, fun y2 => ?_⟩⟩
  · rw [if_pos (by omega)] at MA
    exact MA
  · rw [if_pos y2] at MA
    exact MA
  · rw [if_neg y2] at MA
    have c2 := cb.2.1 y2
    exact ⟨by omega, MA⟩
