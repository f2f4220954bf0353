def hr_is (a b : Int) : Prop := a = b
theorem hr_bn1 {G G0 t N : Int} (hG : G = G0 + t) (h0 : 0 ≤ G0 ∧ G0 ≤ 99999) (ht : 0 ≤ t ∧ t ≤ 239976 * (N.toNat : Int)) (hN : 0 ≤ N ∧ N ≤ 90) : 0 ≤ G ∧ G ≤ 22000000 := by omega
theorem hr_bn2 {G a : Int} (hG : 0 ≤ G ∧ G ≤ 30000000) (ha : 0 ≤ a ∧ a ≤ 100) : (0 ≤ G * a ∧ G * a ≤ 3000000000) ∧ 0 ≤ G * a / 100 ∧ G * a / 100 ≤ G := by
  have q1 : 0 ≤ G * a := Int.mul_nonneg hG.1 ha.1
  have q2 : G * a ≤ 30000000 * 100 := Int.mul_le_mul hG.2 ha.2 ha.1 (by decide)
  refine ⟨by omega, Int.ediv_nonneg q1 (by omega), ?_⟩
  exact Int.ediv_le_of_le_mul (by omega) (Int.mul_le_mul_of_nonneg_left ha.2 hG.1)
set_option maxHeartbeats 2000000 in
theorem o_bill {σ : hh_S} {a1 a2 a3 : Int} (h : hr_R σ) : hr_op2 hm_X11_bill hm_X12_bill [hh_I a1, hh_I a2, hh_I a3] σ := by
  obtain ⟨hU, hP, hC, hM, hE, hD, hB, hK, hT⟩ := h.1
  have u := hU
  unfold hr_U at u
  have p1 := hP.1
  have c1 := hC.1
  have m1 := hM.1
  have e1 := hE.1
  have d1 := hD.1
  have b1 := hB.1
  have k1 := hK.1
  have t1 := hT.1
  have hN := h.1
  have BD : ¬ (((0 ≤ a1 ∧ a1 < σ 129 6) ∧ (0 ≤ a2 ∧ a2 ≤ σ 129 0) ∧ 0 ≤ a3 ∧ a3 ≤ 100)) ∨ σ 129 10 = 16 → ∀ r : Int, (¬ (((0 ≤ a1 ∧ a1 < σ 129 6) ∧ (0 ≤ a2 ∧ a2 ≤ σ 129 0) ∧ 0 ≤ a3 ∧ a3 ≤ 100)) → r = -1000000001) → (((0 ≤ a1 ∧ a1 < σ 129 6) ∧ (0 ≤ a2 ∧ a2 ≤ σ 129 0) ∧ 0 ≤ a3 ∧ a3 ≤ 100) → r = -1000000003) → hh_Sp 200 hm_X12_bill [hh_R 128, hh_I a1, hh_I a2, hh_I a3] σ (fun r' σ2 => r = r' ∧ hr_R σ2) := by
    intro hb r q1 q2
    refine wp_X12_bill _ _ _ (fun _ _ _ _ => ?_)
    unfold P_X12_bill
    refine c_isMatter (by omega) (fun _ _ => ⟨fun z => by omega, fun _ => ?_⟩) (fun z => ⟨fun _ => ⟨q1 (by omega), h⟩, fun y => by omega⟩)
    refine c_isPast (fun _ _ => ⟨fun z => by omega, fun _ => ?_⟩) (fun z => ⟨fun _ => ⟨q1 (by omega), h⟩, fun y => by omega⟩)
    refine c_in (fun _ _ => ⟨fun _ => ⟨fun y => ?_, fun y => ⟨q2 (by omega), h⟩⟩, fun z => by omega⟩) (fun z => ⟨fun y => by omega, fun _ => ⟨q1 (by omega), h⟩⟩)
    exact absurd hb (by omega)
  refine wp_X11_bill _ _ _ (fun hs h1 h2 h3 => ?_)
  unfold P_X11_bill
  refine c_X5_has (by omega) (fun g1 g2 => ⟨fun z => by omega, fun _ => ?_⟩) (fun z => ⟨fun _ => BD (Or.inl (by omega)) _ (fun _ => rfl) (fun y => by omega), fun y => by omega⟩)
  refine c_X11_isPast (fun g3 g4 => ⟨fun z => by omega, fun _ => ?_⟩) (fun z => ⟨fun _ => BD (Or.inl (by omega)) _ (fun _ => rfl) (fun y => by omega), fun y => by omega⟩)
  refine c_within (fun g5 g6 => ⟨fun _ => ⟨fun g7 => ?_, fun z => BD (Or.inr (by omega)) _ (fun y => by omega) (fun _ => rfl)⟩, fun z => by omega⟩) (fun z => ⟨fun y => by omega, fun _ => BD (Or.inl (by omega)) _ (fun _ => rfl) (fun y => by omega)⟩)
  have ha : (0 ≤ a1 ∧ a1 < σ 129 6) ∧ (0 ≤ a2 ∧ a2 ≤ σ 129 0) ∧ 0 ≤ a3 ∧ a3 ≤ 100 := by omega
  have hb : σ 129 10 < 16 := by omega
  clear BD
  rw [b1.1]
  obtain ⟨⟨v1, v2, v3, v4, v5, v6⟩, v7, v8, v9, v10, v11, v12⟩ := hM.2 a1 ha.1.1 ha.1.2
  obtain ⟨n, hn⟩ : ∃ n : Int, n = σ 129 (50 + 20 * a1 + 10) := ⟨_, rfl⟩
  have TN := hr_tg_b hN a1 a2 (σ 129 0) (σ 129 (50 + 20 * a1)) (σ 129 7).toNat (by omega)
  have CN := hr_tc_b (σ 129) a1 a2 (σ 129 0) (σ 129 7).toNat
  have MAIN : ∀ c0 : Int, ∀ G0 : Int, (c0 = 0 → ∃ b : Int, 0 ≤ b ∧ b < σ 129 10 ∧ σ 129 (1630 + 12 * b) = a1) → (¬ c0 = 0 → ∀ b : Int, 0 ≤ b → b < σ 129 10 → σ 129 (1630 + 12 * b) ≠ a1) → hr_is G0 (if σ 129 (50 + 20 * a1) = 1 then (if c0 = 0 then 0 else σ 129 (50 + 20 * a1 + 2)) else 0) → B_X11_bill_78 199 (fun r σ1 => hh_Sp 200 hm_X12_bill (hh_R 128 :: [hh_I a1, hh_I a2, hh_I a3]) σ1 (fun r' σ2 => r = r' ∧ hr_R σ2)) a1 a2 a3 (σ 129 10) c0 σ := by
    intro c0 G0 k1' k2 hG0
    have hG0b : 0 ≤ G0 ∧ G0 ≤ 99999 := by
      rw [show G0 = _ from hG0]
      clear hG0
      repeat' split
      all_goals omega
    unfold B_X11_bill_78
    refine ⟨by omega, ?_⟩
    rw [u.1.1]
    have hN1 : hr_N (hh_up (hh_up σ 43 (σ 129 10) a1) 44 (σ 129 10) (σ 129 0)) (σ 129) := by
      refine ⟨hU.cg rfl rfl (fun _ _ _ => rfl), hP.cg rfl rfl rfl rfl (fun _ _ => rfl), hC.cg rfl rfl (fun _ _ => rfl), hM.cg rfl rfl rfl rfl rfl rfl rfl rfl rfl rfl rfl (Int.le_refl _) (fun _ _ => rfl), hE.cg (fun r r1 r2 => by rw [hh_up_ne (by omega), hh_up_ne (by omega)]) (Int.le_refl _) (Int.le_refl _) (Int.le_refl _) (Int.le_refl _) (fun _ _ => rfl) (fun _ _ _ => rfl), hD.cg (fun r r1 r2 => by rw [hh_up_ne (by omega), hh_up_ne (by omega)]) (Int.le_refl _) (fun _ _ => rfl), ⟨b1, fun p z1 z2 => ?_⟩, hK.cg rfl rfl rfl rfl (Int.le_refl _) (fun _ _ => rfl), hT.cg rfl rfl rfl rfl rfl rfl (fun _ _ => rfl)⟩
      have hb1 := hB.2 p z1 z2
      have hp := hr_pay hC hM hb1.1.1.2.1 hb1.1.1.2.2
      refine hb1.cg (fun r r1 r2 => ?_) (fun i i1 i2 => by rw [hh_up_ne (by omega), hh_up_ne (by omega)]) (Int.le_refl _) (Int.le_refl _) (fun _ _ _ => rfl) (fun _ _ _ => rfl) hp.1.2 hp.1.1 hp.2
      rcases (show r = 43 ∨ r = 44 ∨ (r ≠ 43 ∧ r ≠ 44) by omega) with rfl | rfl | z
      · rw [hh_up_ne (by omega), hh_up_off (by omega)]
      · rw [hh_up_off (by omega), hh_up_ne (by omega)]
      · rw [hh_up_ne z.2, hh_up_ne z.1]
    have hk0 : hr_N (hh_up (hh_up σ 43 (σ 129 10) a1) 44 (σ 129 10) (σ 129 0)) (σ 129) → True := fun _ => trivial
    refine c_chargeMatter hN1 ha.1 (fun ρ1 r1 q1 => ?_)
    refine c_takeEntries (kd := σ 129 (50 + 20 * a1)) (hN1.cg (fun r x1 x2 => r1 r (by omega) (by omega) (by omega)) (fun _ _ _ => rfl)) (by omega) q1 (fun ρ2 r2 q2 q3 => ?_)
    have fr2 : ∀ r : Nat, r ≠ 33 → r ≠ 34 → r ≠ 43 → r ≠ 44 → r ≠ 48 → r ≠ 113 → r ≠ 114 → r ≠ 116 → ρ2 r = σ r := fun r x1 x2 x3 x4 x5 x6 x7 x8 => by rw [r2 r x1 x2 x5, r1 r x6 x7 x8, hh_up_ne x4, hh_up_ne x3]
    have e43 : ∀ k : Int, ρ2 43 k = if k = σ 129 10 then a1 else σ 43 k := fun k => by rw [r2 43 (by omega) (by omega) (by omega), r1 43 (by omega) (by omega) (by omega), hh_up_ne (by omega), hh_up_eq]
    have e44 : ∀ k : Int, ρ2 44 k = if k = σ 129 10 then σ 129 0 else σ 44 k := fun k => by rw [r2 44 (by omega) (by omega) (by omega), r1 44 (by omega) (by omega) (by omega), hh_up_eq, hh_up_ne (by omega)]
    have e48 : ∀ k : Int, ρ2 48 k = if k = σ 129 10 then hr_tc (σ 129) a1 a2 (σ 129 0) (σ 129 7).toNat else σ 48 k := fun k => by rw [q3 k, r1 48 (by omega) (by omega) (by omega), hh_up_ne (by omega), hh_up_ne (by omega)]
    have e33 : ∀ e : Int, 0 ≤ e → e < σ 129 7 → ρ2 33 e = (if hr_tk (σ 129) a1 a2 (σ 129 0) e then σ 129 10 else σ 33 e) ∧ ρ2 34 e = (if hr_tk (σ 129) a1 a2 (σ 129 0) e then hr_ch (σ 129) e (σ 129 0) a1 (σ 129 (50 + 20 * a1)) else σ 34 e) := fun e x1 x2 => by
      have := q2 e x1 x2
      rw [r1 33 (by omega) (by omega) (by omega), r1 34 (by omega) (by omega) (by omega), hh_up_ne (by omega), hh_up_ne (by omega), hh_up_ne (by omega), hh_up_ne (by omega)] at this
      exact this
    have FIN : ∀ G : Int, G = G0 + hr_tg (σ 129) a1 a2 (σ 129 0) (σ 129 (50 + 20 * a1)) (σ 129 7).toNat → B_X11_bill_169 199 (fun r σ1 => hh_Sp 200 hm_X12_bill (hh_R 128 :: [hh_I a1, hh_I a2, hh_I a3]) σ1 (fun r' σ2 => r = r' ∧ hr_R σ2)) a1 a3 (σ 129 10) G ρ2 := by
      intro G hG
      have Gb := hr_bn1 hG hG0b TN ⟨e1.2.1, e1.2.2⟩
      have gdd := hr_bn2 (a := a3) ⟨Gb.1, Int.le_trans Gb.2 (by decide)⟩ ha.2.2
      have gd := gdd.1
      have gd3 := gdd.2.1
      have gd2 := gdd.2.2
      unfold B_X11_bill_169
      rw [fr2 21 (by omega) (by omega) (by omega) (by omega) (by omega) (by omega) (by omega) (by omega), v5.1]
      obtain ⟨T, hT⟩ : ∃ T : Int, T = G - G * a3 / 100 := ⟨_, rfl⟩
      rw [← hT]
      obtain ⟨w, hw⟩ : ∃ w : Int, w = hh_min T (σ 129 (50 + 20 * a1 + 3)) := ⟨_, rfl⟩
      rw [← hw]
      have wb : (0 ≤ w ∧ w ≤ σ 129 (50 + 20 * a1 + 3) ∧ w ≤ T) ∧ w = hh_min (σ 129 (50 + 20 * a1 + 3)) T := by
        unfold hh_min at hw ⊢
        repeat' split at hw
        all_goals (split <;> omega)
      clear u p1 c1 d1 k1 t1
      refine ⟨by clear TN CN v2 v4 v6 hG0b hG; omega, ?_⟩
      have cb2 : 0 ≤ T - w ∧ T - w ≤ 22000000 := by clear TN CN v2 v4 v6 hG0b hG gd; omega
      have cb : 0 ≤ T - w ∧ T - w ≤ 30000000 := ⟨cb2.1, Int.le_trans cb2.2 (by decide)⟩
      refine c_X5_split (S := fun k => σ 129 (50 + 20 * a1 + 14 + k)) (n := n.toNat) (by omega) ⟨by rw [hh_up_ne (by omega), hh_up_ne (by omega), hh_up_ne (by omega), hh_up_ne (by omega), fr2 17 (by omega) (by omega) (by omega) (by omega) (by omega) (by omega) (by omega) (by omega), v4.1]; omega, by omega, by omega⟩ (fun k k1 k2 => (v7 k k1 (by omega)).2.2) (fun k k1 k2 => by rw [hh_up_ne (by omega), hh_up_ne (by omega), hh_up_ne (by omega), hh_up_ne (by omega), fr2 19 (by omega) (by omega) (by omega) (by omega) (by omega) (by omega) (by omega) (by omega)]; exact (v7 k k1 (by omega)).2.1) cb (fun ρ3 r3 p1 p2 => ?_)
      have s21 : ∀ k : Int, ρ3 21 k = if k = a1 then σ 129 (50 + 20 * a1 + 3) - w else σ 21 k := fun k => by rw [r3 21 (by omega), hh_up_ne (by omega), hh_up_ne (by omega), hh_up_ne (by omega), hh_up_eq, fr2 21 (by omega) (by omega) (by omega) (by omega) (by omega) (by omega) (by omega) (by omega)]
      have s45 : ∀ k : Int, ρ3 45 k = if k = σ 129 10 then G else σ 45 k := fun k => by rw [r3 45 (by omega), hh_up_ne (by omega), hh_up_ne (by omega), hh_up_eq, hh_up_ne (by omega), fr2 45 (by omega) (by omega) (by omega) (by omega) (by omega) (by omega) (by omega) (by omega)]
      have s46 : ∀ k : Int, ρ3 46 k = if k = σ 129 10 then T else σ 46 k := fun k => by rw [r3 46 (by omega), hh_up_ne (by omega), hh_up_eq, hh_up_ne (by omega), hh_up_ne (by omega), fr2 46 (by omega) (by omega) (by omega) (by omega) (by omega) (by omega) (by omega) (by omega)]
      have s47 : ∀ k : Int, ρ3 47 k = if k = σ 129 10 then w else σ 47 k := fun k => by rw [r3 47 (by omega), hh_up_eq, hh_up_ne (by omega), hh_up_ne (by omega), hh_up_ne (by omega), fr2 47 (by omega) (by omega) (by omega) (by omega) (by omega) (by omega) (by omega) (by omega)]
      have s0 : ∀ r : Nat, r ≠ 127 → r ≠ 21 → r ≠ 45 → r ≠ 46 → r ≠ 47 → ρ3 r = ρ2 r := fun r x1 x2 x3 x4 x5 => by rw [r3 r x1, hh_up_ne x5, hh_up_ne x4, hh_up_ne x3, hh_up_ne x2]
      obtain ⟨P, hPd⟩ : ∃ P : Int → Int, P = fun i => if i < n then hr_pp (fun k => σ 129 (50 + 20 * a1 + 14 + k)) n.toNat (T - w) i else 0 := ⟨_, rfl⟩
      have P1 : ∀ i : Int, 0 ≤ i → i < 3 → ρ3 127 i = P i := by
        intro i i1 i2
        rw [hPd]
        show _ = if i < n then _ else _
        by_cases z : i < n
        · rw [if_pos z]; exact p1 i i1 (by omega)
        · rw [if_neg z]; exact p2 i (by omega) i2
      refine hh_lp2_of (fun i x5 x10 τ => x5 = σ 129 10 ∧ (0 ≤ x10 ∧ x10 ≤ 3 ∧ 3 - x10 ≤ i) ∧ (∀ r : Nat, r ≠ 49 → τ r = ρ3 r) ∧ ∀ k : Int, τ 49 k = if σ 129 10 * 3 ≤ k ∧ k < σ 129 10 * 3 + x10 then P (k - σ 129 10 * 3) else σ 49 k) ?_ 3 (σ 129 10) 0 ρ3 ⟨rfl, by omega, fun _ _ => rfl, fun k => by rw [if_neg (by omega), s0 49 (by omega) (by omega) (by omega) (by omega) (by omega), fr2 49 (by omega) (by omega) (by omega) (by omega) (by omega) (by omega) (by omega) (by omega)]⟩
      rintro i x5 x10 τ kk ⟨rfl, f1, t1, t2⟩ hk
      unfold B_X11_bill_274
      refine ⟨fun c => ?_, fun c => ?_⟩
      · have ex : x10 = 3 := by omega
        rw [ex] at t2
        unfold B_X11_bill_306
        refine ⟨by omega, ?_⟩
        have w9 : hh_up τ 42 0 (σ 129 10 + 1) 129 = σ 129 := by rw [hh_up_ne (by omega), t1 129 (by omega), s0 129 (by omega) (by omega) (by omega) (by omega) (by omega), fr2 129 (by omega) (by omega) (by omega) (by omega) (by omega) (by omega) (by omega) (by omega)]
        refine c_X12_bill (G0 := G0) (n := n) w9 hN ha hb (fun y1 y2 => ?_) (fun y1 y2 => ?_) (fun y1 => by rw [show G0 = _ from hG0, if_neg y1]) hG0b hn.symm (fun ρ x1 G' T' w' y1 y2 y3 y4 => ⟨rfl, ?_⟩)
        · rw [show G0 = _ from hG0, if_pos y1]
          by_cases z : c0 = 0
          · rw [if_pos z]
          · obtain ⟨b, z1, z2, z3⟩ := y2
            exact absurd z3 (k2 z b z1 z2)
        · rw [show G0 = _ from hG0, if_pos y1]
          by_cases z : c0 = 0
          · obtain ⟨b, z1, z2, z3⟩ := k1' z
            exact absurd z3 (y2 b z1 z2)
          · rw [if_neg z]
        · have eG : G' = G := by rw [y1, hG]
          have eT : T' = T := by rw [y2, eG, hT]
          have ew : w' = w := by rw [y3, eT, wb.2]
          rw [eG, eT, ew] at y4
          obtain ⟨n1, n2, n3, n4, n5⟩ := y4
          have fr3 : ∀ r : Nat, r ≠ 21 → r ≠ 33 → r ≠ 34 → (r < 42 ∨ 49 < r) → r ≠ 113 → r ≠ 114 → r ≠ 116 → r ≠ 127 → r ≠ 129 → r ≠ 136 → r ≠ 137 → r ≠ 138 → ρ r = σ r := fun r z1 z2 z3 z4 z5 z6 z7 z8 z9 z10 z11 z12 => by rw [x1 r z9 z10 z11 z12, hh_up_ne (by omega), t1 r (by omega), s0 r z8 z1 (by omega) (by omega) (by omega), fr2 r z2 z3 (by omega) (by omega) (by omega) z5 z6 z7]
          have X : ∀ r : Nat, r ≠ 42 → r ≠ 129 → r ≠ 136 → r ≠ 137 → r ≠ 138 → ρ r = τ r := fun r z1 z2 z3 z4 z5 => by rw [x1 r z2 z3 z4 z5, hh_up_ne z1]
          refine h.bill (m := a1) (w := w) (G := G) (T := T) (R := σ 129 (50 + 20 * a1 + 3) - w) (C := hr_tc (σ 129) a1 a2 (σ 129 0) (σ 129 7).toNat) (P := P) (up := a2) ha.1 hb (by omega) (fun i i1 i2 => ?_) (fun i i1 i2 => ?_) (fun r z1 z2 z3 z4 z5 z6 => fr3 r z2 z3 z4 z5 (by omega) (by omega) (by omega) (by omega) z6 (by omega) (by omega) (by omega)) (fun k => by rw [X 21 (by omega) (by omega) (by omega) (by omega) (by omega), t1 21 (by omega)]; exact s21 k) (by rw [x1 42 (by omega) (by omega) (by omega) (by omega), hh_up_at]) (fun k => by rw [X 43 (by omega) (by omega) (by omega) (by omega) (by omega), t1 43 (by omega), s0 43 (by omega) (by omega) (by omega) (by omega) (by omega)]; exact e43 k) (fun k => by rw [X 44 (by omega) (by omega) (by omega) (by omega) (by omega), t1 44 (by omega), s0 44 (by omega) (by omega) (by omega) (by omega) (by omega)]; exact e44 k) (fun k => by rw [X 45 (by omega) (by omega) (by omega) (by omega) (by omega), t1 45 (by omega)]; exact s45 k) (fun k => by rw [X 46 (by omega) (by omega) (by omega) (by omega) (by omega), t1 46 (by omega)]; exact s46 k) (fun k => by rw [X 47 (by omega) (by omega) (by omega) (by omega) (by omega), t1 47 (by omega)]; exact s47 k) (fun k => by rw [X 48 (by omega) (by omega) (by omega) (by omega) (by omega), t1 48 (by omega), s0 48 (by omega) (by omega) (by omega) (by omega) (by omega)]; exact e48 k) (fun k => by rw [X 49 (by omega) (by omega) (by omega) (by omega) (by omega)]; exact t2 k) (fun e z1 z2 => by rw [X 33 (by omega) (by omega) (by omega) (by omega) (by omega), X 34 (by omega) (by omega) (by omega) (by omega) (by omega), t1 33 (by omega), t1 34 (by omega), s0 33 (by omega) (by omega) (by omega) (by omega) (by omega), s0 34 (by omega) (by omega) (by omega) (by omega) (by omega)]; exact e33 e z1 z2) n1 n2 n3.1 n3.2.1 n3.2.2.1 n3.2.2.2.1 n3.2.2.2.2.1 n3.2.2.2.2.2.1 n3.2.2.2.2.2.2.1 n3.2.2.2.2.2.2.2 (fun i i1 i2 => ?_) n5
          · rw [hPd]
            show 0 ≤ (if i < n then _ else _) ∧ (if i < n then _ else _) ≤ 30000000
            rw [if_pos (by omega)]
            have := hr_pp_b (S := fun k => σ 129 (50 + 20 * a1 + 14 + k)) (n := n.toNat) (c := T - w) (k := i) (fun k k1 k2 => (v7 k k1 (by omega)).2.2) cb (by omega)
            exact ⟨this.1, Int.le_trans this.2 (by clear this TN CN v2 v4 v6 hG0b hG y1 y2 y3; omega)⟩
          · rw [hPd]
            show (if i < n then _ else _) = 0
            rw [if_neg (by omega)]
          · rw [n4 i i1 i2, hPd]
            show _ = if i < n then _ else _
            rw [if_pos (by omega)]
      · rw [t1 127 (by omega), P1 x10 (by omega) (by omega)]
        refine ⟨by omega, hk (i - 1) _ _ _ (by omega) ⟨rfl, by omega, fun r hr => by rw [hh_up_ne hr]; exact t1 r hr, fun k => ?_⟩⟩
        rw [hh_up_eq]
        show (if k = σ 129 10 * 3 + x10 then _ else τ 49 k) = _
        by_cases z : k = σ 129 10 * 3 + x10
        · rw [if_pos z, if_pos (by omega), z, show σ 129 10 * 3 + x10 - σ 129 10 * 3 = x10 by omega]
        · rw [if_neg z, t2]
          by_cases y : σ 129 10 * 3 ≤ k ∧ k < σ 129 10 * 3 + x10
          · rw [if_pos y, if_pos (by omega)]
          · rw [if_neg y, if_neg (by omega)]
    rw [fr2 14 (by omega) (by omega) (by omega) (by omega) (by omega) (by omega) (by omega) (by omega), fr2 16 (by omega) (by omega) (by omega) (by omega) (by omega) (by omega) (by omega) (by omega), v1.1, v3.1]
    refine ⟨by omega, fun z => FIN _ ?_, fun z => ?_⟩
    · rw [show G0 = _ from hG0, if_neg z, Int.zero_add]
    · have t0 : hr_tg (σ 129) a1 a2 (σ 129 0) (σ 129 (50 + 20 * a1)) (σ 129 7).toNat = 0 := by rw [z]; exact hr_tg_1 _ _ _ _ _
      unfold B_X11_bill_167
      refine ⟨fun y => FIN _ ?_, fun y => ⟨by omega, FIN _ ?_⟩⟩
      · rw [show G0 = _ from hG0, if_pos z, if_pos y, t0]; rfl
      · rw [show G0 = _ from hG0, if_pos z, if_neg y, t0, Int.add_zero]
  refine c_isAnyOf (by omega) (fun z => ⟨fun _ => MAIN 0 _ (fun _ => ?_) (fun y => absurd rfl y) rfl, fun y => by omega⟩) (fun z => ⟨fun y => by omega, fun _ => MAIN 1 _ (fun y => by omega) (fun _ b y1 y2 => ?_) rfl⟩)
  · obtain ⟨b, z1, z2, z3⟩ := z
    have := (hB.2 b z1 (by omega)).1.1
    exact ⟨b, z1, by omega, by omega⟩
  · have x := z b y1 (by omega)
    have := (hB.2 b y1 y2).1.1
    omega
