theorem c_more1 {d : Nat} {σ : hh_S} {Q : Int → hh_S → Prop} {v m : Int} (h : Q (hh_max v m) σ) : hh_Sp (d + 1) hm_X12_more [hh_I v, hh_I m] σ Q := by
  refine c_more (fun z => ?_) (fun z => ?_)
  · exact (show hh_max v m = m by unfold hh_max; split <;> omega) ▸ h
  · exact (show hh_max v m = v by unfold hh_max; split <;> omega) ▸ h
theorem c_less1 {d : Nat} {σ : hh_S} {Q : Int → hh_S → Prop} {v m : Int} (h : Q (hh_min v m) σ) : hh_Sp (d + 1) hm_X12_less [hh_I v, hh_I m] σ Q := by
  refine c_less (fun z => ?_) (fun z => ?_)
  · exact (show hh_min v m = m by unfold hh_min; split <;> omega) ▸ h
  · exact (show hh_min v m = v by unfold hh_min; split <;> omega) ▸ h
/-- what a client owes of a bill: the class's places beside the reference's -/
theorem hr_owed {σ : hh_S} (h : hr_R σ) {b c : Int} (hb : 0 ≤ b ∧ b < σ 129 10) (hc : 0 ≤ c ∧ c < 5) : ((0 ≤ σ 43 b ∧ σ 43 b < 10) ∧ σ 43 b = σ 129 (1630 + 12 * b) ∧ σ 43 b < σ 129 6 ∧ (1 ≤ σ 17 (σ 43 b) ∧ σ 17 (σ 43 b) ≤ 3) ∧ σ 17 (σ 43 b) = σ 129 (50 + 20 * σ 43 b + 10)) ∧ (∀ i : Int, 0 ≤ i → i < σ 17 (σ 43 b) → σ 18 (σ 43 b * 3 + i) = σ 129 (50 + 20 * σ 43 b + 11 + i)) ∧ (∀ i : Int, 0 ≤ i → i < σ 17 (σ 43 b) → σ 18 (σ 43 b * 3 + i) = c → σ 49 (b * 3 + i) = σ 129 (1630 + 12 * b + 6 + c)) ∧ ((∀ i : Int, 0 ≤ i → i < σ 17 (σ 43 b) → σ 18 (σ 43 b * 3 + i) ≠ c) → σ 129 (1630 + 12 * b + 6 + c) = 0) ∧ (0 ≤ σ 129 (1630 + 12 * b + 6 + c) ∧ σ 129 (1630 + 12 * b + 6 + c) ≤ 30000000) := by
  obtain ⟨hU, hP, hC, hM, hE, hD, hB, hK, hT⟩ := h.1
  have m1 := hM.1
  obtain ⟨⟨x1, x2, x3, x4, x5, x6⟩, x7, x8, x9, x10⟩ := hB.2 b hb.1 hb.2
  obtain ⟨⟨y1, y2, y3, y4, y5, y6⟩, y7, y8, y9, y10, y11, y12⟩ := hM.2 (σ 129 (1630 + 12 * b)) x1.2.1 x1.2.2
  rw [x1.1]
  refine ⟨⟨by omega, rfl, x1.2.2, by omega, y4.1⟩, fun i i1 i2 => (y7 i i1 (by omega)).1.1, fun i i1 i2 i3 => ?_, fun z => ?_, x10 c hc.1 hc.2⟩
  · have e := (y7 i i1 (by omega)).1.1
    rw [x7 i i1 (by omega), ← e, i3]
  · exact x9 c hc.1 hc.2 (fun i i1 i2 i3 => z i i1 (by omega) (by rw [(y7 i i1 i2).1.1]; exact i3))
theorem hr_mul3 {a b c : Int} (ha : 0 ≤ a ∧ a ≤ 30000000) (hb : 0 ≤ b ∧ b ≤ 100) (hc : 0 ≤ c ∧ c ≤ 900) : (0 ≤ a * b ∧ a * b ≤ 3000000000) ∧ (0 ≤ (a * b) * c ∧ (a * b) * c ≤ 2700000000000) := by
  have h1 : 0 ≤ a * b := Int.mul_nonneg ha.1 hb.1
  have h2 : a * b ≤ 30000000 * 100 := Int.mul_le_mul ha.2 hb.2 hb.1 (by decide)
  have h3 : 0 ≤ (a * b) * c := Int.mul_nonneg h1 hc.1
  have h4 : (a * b) * c ≤ (30000000 * 100) * 900 := Int.mul_le_mul h2 hc.2 hc.1 (by decide)
  omega
set_option maxHeartbeats 2000000 in
theorem o_owes {σ : hh_S} {a1 a2 a3 : Int} (h : hr_R σ) : hr_op2 hm_X11_owes hm_X12_owes [hh_I a1, hh_I a2, hh_I a3] σ := by
  obtain ⟨hU, hP, hC, hM, hE, hD, hB, hK, hT⟩ := h.1
  have u := hU
  unfold hr_U at u
  have p1 := hP.1
  have c1 := hC.1
  have m1 := hM.1
  have e1 := hE.1
  have d1 := hD.1
  have b1 := hB.1
  have k1 := hK.1
  have t1 := hT.1
  have BD : (¬ (0 ≤ a1 ∧ a1 < σ 129 10) ∨ ¬ (0 ≤ a2 ∧ a2 < σ 129 5) ∨ ¬ (0 ≤ a3 ∧ a3 ≤ 1)) → hh_Sp 200 hm_X12_owes [hh_R 128, hh_I a1, hh_I a2, hh_I a3] σ (fun r' σ2 => -1000000001 = r' ∧ hr_R σ2) := by
    intro hb
    refine wp_X12_owes _ _ _ (fun _ _ _ _ => ?_)
    unfold P_X12_owes
    repeat' (first | with_reducible refine And.intro ?_ ?_ | with_reducible intro _ | exact h | omega | refine c_in ?_ ?_ | refine c_isBill (by omega) ?_ ?_ | refine c_isClient (by omega) ?_ ?_ | exact absurd hb (by omega))
  have OK : ∀ v : Int, 0 ≤ a1 → a1 < σ 129 10 → 0 ≤ a2 → a2 < σ 129 5 → 0 ≤ a3 → a3 ≤ 1 → v = σ 129 (1630 + 12 * a1 + 6 + a2) → B_X11_owes_70 199 (fun r σ1 => hh_Sp 200 hm_X12_owes [hh_R 128, hh_I a1, hh_I a2, hh_I a3] σ1 (fun r' σ2 => r = r' ∧ hr_R σ2)) a1 a3 v σ := by
    intro v g1 g2 g3 g4 g5 g6 hv
    have ho := (hr_owed h (b := a1) (c := a2) (by omega) (by omega)).2.2.2.2
    obtain ⟨⟨x1, x2, x3, x4, x5, x6⟩, x7, x8, x9, x10⟩ := hB.2 a1 g1 g2
    have md : ∀ r : Int, (a3 = 0 → r = v) → (a3 = 1 → r = ((v * σ 129 2) * hh_max 0 (σ 129 0 - σ 129 (1630 + 12 * a1 + 1) - σ 129 3)) / 36500) → hh_Sp 200 hm_X12_owes [hh_R 128, hh_I a1, hh_I a2, hh_I a3] σ (fun r' σ2 => r = r' ∧ hr_R σ2) := by
      intro r r0 r1
      refine wp_X12_owes _ _ _ (fun _ _ _ _ => ?_)
      unfold P_X12_owes
      refine c_isBill (by omega) (fun _ _ => ⟨fun z => by omega, fun _ => ?_⟩) (fun z => by omega)
      refine c_isClient (by omega) (fun _ _ => ⟨fun z => by omega, fun _ => ?_⟩) (fun z => by omega)
      refine c_in (fun _ _ => ⟨fun _ => ⟨by omega, ?_⟩, fun z => by omega⟩) (fun z => by omega)
      refine c_more1 ?_
      obtain ⟨l, hl⟩ : ∃ l : Int, l = hh_max 0 (σ 129 0 - σ 129 (1630 + 12 * a1 + 1) - σ 129 3) := ⟨_, rfl⟩
      have hl2 : 0 ≤ l ∧ l ≤ 900 := by
        unfold hh_max at hl
        split at hl <;> omega
      have p := hr_mul3 ho ⟨u.2.2.1.2.1, u.2.2.1.2.2⟩ hl2
      rw [← hl] at r1 ⊢
      refine ⟨fun z => ⟨⟨by omega, by omega, by omega, by omega⟩, ?_, h⟩, fun z => ⟨by omega, ?_, h⟩⟩
      · rw [r1 (by omega), hv]
      · rw [r0 z, hv]
    unfold B_X11_owes_70
    refine ⟨fun c => ⟨by omega, wp_X11_interestOf _ _ (fun _ _ _ => ?_)⟩, fun c => md _ (fun _ => rfl) (fun z => by omega)⟩
    unfold P_X11_interestOf
    rw [u.1.1, u.2.2.1.1, u.2.2.2.1, x2.1]
    obtain ⟨l, hl⟩ : ∃ l : Int, l = hh_max 0 (σ 129 0 - σ 129 (1630 + 12 * a1 + 1) - σ 129 3) := ⟨_, rfl⟩
    have hl2 : 0 ≤ l ∧ l ≤ 900 := by
      unfold hh_max at hl
      split at hl <;> omega
    have p := hr_mul3 ho ⟨u.2.2.1.2.1, u.2.2.1.2.2⟩ hl2
    rw [← hl, hv]
    exact ⟨by omega, md _ (fun z => by omega) (fun _ => by rw [hv, hl])⟩
  refine wp_X11_owes _ _ _ (fun hs h1 h2 h3 => ?_)
  unfold P_X11_owes
  refine c_X0_has (by omega) (fun g1 g2 => ⟨fun z => by omega, fun _ => ?_⟩) (fun z => ⟨fun _ => BD (by omega), fun y => by omega⟩)
  refine c_X1_has (by omega) (fun g3 g4 => ⟨fun z => by omega, fun _ => ?_⟩) (fun z => ⟨fun _ => BD (by omega), fun y => by omega⟩)
  refine c_within (fun g5 g6 => ⟨fun _ => ?_, fun z => by omega⟩) (fun z => ⟨fun y => by omega, fun _ => BD (by omega)⟩)
  have ho := hr_owed h (b := a1) (c := a2) (by omega) (by omega)
  refine c_owedPlace (by omega) ho.1.1 ⟨by omega, by omega⟩ (fun i i1 i2 i3 => ⟨fun _ => ⟨by omega, ?_⟩, fun z => by omega⟩) (fun z => ⟨fun y => by omega, fun _ => ?_⟩)
  · exact OK _ (by omega) (by omega) (by omega) (by omega) (by omega) (by omega) (ho.2.2.1 i i1 i2 i3)
  · exact OK _ (by omega) (by omega) (by omega) (by omega) (by omega) (by omega) (ho.2.2.2.1 z).symm
/-- what one payer owes of one bill, and the client's trust, set in both -/
theorem hr_R.owe {σ ρ : hh_S} (h : hr_R σ) {b i c v t : Int} (hb : 0 ≤ b ∧ b < σ 129 10) (hc : 0 ≤ c ∧ c < σ 129 5) (hi : 0 ≤ i ∧ i < σ 17 (σ 43 b)) (hic : σ 18 (σ 43 b * 3 + i) = c) (hv : 0 ≤ v ∧ v ≤ 30000000) (ht : 0 ≤ t ∧ t ≤ 9999999)
    (er : ∀ r : Nat, r ≠ 7 → r ≠ 49 → r ≠ 129 → r ≠ 127 → ρ r = σ r) (e7 : ∀ k : Int, ρ 7 k = if k = c then t else σ 7 k) (e49 : ∀ k : Int, ρ 49 k = if k = b * 3 + i then v else σ 49 k)
    (es : ∀ j : Int, j ≠ 1630 + 12 * b + 6 + c → j ≠ 44 + c → ρ 129 j = σ 129 j) (f1 : ρ 129 (1630 + 12 * b + 6 + c) = v) (f2 : ρ 129 (44 + c) = t) : hr_R ρ := by
  obtain ⟨hU, hP, hC, hM, hE, hD, hB, hK, hT⟩ := h.1
  have u := hU
  unfold hr_U at u
  have p1 := hP.1
  have c1 := hC.1
  have m1 := hM.1
  have e1 := hE.1
  have d1 := hD.1
  have b1 := hB.1
  have k1 := hK.1
  have t1 := hT.1
  have ho := hr_owed h hb (c := c) (by omega)
  have e (r : Nat) (z : r ≠ 7 ∧ r ≠ 49 ∧ r ≠ 129 ∧ r ≠ 127) : ρ r = σ r := er r z.1 z.2.1 z.2.2.1 z.2.2.2
  have es2 : ∀ j : Int, ((j < 1636 ∨ 1822 ≤ j) ∧ (j < 44 ∨ 49 ≤ j)) → ρ 129 j = σ 129 j := fun j hj => es j (by omega) (by omega)
  refine h.nw (fun r r1 r2 => e r (by omega)) (e 0 (by omega)) (by rw [e 109 (by omega)]) (e 110 (by omega)) (e 122 (by omega)) (e 123 (by omega)) (e 124 (by omega)) (by rw [e 128 (by omega)]) (by rw [e 128 (by omega)]) (by rw [e 128 (by omega)]) (e 130 (by omega)) (e 133 (by omega)) (e 144 (by omega)) (e 145 (by omega)) (e 146 (by omega)) ?_
  refine ⟨hU.cg (e 1 (by omega)) (e 54 (by omega)) (fun k k1 k2 => es2 k (by omega)), hP.cg (e 2 (by omega)) (e 3 (by omega)) (e 4 (by omega)) (e 5 (by omega)) (fun k hk => es2 k (by omega)), ⟨by rw [e 6 (by omega), es2 5 (by omega)]; exact c1, fun p z1 z2 => ?_⟩, hM.cg (e 13 (by omega)) (e 14 (by omega)) (e 15 (by omega)) (e 16 (by omega)) (e 17 (by omega)) (e 18 (by omega)) (e 19 (by omega)) (e 20 (by omega)) (e 21 (by omega)) (e 22 (by omega)) (e 23 (by omega)) (by rw [es2 5 (by omega)]; exact Int.le_refl _) (fun k hk => es2 k (by omega)), hE.cg (fun r r1 r2 => e r (by omega)) (by rw [es2 4 (by omega)]; exact Int.le_refl _) (by rw [es2 6 (by omega)]; exact Int.le_refl _) (by rw [es2 0 (by omega)]; exact Int.le_refl _) (by rw [es2 10 (by omega)]; exact Int.le_refl _) (fun k hk => es2 k (by omega)) (fun b' b1 b2 => es _ (by omega) (by omega)), hD.cg (fun r r1 r2 => e r (by omega)) (by rw [es2 4 (by omega)]; exact Int.le_refl _) (fun k hk => es2 k (by omega)), ⟨by rw [e 42 (by omega), es2 10 (by omega)]; exact b1, fun b' z1 z2 => ?_⟩, hK.cg (e 50 (by omega)) (e 51 (by omega)) (e 52 (by omega)) (e 53 (by omega)) (by rw [es2 6 (by omega)]; exact Int.le_refl _) (fun k hk => es2 k (by omega)), hT.cg (e 8 (by omega)) (e 9 (by omega)) (e 10 (by omega)) (e 11 (by omega)) (e 12 (by omega)) (es2 5 (by omega)) (fun k hk => es2 k (by omega))⟩
  · rw [es2 5 (by omega)] at z2
    rw [e7]
    by_cases z : p = c
    · rw [if_pos z, z, f2]
      omega
    · rw [if_neg z, es _ (by omega) (by omega)]
      exact hC.2 p z1 z2
  · rw [es2 10 (by omega)] at z2
    rw [es (1630 + 12 * b') (by omega) (by omega)]
    have hb1 := hB.2 b' z1 z2
    have hp := hr_pay hC hM hb1.1.1.2.1 hb1.1.1.2.2
    have hm1 := hb1.1.1
    by_cases z : b' = b
    · subst z
      obtain ⟨⟨x1, x2, x3, x4, x5, x6⟩, x7, x8, x9, x10⟩ := hb1
      have hm : σ 43 b' = σ 129 (1630 + 12 * b') := x1.1
      rw [hm] at hi hic ho
      have qn : ρ 129 (50 + 20 * σ 129 (1630 + 12 * b') + 10) = σ 129 (50 + 20 * σ 129 (1630 + 12 * b') + 10) := es2 _ (by omega)
      have qc : ∀ k : Int, 0 ≤ k → k < 3 → ρ 129 (50 + 20 * σ 129 (1630 + 12 * b') + 11 + k) = σ 129 (50 + 20 * σ 129 (1630 + 12 * b') + 11 + k) := fun k k1 k2 => es2 _ (by omega)
      unfold hr_B1
      rw [e 43 (by omega), e 44 (by omega), e 45 (by omega), e 46 (by omega), e 47 (by omega), e 48 (by omega), qn, es2 0 (by omega), es2 6 (by omega), es (1630 + 12 * b') (by omega) (by omega), es (1630 + 12 * b' + 1) (by omega) (by omega), es (1630 + 12 * b' + 2) (by omega) (by omega), es (1630 + 12 * b' + 3) (by omega) (by omega), es (1630 + 12 * b' + 4) (by omega) (by omega), es (1630 + 12 * b' + 5) (by omega) (by omega)]
      have hd := (hM.2 _ x1.2.1 x1.2.2).2.2.1
      refine ⟨⟨x1, x2, x3, x4, x5, x6⟩, fun k k1 k2 => ?_, fun k k1 k2 => ?_, fun y y1 y2 y3 => ?_, fun y y1 y2 => ?_⟩
      · rw [qc k k1 (by omega), e49]
        have hk := ho.2.1 k k1 (by omega)
        have hci := ho.2.1 i hi.1 hi.2
        by_cases w : k = i
        · rw [if_pos (by omega), w, ← hci, hic, f1]
        · rw [if_neg (by omega)]
          have hne : σ 129 (50 + 20 * σ 129 (1630 + 12 * b') + 11 + k) ≠ c := by
            rw [← hic, hci]
            rcases (show k < i ∨ i < k by omega) with w2 | w2
            · exact hd k i k1 w2 (by omega)
            · exact (hd i k hi.1 w2 (by omega)).symm
          have hp2 := hp.2 k k1 (by omega)
          rw [es _ (by omega) (by omega)]
          exact x7 k k1 k2
      · rw [e49, if_neg (by omega)]
        exact x8 k k1 k2
      · have hyc : y ≠ c := fun w => y3 i hi.1 (by omega) (by rw [qc i hi.1 (by omega), ← ho.2.1 i hi.1 hi.2, hic, w])
        rw [es _ (by omega) (by omega)]
        exact x9 y y1 y2 (fun k k1 k2 => by rw [← qc k k1 (by omega)]; exact y3 k k1 k2)
      · by_cases w : y = c
        · rw [w, f1]; exact hv
        · rw [es _ (by omega) (by omega)]
          exact x10 y y1 y2
    · exact hb1.cg (fun r r1 r2 => by rw [e r (by omega)]) (fun k k1 k2 => by rw [e49, if_neg (by omega)]) (by rw [es2 6 (by omega)]; exact Int.le_refl _) (by rw [es2 0 (by omega)]; exact Int.le_refl _) (fun k k1 k2 => es k (by omega) (by omega)) (fun k k1 k2 => es2 k (by omega)) hp.1.2 hp.1.1 hp.2

set_option maxHeartbeats 2000000 in
theorem o_draw {σ : hh_S} {a1 a2 : Int} (h : hr_R σ) : hr_op2 hm_X11_draw hm_X12_draw [hh_I a1, hh_I a2] σ := by
  obtain ⟨hU, hP, hC, hM, hE, hD, hB, hK, hT⟩ := h.1
  have u := hU
  unfold hr_U at u
  have p1 := hP.1
  have c1 := hC.1
  have m1 := hM.1
  have e1 := hE.1
  have d1 := hD.1
  have b1 := hB.1
  have k1 := hK.1
  have t1 := hT.1
  have BD : (¬ (0 ≤ a1 ∧ a1 < σ 129 10) ∨ ¬ (0 ≤ a2 ∧ a2 < σ 129 5)) → hh_Sp 200 hm_X12_draw [hh_R 128, hh_I a1, hh_I a2] σ (fun r' σ2 => -1000000001 = r' ∧ hr_R σ2) := by
    intro hb
    refine wp_X12_draw _ _ (fun _ _ _ => ?_)
    unfold P_X12_draw
    refine c_isBill (by omega) (fun _ _ => ⟨fun z => by omega, fun _ => ?_⟩) (fun z => ⟨fun _ => ⟨rfl, h⟩, fun y => by omega⟩)
    exact c_isClient (by omega) (fun _ _ => by omega) (fun z => ⟨fun y => by omega, fun _ => ⟨rfl, h⟩⟩)
  refine wp_X11_draw _ _ (fun hs h1 h2 => ?_)
  unfold P_X11_draw
  refine c_X0_has (by omega) (fun g1 g2 => ⟨fun z => by omega, fun _ => ?_⟩) (fun z => ⟨fun _ => BD (by omega), fun y => by omega⟩)
  refine c_X1_has (by omega) (fun g3 g4 => ⟨fun _ => ?_, fun z => by omega⟩) (fun z => ⟨fun y => by omega, fun _ => BD (by omega)⟩)
  have ho := hr_owed h (b := a1) (c := a2) (by omega) (by omega)
  have hc := hC.2 a2 g3 (by omega)
  have md : ∀ (ρ : hh_S) (r : Int), ρ 129 = σ 129 → r = hh_min (σ 129 (1630 + 12 * a1 + 6 + a2)) (σ 129 (44 + a2)) → hr_R (hh_up (hh_up ρ 129 (1630 + 12 * a1 + 6 + a2) (σ 129 (1630 + 12 * a1 + 6 + a2) - r)) 129 (44 + a2) (σ 129 (44 + a2) - r)) → hh_Sp 200 hm_X12_draw [hh_R 128, hh_I a1, hh_I a2] ρ (fun r' σ2 => r = r' ∧ hr_R σ2) := by
    intro ρ r e9 hr hR
    refine wp_X12_draw _ _ (fun _ _ _ => ?_)
    unfold P_X12_draw
    refine c_isBill (by rw [e9]; omega) (fun _ _ => ⟨fun z => by omega, fun _ => ?_⟩) (fun z => by rw [e9] at z; omega)
    refine c_isClient (by rw [e9]; omega) (fun _ _ => ⟨fun _ => ⟨by omega, ?_⟩, fun z => by omega⟩) (fun z => by rw [e9] at z; omega)
    rw [e9]
    refine c_less1 ?_
    rw [← hr, e9]
    have rb : 0 ≤ r ∧ r ≤ 30000000 := by
      unfold hh_min at hr
      split at hr <;> omega
    refine ⟨by omega, hh_all_eq ?_⟩
    rw [hh_up_off (by omega), e9]
    exact ⟨by omega, rfl, hR⟩
  refine c_owedPlace (by omega) ho.1.1 ⟨by omega, by omega⟩ (fun i i1 i2 i3 => ⟨fun _ => ?_, fun z => by omega⟩) (fun z => ⟨fun y => by omega, fun _ => ?_⟩)
  · have hv := ho.2.2.1 i i1 i2 i3
    rw [hv, hc.1]
    obtain ⟨r, hr⟩ : ∃ r : Int, r = hh_min (σ 129 (1630 + 12 * a1 + 6 + a2)) (σ 129 (44 + a2)) := ⟨_, rfl⟩
    have rb : 0 ≤ r ∧ r ≤ σ 129 (1630 + 12 * a1 + 6 + a2) ∧ r ≤ σ 129 (44 + a2) := by
      unfold hh_min at hr
      split at hr <;> omega
    rw [← hr]
    refine ⟨by omega, md _ r rfl hr ?_⟩
    refine hh_name (P := hr_R) (fun ρ hρ => ?_)
    refine h.owe (b := a1) (i := i) (c := a2) (v := σ 129 (1630 + 12 * a1 + 6 + a2) - r) (t := σ 129 (44 + a2) - r) (by omega) (by omega) ⟨i1, i2⟩ i3 (by omega) (by omega) (fun r r1 r2 r3 r4 => by rw [hρ]; simp (disch := omega) only [hh_up_ne]) (fun k => by rw [hρ]; simp (disch := omega) only [hh_up_ne, hh_up_eq]) (fun k => by rw [hρ]; simp (disch := omega) only [hh_up_ne, hh_up_eq]) (fun j j1 j2 => by rw [hρ]; simp (disch := omega) only [hh_up_ne, hh_up_at, hh_up_off]) (by rw [hρ]; simp (disch := omega) only [hh_up_ne, hh_up_at, hh_up_off]) (by rw [hρ]; simp (disch := omega) only [hh_up_ne, hh_up_at, hh_up_off])
  · have hv := ho.2.2.2.1 z
    refine md σ 0 rfl (by rw [hv]; unfold hh_min; split <;> omega) ?_
    refine hh_name (P := hr_R) (fun ρ hρ => ?_)
    have e9 : ρ 129 = σ 129 := by
      rw [hρ, hv]
      funext k
      by_cases y1 : k = 44 + a2
      · rw [y1, hh_up_at]; omega
      · rw [hh_up_off y1]
        by_cases y2 : k = 1630 + 12 * a1 + 6 + a2
        · rw [y2, hh_up_at]; omega
        · rw [hh_up_off y2]
    have ee : ∀ r : Nat, ρ r = σ r := by
      intro r
      by_cases y : r = 129
      · rw [y]; exact e9
      · rw [hρ, hh_up_ne y, hh_up_ne y]
    rw [show ρ = σ from funext ee]
    exact h
set_option maxHeartbeats 2000000 in
theorem o_pay {σ : hh_S} {a1 a2 a3 : Int} (h : hr_R σ) : hr_op2 hm_X11_pay hm_X12_pay [hh_I a1, hh_I a2, hh_I a3] σ := by
  obtain ⟨hU, hP, hC, hM, hE, hD, hB, hK, hT⟩ := h.1
  have u := hU
  unfold hr_U at u
  have p1 := hP.1
  have c1 := hC.1
  have m1 := hM.1
  have e1 := hE.1
  have d1 := hD.1
  have b1 := hB.1
  have k1 := hK.1
  have t1 := hT.1
  have BD : (¬ (0 ≤ a1 ∧ a1 < σ 129 10) ∨ ¬ (0 ≤ a2 ∧ a2 < σ 129 5) ∨ ¬ (1 ≤ a3 ∧ a3 ≤ 99999)) → hh_Sp 200 hm_X12_pay [hh_R 128, hh_I a1, hh_I a2, hh_I a3] σ (fun r' σ2 => -1000000001 = r' ∧ hr_R σ2) := by
    intro hb
    refine wp_X12_pay _ _ _ (fun _ _ _ _ => ?_)
    unfold P_X12_pay
    refine c_isBill (by omega) (fun _ _ => ⟨fun z => by omega, fun _ => ?_⟩) (fun z => ⟨fun _ => ⟨rfl, h⟩, fun y => by omega⟩)
    refine c_isClient (by omega) (fun _ _ => ⟨fun z => by omega, fun _ => ?_⟩) (fun z => ⟨fun _ => ⟨rfl, h⟩, fun y => by omega⟩)
    exact c_in (fun _ _ => by omega) (fun z => ⟨fun y => by omega, fun _ => ⟨rfl, h⟩⟩)
  refine wp_X11_pay _ _ _ (fun hs h1 h2 h3 => ?_)
  unfold P_X11_pay
  refine c_X0_has (by omega) (fun g1 g2 => ⟨fun z => by omega, fun _ => ?_⟩) (fun z => ⟨fun _ => BD (by omega), fun y => by omega⟩)
  refine c_X1_has (by omega) (fun g3 g4 => ⟨fun z => by omega, fun _ => ?_⟩) (fun z => ⟨fun _ => BD (by omega), fun y => by omega⟩)
  refine c_within (fun g5 g6 => ⟨fun _ => ?_, fun z => by omega⟩) (fun z => ⟨fun y => by omega, fun _ => BD (by omega)⟩)
  have ho := hr_owed h (b := a1) (c := a2) (by omega) (by omega)
  have hc := hC.2 a2 g3 (by omega)
  have st : ∀ (ρ : hh_S) (Q : Int → hh_S → Prop), ρ 129 = σ 129 → ((∃ i : Int, 0 ≤ i ∧ i < σ 17 (σ 43 a1) ∧ σ 18 (σ 43 a1 * 3 + i) = a2) → hh_Sp 199 hm_X12_less [hh_I (σ 129 (1630 + 12 * a1 + 6 + a2)), hh_I a3] ρ (fun r76 σ76 => ((-2147483648 ≤ 44 + a2 ∧ 44 + a2 ≤ 2147483647) ∧ (0 ≤ 44 + a2 ∧ 44 + a2 < 9100) ∧ (-2147483648 ≤ σ76 129 (44 + a2) + a3 ∧ σ76 129 (44 + a2) + a3 ≤ 2147483647) ∧ (-2147483648 ≤ σ76 129 (44 + a2) + a3 - r76 ∧ σ76 129 (44 + a2) + a3 - r76 ≤ 2147483647)) ∧ ((σ76 129 (44 + a2) + a3 - r76 ≤ 9999999 → ((0 ≤ 1630 + 12 * a1 + 6 + a2 ∧ 1630 + 12 * a1 + 6 + a2 < 9100) ∧ (-2147483648 ≤ σ76 129 (1630 + 12 * a1 + 6 + a2) - r76 ∧ σ76 129 (1630 + 12 * a1 + 6 + a2) - r76 ≤ 2147483647) ∧ (-2147483648 ≤ 44 + a2 ∧ 44 + a2 ≤ 2147483647)) ∧ (∀ τ124 : hh_S, τ124 = (hh_up σ76 129 (1630 + 12 * a1 + 6 + a2) (σ76 129 (1630 + 12 * a1 + 6 + a2) - r76)) → ((0 ≤ 44 + a2 ∧ 44 + a2 < 9100) ∧ (-2147483648 ≤ a3 - r76 ∧ a3 - r76 ≤ 2147483647) ∧ (-2147483648 ≤ τ124 129 (44 + a2) + (a3 - r76) ∧ τ124 129 (44 + a2) + (a3 - r76) ≤ 2147483647)) ∧ (Q (a3 - r76) (hh_up τ124 129 (44 + a2) (τ124 129 (44 + a2) + (a3 - r76)))))) ∧ (¬ σ76 129 (44 + a2) + a3 - r76 ≤ 9999999 → Q (-1000000003) σ76)))) → ((∀ i : Int, 0 ≤ i → i < σ 17 (σ 43 a1) → σ 18 (σ 43 a1 * 3 + i) ≠ a2) → Q (-1000000002) ρ) → hh_Sp 200 hm_X12_pay [hh_R 128, hh_I a1, hh_I a2, hh_I a3] ρ Q := by
    intro ρ Q e9 ht hf
    refine wp_X12_pay _ _ _ (fun _ _ _ _ => ?_)
    unfold P_X12_pay
    refine c_isBill (by rw [e9]; omega) (fun _ _ => ⟨fun z => by omega, fun _ => ?_⟩) (fun z => by rw [e9] at z; omega)
    refine c_isClient (by rw [e9]; omega) (fun _ _ => ⟨fun z => by omega, fun _ => ?_⟩) (fun z => by rw [e9] at z; omega)
    refine c_in (fun _ _ => ⟨fun _ => ⟨by omega, ?_⟩, fun z => by omega⟩) (fun z => by omega)
    rw [e9, ← ho.1.2.1]
    refine c_isPayer ho.1.1 (by rw [e9]; omega) (fun z => ⟨fun _ => ⟨by omega, ?_⟩, fun y => by omega⟩) (fun z => ⟨fun y => by omega, fun _ => hf (fun i i1 i2 i3 => z i i1 (by rw [e9]; omega) (by rw [e9, ← ho.2.1 i i1 i2]; exact i3))⟩)
    obtain ⟨i, i1, i2, i3⟩ := z
    rw [e9] at i2 i3 ⊢
    exact ht ⟨i, i1, by omega, by rw [ho.2.1 i i1 (by omega)]; exact i3⟩
  refine c_owedPlace (by omega) ho.1.1 ⟨by omega, by omega⟩ (fun i i1 i2 i3 => ⟨fun _ => ?_, fun z => by omega⟩) (fun z => ⟨fun y => by omega, fun _ => ?_⟩)
  · have hv := ho.2.2.1 i i1 i2 i3
    rw [hv, hc.1]
    obtain ⟨r, hr⟩ : ∃ r : Int, r = hh_min (σ 129 (1630 + 12 * a1 + 6 + a2)) a3 := ⟨_, rfl⟩
    have rb : 0 ≤ r ∧ r ≤ σ 129 (1630 + 12 * a1 + 6 + a2) ∧ r ≤ a3 := by
      unfold hh_min at hr
      split at hr <;> omega
    rw [← hr]
    refine ⟨by omega, fun y => ⟨by omega, ?_⟩, fun y => ?_⟩
    · refine st _ _ rfl (fun _ => c_less1 ?_) (fun w => absurd i3 (w i i1 i2))
      rw [← hr]
      simp (disch := omega) only [hh_up_ne, hh_up_at, hh_up_off]
      refine ⟨by omega, fun w => ⟨by omega, hh_all_eq ?_⟩, fun w => by omega⟩
      simp (disch := omega) only [hh_up_ne, hh_up_at, hh_up_off]
      refine ⟨by omega, trivial, ?_⟩
      refine hh_name (P := hr_R) (fun ρ hρ => ?_)
      exact h.owe (b := a1) (i := i) (c := a2) (v := σ 129 (1630 + 12 * a1 + 6 + a2) - r) (t := σ 129 (44 + a2) + (a3 - r)) (by omega) (by omega) ⟨i1, i2⟩ i3 (by omega) (by omega) (fun r r1 r2 r3 r4 => by rw [hρ]; simp (disch := omega) only [hh_up_ne]) (fun k => by rw [hρ]; simp (disch := omega) only [hh_up_ne, hh_up_eq]) (fun k => by rw [hρ]; simp (disch := omega) only [hh_up_ne, hh_up_eq]) (fun j j1 j2 => by rw [hρ]; simp (disch := omega) only [hh_up_ne, hh_up_at, hh_up_off]) (by rw [hρ]; simp (disch := omega) only [hh_up_ne, hh_up_at, hh_up_off]) (by rw [hρ]; simp (disch := omega) only [hh_up_ne, hh_up_at, hh_up_off])
    · refine st _ _ rfl (fun _ => c_less1 ?_) (fun w => absurd i3 (w i i1 i2))
      rw [← hr]
      exact ⟨by omega, fun w => by omega, fun _ => ⟨rfl, h⟩⟩
  · exact st σ _ rfl (fun ⟨i, i1, i2, i3⟩ => absurd i3 (z i i1 i2)) (fun _ => ⟨rfl, h⟩)

def hr_sm (f : Int → Int) : Nat → Int
  | 0 => 0
  | n + 1 => hr_sm f n + f n
theorem hr_sm.cg {f g : Int → Int} : ∀ n : Nat, (∀ i : Int, 0 ≤ i → i < n → f i = g i) → hr_sm f n = hr_sm g n := by
  intro n
  induction n with
  | zero => intro _; rfl
  | succ n ih =>
    intro h
    show hr_sm f n + f n = hr_sm g n + g n
    rw [ih (fun i i1 i2 => h i i1 (by omega)), h n (by omega) (by omega)]
theorem hr_sm_b {f : Int → Int} {B : Int} (hB : 0 ≤ B) : ∀ n : Nat, (∀ i : Int, 0 ≤ i → i < n → 0 ≤ f i ∧ f i ≤ B) → 0 ≤ hr_sm f n ∧ hr_sm f n ≤ n * B := by
  intro n
  induction n with
  | zero => intro _; exact ⟨Int.le_refl 0, by rw [show ((0 : Nat) : Int) * B = 0 from Int.zero_mul B]; exact Int.le_refl 0⟩
  | succ n ih =>
    intro h
    have h1 := ih (fun i i1 i2 => h i i1 (by omega))
    have h2 := h n (by omega) (by omega)
    show 0 ≤ hr_sm f n + f n ∧ hr_sm f n + f n ≤ ((n + 1 : Nat) : Int) * B
    have e : ((n + 1 : Nat) : Int) * B = n * B + B := by rw [Int.natCast_add, Int.add_mul]; omega
    omega
theorem c_sumOf0 {d : Nat} {σ : hh_S} {Q : Int → hh_S → Prop} {n : Int} (hn : 0 ≤ n ∧ n ≤ 5) (hb : ∀ i : Int, 0 ≤ i → i < n → 0 ≤ σ 7 i ∧ σ 7 i ≤ 9999999) (hq : Q (hr_sm (σ 7) n.toNat) σ) : hh_Sp (d + 1) hm_X11_sumOf [hh_R 7, hh_I n] σ Q := by
  refine wp_X11_sumOf_i0 _ (fun _ _ => ?_)
  refine hh_lp3_of (fun m x1 x2 x3 τ => τ = σ ∧ x1 = n ∧ 0 ≤ x3 ∧ x3 ≤ n ∧ n - x3 ≤ m ∧ x2 = hr_sm (σ 7) x3.toNat) ?_ n.toNat n 0 0 σ ⟨rfl, rfl, by omega, by omega, by omega, rfl⟩
  rintro m x1 x2 x3 τ k ⟨rfl, rfl, i1, i2, i3, rfl⟩ hk
  refine ⟨fun c => ?_, fun c => ⟨fun c2 => by omega, fun c2 => ?_⟩⟩
  · rw [show x3 = x1 by omega]; exact hq
  · have b1 := hr_sm_b (f := τ 7) (B := 9999999) (by decide) x3.toNat (fun i i1 i2 => hb i i1 (by omega))
    have b2 := hb x3 i1 (by omega)
    have b3 : ((x3.toNat : Nat) : Int) * 9999999 ≤ 5 * 9999999 := Int.mul_le_mul_of_nonneg_right (by omega) (by decide)
    refine ⟨by omega, hk (m - 1) _ _ _ _ (by omega) ⟨rfl, rfl, by omega, by omega, by omega, ?_⟩⟩
    rw [show (x3 + 1).toNat = x3.toNat + 1 by omega]
    show _ = hr_sm (τ 7) x3.toNat + τ 7 (x3.toNat : Int)
    rw [show ((x3.toNat : Nat) : Int) = x3 by omega]
theorem c_sumOf1 {d : Nat} {σ : hh_S} {Q : Int → hh_S → Prop} {n : Int} (hn : 0 ≤ n ∧ n ≤ 5) (hb : ∀ i : Int, 0 ≤ i → i < n → 0 ≤ σ 8 i ∧ σ 8 i ≤ 3) (hq : Q (hr_sm (σ 8) n.toNat) σ) : hh_Sp (d + 1) hm_X11_sumOf [hh_R 8, hh_I n] σ Q := by
  refine wp_X11_sumOf_i1 _ (fun _ _ => ?_)
  refine hh_lp3_of (fun m x1 x2 x3 τ => τ = σ ∧ x1 = n ∧ 0 ≤ x3 ∧ x3 ≤ n ∧ n - x3 ≤ m ∧ x2 = hr_sm (σ 8) x3.toNat) ?_ n.toNat n 0 0 σ ⟨rfl, rfl, by omega, by omega, by omega, rfl⟩
  rintro m x1 x2 x3 τ k ⟨rfl, rfl, i1, i2, i3, rfl⟩ hk
  refine ⟨fun c => ?_, fun c => ⟨fun c2 => by omega, fun c2 => ?_⟩⟩
  · rw [show x3 = x1 by omega]; exact hq
  · have b1 := hr_sm_b (f := τ 8) (B := 3) (by decide) x3.toNat (fun i i1 i2 => hb i i1 (by omega))
    have b2 := hb x3 i1 (by omega)
    have b3 : ((x3.toNat : Nat) : Int) * 3 ≤ 5 * 3 := Int.mul_le_mul_of_nonneg_right (by omega) (by decide)
    refine ⟨by omega, hk (m - 1) _ _ _ _ (by omega) ⟨rfl, rfl, by omega, by omega, by omega, ?_⟩⟩
    rw [show (x3 + 1).toNat = x3.toNat + 1 by omega]
    show _ = hr_sm (τ 8) x3.toNat + τ 8 (x3.toNat : Int)
    rw [show ((x3.toNat : Nat) : Int) = x3 by omega]
theorem c_sumOf2 {d : Nat} {σ : hh_S} {Q : Int → hh_S → Prop} {n : Int} (hn : 0 ≤ n ∧ n ≤ 10) (hb : ∀ i : Int, 0 ≤ i → i < n → 0 ≤ σ 21 i ∧ σ 21 i ≤ 999999) (hq : Q (hr_sm (σ 21) n.toNat) σ) : hh_Sp (d + 1) hm_X11_sumOf [hh_R 21, hh_I n] σ Q := by
  refine wp_X11_sumOf_i2 _ (fun _ _ => ?_)
  refine hh_lp3_of (fun m x1 x2 x3 τ => τ = σ ∧ x1 = n ∧ 0 ≤ x3 ∧ x3 ≤ n ∧ n - x3 ≤ m ∧ x2 = hr_sm (σ 21) x3.toNat) ?_ n.toNat n 0 0 σ ⟨rfl, rfl, by omega, by omega, by omega, rfl⟩
  rintro m x1 x2 x3 τ k ⟨rfl, rfl, i1, i2, i3, rfl⟩ hk
  refine ⟨fun c => ?_, fun c => ⟨fun c2 => by omega, fun c2 => ?_⟩⟩
  · rw [show x3 = x1 by omega]; exact hq
  · have b1 := hr_sm_b (f := τ 21) (B := 999999) (by decide) x3.toNat (fun i i1 i2 => hb i i1 (by omega))
    have b2 := hb x3 i1 (by omega)
    have b3 : ((x3.toNat : Nat) : Int) * 999999 ≤ 10 * 999999 := Int.mul_le_mul_of_nonneg_right (by omega) (by decide)
    refine ⟨by omega, hk (m - 1) _ _ _ _ (by omega) ⟨rfl, rfl, by omega, by omega, by omega, ?_⟩⟩
    rw [show (x3 + 1).toNat = x3.toNat + 1 by omega]
    show _ = hr_sm (τ 21) x3.toNat + τ 21 (x3.toNat : Int)
    rw [show ((x3.toNat : Nat) : Int) = x3 by omega]
theorem hr_ct_sum (s : Int → Int) (n : Nat) : ∀ T : Nat, (∀ t : Nat, t < T → 0 ≤ s (1840 + 484 * t) ∧ s (1840 + 484 * t) < n) → hr_sm (fun c => hr_ct s c T) n = T := by
  intro T
  induction T with
  | zero =>
    intro _
    have : ∀ m : Nat, hr_sm (fun c => hr_ct s c 0) m = 0 := by
      intro m
      induction m with
      | zero => rfl
      | succ m ih => show hr_sm (fun c => hr_ct s c 0) m + 0 = 0; rw [ih]; rfl
    exact this n
  | succ T ih =>
    intro h
    have h1 := ih (fun t t1 => h t (by omega))
    have h2 := h T (by omega)
    have key : ∀ m : Nat, hr_sm (fun c => hr_ct s c (T + 1)) m = hr_sm (fun c => hr_ct s c T) m + (if s (1840 + 484 * T) < m then 1 else 0) := by
      intro m
      induction m with
      | zero => show (0 : Int) = 0 + _; rw [if_neg (by omega)]; rfl
      | succ m ihm =>
        show hr_sm (fun c => hr_ct s c (T + 1)) m + (hr_ct s m T + (if s (1840 + 484 * T) = m then 1 else 0)) = (hr_sm (fun c => hr_ct s c T) m + hr_ct s m T) + _
        rw [ihm]
        by_cases z : s (1840 + 484 * T) = m
        · rw [if_pos z, if_neg (by omega), if_pos (by omega)]; omega
        · rw [if_neg z]
          by_cases y : s (1840 + 484 * T) < m
          · rw [if_pos y, if_pos (by omega)]; omega
          · rw [if_neg y, if_neg (by omega)]; omega
    rw [key n, h1, if_pos h2.2]
    omega
theorem hr_bal {n c0 c1 c2 s0 s1 s2 s3 s4 o0 o1 o2 : Int} {S : Int → Int} (hn : 1 ≤ n ∧ n ≤ 3) (h0 : 0 ≤ c0 ∧ c0 < 5) (h1 : 2 ≤ n → (0 ≤ c1 ∧ c1 < 5) ∧ c0 ≠ c1) (h2 : 3 ≤ n → (0 ≤ c2 ∧ c2 < 5) ∧ c0 ≠ c2 ∧ c1 ≠ c2) (e0 : S 0 = s0) (e1 : S 1 = s1) (e2 : S 2 = s2) (e3 : S 3 = s3) (e4 : S 4 = s4) (p0 : o0 = S c0) (p1 : (2 ≤ n → o1 = S c1) ∧ (n < 2 → o1 = 0)) (p2 : (3 ≤ n → o2 = S c2) ∧ (n < 3 → o2 = 0)) (hz : ∀ c : Int, 0 ≤ c → c < 5 → c0 ≠ c → (2 ≤ n → c1 ≠ c) → (3 ≤ n → c2 ≠ c) → S c = 0) : o0 + o1 + o2 = s0 + s1 + s2 + s3 + s4 := by
  have z0 := hz 0 (by omega) (by omega)
  have z1 := hz 1 (by omega) (by omega)
  have z2 := hz 2 (by omega) (by omega)
  have z3 := hz 3 (by omega) (by omega)
  have z4 := hz 4 (by omega) (by omega)
  rw [e0] at z0
  rw [e1] at z1
  rw [e2] at z2
  rw [e3] at z3
  rw [e4] at z4
  have v : ∀ c : Int, 0 ≤ c → c < 5 → (c = 0 ∧ S c = s0) ∨ (c = 1 ∧ S c = s1) ∨ (c = 2 ∧ S c = s2) ∨ (c = 3 ∧ S c = s3) ∨ (c = 4 ∧ S c = s4) := by
    intro c k1 k2
    rcases (show c = 0 ∨ c = 1 ∨ c = 2 ∨ c = 3 ∨ c = 4 by omega) with rfl | rfl | rfl | rfl | rfl
    · exact Or.inl ⟨rfl, e0⟩
    · exact Or.inr (Or.inl ⟨rfl, e1⟩)
    · exact Or.inr (Or.inr (Or.inl ⟨rfl, e2⟩))
    · exact Or.inr (Or.inr (Or.inr (Or.inl ⟨rfl, e3⟩)))
    · exact Or.inr (Or.inr (Or.inr (Or.inr ⟨rfl, e4⟩)))
  have v0 := v c0 h0.1 h0.2
  rcases (show n = 1 ∨ n = 2 ∨ n = 3 by omega) with rfl | rfl | rfl
  · have q1 := p1.2 (by omega)
    have q2 := p2.2 (by omega)
    rcases v0 with v0 | v0 | v0 | v0 | v0 <;> omega
  · have v1 := v c1 (h1 (by omega)).1.1 (h1 (by omega)).1.2
    have q1 := p1.1 (by omega)
    have q2 := p2.2 (by omega)
    have q3 := (h1 (by omega)).2
    rcases v0 with v0 | v0 | v0 | v0 | v0 <;> rcases v1 with v1 | v1 | v1 | v1 | v1 <;> omega
  · have v1 := v c1 (h1 (by omega)).1.1 (h1 (by omega)).1.2
    have v2 := v c2 (h2 (by omega)).1.1 (h2 (by omega)).1.2
    have q1 := p1.1 (by omega)
    have q2 := p2.1 (by omega)
    have q3 := (h1 (by omega)).2
    have q4 := (h2 (by omega)).2
    rcases v0 with v0 | v0 | v0 | v0 | v0 <;> rcases v1 with v1 | v1 | v1 | v1 | v1 <;> (try omega) <;> rcases v2 with v2 | v2 | v2 | v2 | v2 <;> omega
