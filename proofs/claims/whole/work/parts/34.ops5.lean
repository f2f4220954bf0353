theorem c_putPayer {d : Nat} {σ : hh_S} {Q : Int → hh_S → Prop} {a1 a2 a3 : Int} (h1 : 0 ≤ a1 ∧ a1 < 10) (h2 : 0 ≤ a2 ∧ a2 < 3) (h3 : 0 ≤ a3) (hq : Q 0 (hh_up (hh_up σ 18 (a1 * 3 + a2) (a3 / 100)) 19 (a1 * 3 + a2) (a3 % 100))) : hh_Sp (d + 1) hm_X5_putPayer [hh_R 13, hh_I a1, hh_I a2, hh_I a3] σ Q :=
  wp_X5_putPayer _ _ _ (fun _ _ _ _ => ⟨by omega, hq⟩)
/-- a matter has a bill -/
def hr_bl (s : Int → Int) (m : Int) : Prop := ∃ b : Int, 0 ≤ b ∧ b < s 10 ∧ s (1630 + 12 * b) = m
def hr_v3 (a b c k : Int) : Int := if k = 0 then a else if k = 1 then b else c
/-- the reference's payers, once they are found good -/
theorem c_setPayers {d : Nat} {σ : hh_S} {Q : Int → hh_S → Prop} {a b c q n : Int} (hq : 0 ≤ q ∧ q ≤ 9000) (hn : 1 ≤ n ∧ n ≤ 3) (hv : ∀ k : Int, 0 ≤ k → k < n → 0 ≤ hr_v3 a b c k)
    (hk : ∀ ρ : hh_S, (∀ r : Nat, r ≠ 129 → ρ r = σ r) → (∀ j : Int, (j < q + 10 ∨ q + 17 ≤ j) → ρ 129 j = σ 129 j) → ρ 129 (q + 10) = n → (∀ k : Int, 0 ≤ k → k < n → ρ 129 (q + 11 + k) = hr_v3 a b c k / 100 ∧ ρ 129 (q + 14 + k) = hr_v3 a b c k % 100) → Q n ρ) : B_X12_payers_173 d Q a b c q (q + 10) n σ := by
  unfold B_X12_payers_173
  refine ⟨by omega, ?_⟩
  refine hh_lp5_of (fun m x2 x3 x4 x6 x7 τ => (x2 = a ∧ x3 = b ∧ x4 = c ∧ x6 = q ∧ 0 ≤ x7 ∧ x7 ≤ n ∧ n - x7 ≤ m) ∧ (∀ r : Nat, r ≠ 129 → τ r = σ r) ∧ (∀ j : Int, (j < q + 10 ∨ q + 17 ≤ j) → τ 129 j = σ 129 j) ∧ τ 129 (q + 10) = n ∧ (∀ k : Int, 0 ≤ k → k < x7 → τ 129 (q + 11 + k) = hr_v3 a b c k / 100 ∧ τ 129 (q + 14 + k) = hr_v3 a b c k % 100)) ?_ n.toNat a b c q 0 _ ⟨by omega, fun r hr => hh_up_ne hr, fun j hj => hh_up_off (by omega), hh_up_at _ _ _ _, fun k k1 k2 => by omega⟩
  rintro m x2 x3 x4 x6 x7 τ k ⟨⟨rfl, rfl, rfl, rfl, i1, i2, i3⟩, i4, i5, i6, i7⟩ hkk
  unfold B_X12_payers_177 B_X12_payers_257
  have nx : ∀ v : Int, v = hr_v3 x2 x3 x4 x7 → x7 < n → B_X12_payers_213 d Q k x2 x3 x4 x6 x7 v τ := by
    intro v hv2 hx
    have h0 := hv x7 i1 hx
    unfold B_X12_payers_213
    rw [hv2]
    refine ⟨by omega, hkk (m - 1) _ _ _ _ _ _ (by omega) ⟨by omega, fun r hr => by rw [hh_up_ne hr, hh_up_ne hr]; exact i4 r hr, fun j hj => by rw [hh_up_off (by omega), hh_up_off (by omega)]; exact i5 j hj, by rw [hh_up_off (by omega), hh_up_off (by omega)]; exact i6, fun y y1 y2 => ?_⟩⟩
    by_cases z : y = x7
    · subst z
      rw [hh_up_off (by omega), hh_up_at, hh_up_at]
      exact ⟨rfl, rfl⟩
    · rw [hh_up_off (by omega), hh_up_off (by omega), hh_up_off (by omega), hh_up_off (by omega)]
      exact i7 y y1 (by omega)
  rw [i6]
  refine ⟨by omega, fun z => ⟨by omega, hk τ i4 i5 i6 (fun y y1 y2 => i7 y y1 (by omega))⟩, fun z => ⟨fun z1 => ⟨fun z2 => nx _ ?_ (by omega), fun z2 => nx _ ?_ (by omega)⟩, fun z1 => nx _ ?_ (by omega)⟩⟩
  · unfold hr_v3; rw [if_neg z1, if_neg z2]
  · unfold hr_v3; rw [if_neg z1, if_pos z2]
  · unfold hr_v3; rw [if_pos z1]
/-- payers set in both -/
theorem hr_R.payers {σ ρ : hh_S} (h : hr_R σ) {m a b c n : Int} (hm : 0 ≤ m ∧ m < σ 129 6) (hn : 1 ≤ n ∧ n ≤ 3) (hv : ∀ k : Int, 0 ≤ k → k < n → (0 ≤ hr_v3 a b c k ∧ hr_v3 a b c k / 100 < σ 129 5 ∧ 1 ≤ hr_v3 a b c k % 100)) (hd : ∀ i j : Int, 0 ≤ i → i < j → j < n → hr_v3 a b c i / 100 ≠ hr_v3 a b c j / 100) (hb : ¬ ∃ b : Int, 0 ≤ b ∧ b < σ 129 10 ∧ σ 129 (1630 + 12 * b) = m)
    (er : ∀ r : Nat, r ≠ 17 → r ≠ 18 → r ≠ 19 → r ≠ 129 → ρ r = σ r) (e17 : ∀ k : Int, ρ 17 k = if k = m then n else σ 17 k) (e18 : ∀ i : Int, 0 ≤ i → i < n → ρ 18 (m * 3 + i) = hr_v3 a b c i / 100 ∧ ρ 19 (m * 3 + i) = hr_v3 a b c i % 100) (eo : ∀ j : Int, (j < m * 3 ∨ m * 3 + 3 ≤ j) → ρ 18 j = σ 18 j ∧ ρ 19 j = σ 19 j)
    (es : ∀ j : Int, (j < 50 + 20 * m + 10 ∨ 50 + 20 * m + 17 ≤ j) → ρ 129 j = σ 129 j) (f10 : ρ 129 (50 + 20 * m + 10) = n) (fk : ∀ k : Int, 0 ≤ k → k < n → ρ 129 (50 + 20 * m + 11 + k) = hr_v3 a b c k / 100 ∧ ρ 129 (50 + 20 * m + 14 + k) = hr_v3 a b c k % 100) : hr_R ρ := by
  obtain ⟨hU, hP, hC, hM, hE, hD, hB, hK, hT⟩ := h.1
  have u := hU
  unfold hr_U at u
  have p1 := hP.1
  have c1 := hC.1
  have m1 := hM.1
  have e1 := hE.1
  have d1 := hD.1
  have b1 := hB.1
  have k1 := hK.1
  have t1 := hT.1
  have e (r : Nat) (z : (r < 17 ∨ 19 < r) ∧ r ≠ 129) : ρ r = σ r := er r (by omega) (by omega) (by omega) (by omega)
  refine h.nw (fun r r1 r2 => e r (by omega)) (e 0 (by omega)) (by rw [e 109 (by omega)]) (e 110 (by omega)) (e 122 (by omega)) (e 123 (by omega)) (e 124 (by omega)) (by rw [e 128 (by omega)]) (by rw [e 128 (by omega)]) (by rw [e 128 (by omega)]) (e 130 (by omega)) (e 133 (by omega)) (e 144 (by omega)) (e 145 (by omega)) (e 146 (by omega)) ?_
  refine ⟨hU.cg (e 1 (by omega)) (e 54 (by omega)) (fun k k1 k2 => es k (by omega)), hP.cg (e 2 (by omega)) (e 3 (by omega)) (e 4 (by omega)) (e 5 (by omega)) (fun k hk => es k (by omega)), hC.cg (e 6 (by omega)) (e 7 (by omega)) (fun k hk => es k (by omega)), ⟨by rw [e 13 (by omega), es 6 (by omega)]; exact m1, fun m' z1 z2 => ?_⟩, hE.cg (fun r r1 r2 => e r (by omega)) (by rw [es 4 (by omega)]; exact Int.le_refl _) (by rw [es 6 (by omega)]; exact Int.le_refl _) (by rw [es 0 (by omega)]; exact Int.le_refl _) (by rw [es 10 (by omega)]; exact Int.le_refl _) (fun k hk => es k (by omega)) (fun b b1 b2 => es _ (by omega)), hD.cg (fun r r1 r2 => e r (by omega)) (by rw [es 4 (by omega)]; exact Int.le_refl _) (fun k hk => es k (by omega)), hB.cg hC hM (fun r r1 r2 => e r (by omega)) (by rw [es 6 (by omega)]; exact Int.le_refl _) (by rw [es 0 (by omega)]; exact Int.le_refl _) (fun k hk => es k (by omega)) (fun m' y1 y2 y3 k k1 k2 => es k ?_), hK.cg (e 50 (by omega)) (e 51 (by omega)) (e 52 (by omega)) (e 53 (by omega)) (by rw [es 6 (by omega)]; exact Int.le_refl _) (fun k hk => es k (by omega)), hT.cg (e 8 (by omega)) (e 9 (by omega)) (e 10 (by omega)) (e 11 (by omega)) (e 12 (by omega)) (es 5 (by omega)) (fun k hk => es k (by omega))⟩
  · rw [es 6 (by omega)] at z2
    by_cases z : m' = m
    · subst z
      obtain ⟨⟨x1, x2, x3, x4, x5, x6⟩, x7, x8, x9, x10, x11, x12⟩ := hM.2 m' z1 z2
      unfold hr_M1
      rw [e17, if_pos rfl, f10, e 14 (by omega), e 15 (by omega), e 16 (by omega), e 20 (by omega), e 21 (by omega), e 22 (by omega), e 23 (by omega), es (50 + 20 * m') (by omega), es (50 + 20 * m' + 1) (by omega), es (50 + 20 * m' + 2) (by omega), es (50 + 20 * m' + 3) (by omega), es (50 + 20 * m' + 4) (by omega), es (50 + 20 * m' + 17) (by omega), es 5 (by omega)]
      refine ⟨⟨x1, x2, x3, ⟨rfl, hn⟩, x5, x6⟩, fun i i1 i2 => ?_, fun i j i1 i2 i3 => ?_, fun k k1 k2 => ?_, fun y => ?_, x11, x12⟩
      · have y1 := e18 i i1 i2
        have y2 := fk i i1 i2
        have y3 := hv i i1 i2
        rw [y1.1, y1.2, y2.1, y2.2]
        omega
      · rw [(fk i i1 (by omega)).1, (fk j (by omega) i3).1]
        exact hd i j i1 i2 i3
      · rw [es _ (by omega)]
        exact x9 k k1 k2
      · rw [es _ (by omega)]
        exact x10 y
    · exact (hM.2 m' z1 z2).cg (by rw [e 14 (by omega)]) (by rw [e 15 (by omega)]) (by rw [e 16 (by omega)]) (by rw [e17, if_neg z]) (fun i _ _ => (eo _ (by omega)).1) (fun i _ _ => (eo _ (by omega)).2) (fun i _ _ => by rw [e 20 (by omega)]) (by rw [e 21 (by omega)]) (by rw [e 22 (by omega)]) (fun i _ _ => by rw [e 23 (by omega)]) (by rw [es 5 (by omega)]; exact Int.le_refl _) (fun k k1 k2 => es k (by omega))
  · have : m' ≠ m := fun z => hb (z ▸ y3)
    omega
set_option maxHeartbeats 2000000 in
theorem o_payers {σ : hh_S} {a1 a2 a3 a4 : Int} (h : hr_R σ) : hr_op2 hm_X11_payers hm_X12_payers [hh_I a1, hh_I a2, hh_I a3, hh_I a4] σ := by
  obtain ⟨hU, hP, hC, hM, hE, hD, hB, hK, hT⟩ := h.1
  have u := hU
  unfold hr_U at u
  have p1 := hP.1
  have c1 := hC.1
  have m1 := hM.1
  have e1 := hE.1
  have d1 := hD.1
  have b1 := hB.1
  have k1 := hK.1
  have t1 := hT.1
  refine wp_X11_payers _ _ _ _ (fun hs h1 h2 h3 h4 => ?_)
  unfold P_X11_payers B_X11_payers_59
  have B : ∀ n : Int, 0 ≤ a1 → a1 < σ 129 6 → (n = 1 ∨ n = 2 ∨ n = 3) → ((n = 1 ∧ a3 = -1000000005 ∧ a4 = -1000000005) ∨ (n = 2 ∧ a3 ≠ -1000000005 ∧ a4 = -1000000005) ∨ (n = 3 ∧ a3 ≠ -1000000005 ∧ a4 ≠ -1000000005)) → (0 ≤ a2 ∧ a2 / 100 < σ 129 5 ∧ 1 ≤ a2 % 100) → (2 ≤ n → 0 ≤ a3 ∧ a3 / 100 < σ 129 5 ∧ 1 ≤ a3 % 100 ∧ a3 / 100 ≠ a2 / 100) → (3 ≤ n → 0 ≤ a4 ∧ a4 / 100 < σ 129 5 ∧ 1 ≤ a4 % 100 ∧ a4 / 100 ≠ a2 / 100 ∧ a4 / 100 ≠ a3 / 100) → B_X11_payers_111 199 (fun r σ1 => hh_Sp 200 hm_X12_payers [hh_R 128, hh_I a1, hh_I a2, hh_I a3, hh_I a4] σ1 (fun r' σ2 => r = r' ∧ hr_R σ2)) a1 a2 a3 a4 n σ := by
    intro n g1 g2 g0 g3 g4 g5 g6
    have md : ∀ (ρ : hh_S) (r : Int), ρ 129 = σ 129 → (hr_bl (σ 129) a1 → r = -1000000002 ∧ hr_R ρ) → ((¬ hr_bl (σ 129) a1) → r = n ∧ ∀ π : hh_S, (∀ r : Nat, r ≠ 129 → π r = ρ r) → (∀ j : Int, (j < 50 + 20 * a1 + 10 ∨ 50 + 20 * a1 + 17 ≤ j) → π 129 j = ρ 129 j) → π 129 (50 + 20 * a1 + 10) = n → (∀ k : Int, 0 ≤ k → k < n → π 129 (50 + 20 * a1 + 11 + k) = hr_v3 a2 a3 a4 k / 100 ∧ π 129 (50 + 20 * a1 + 14 + k) = hr_v3 a2 a3 a4 k % 100) → hr_R π) → hh_Sp 200 hm_X12_payers [hh_R 128, hh_I a1, hh_I a2, hh_I a3, hh_I a4] ρ (fun r' σ2 => r = r' ∧ hr_R σ2) := by
      intro ρ r e9 ht hf
      refine wp_X12_payers _ _ _ _ (fun _ _ _ _ _ => ?_)
      have fin : B_X12_payers_122 199 (fun r' σ2 => r = r' ∧ hr_R σ2) a1 a2 a3 a4 ρ := by
        unfold B_X12_payers_122
        refine c_isBilled (by rw [e9]; omega) (fun z => ?_) (fun z => ?_)
        · rw [e9] at z
          exact ⟨fun y => by omega, fun _ => ht z⟩
        · rw [e9] at z
          obtain ⟨hr, hp⟩ := hf (fun ⟨b, b1, b2, b3⟩ => z b b1 b2 b3)
          have hv : ∀ k : Int, 0 ≤ k → k < n → 0 ≤ hr_v3 a2 a3 a4 k := by
            intro k k1 k2
            unfold hr_v3
            rcases (show k = 0 ∨ k = 1 ∨ k = 2 by omega) with rfl | rfl | rfl
            · rw [if_pos rfl]; omega
            · rw [if_neg (by omega), if_pos rfl]; omega
            · rw [if_neg (by omega), if_neg (by omega)]; omega
          have sp := c_setPayers (d := 199) (σ := ρ) (Q := fun r' σ2 => r = r' ∧ hr_R σ2) (a := a2) (b := a3) (c := a4) (q := 50 + 20 * a1) (n := n) (by omega) (by omega) hv (fun π p1 p2 p3 p4 => ⟨hr, hp π p1 p2 p3 p4⟩)
          refine ⟨fun _ => ⟨by omega, fun y1 => ⟨fun y2 => ?_, fun y2 => ?_⟩, fun y1 => ?_⟩, fun y => by omega⟩
          · rw [show (3 : Int) = n by omega]; exact sp
          · rw [show (2 : Int) = n by omega]; exact sp
          · rw [show (1 : Int) = n by omega]; exact sp
      unfold P_X12_payers B_X12_payers_30 B_X12_payers_46 B_X12_payers_59 B_X12_payers_63 B_X12_payers_64 B_X12_payers_88
      have c5 : 0 ≤ ρ 129 5 ∧ ρ 129 5 ≤ 5 := by rw [e9]; omega
      have c6 : 0 ≤ ρ 129 6 ∧ ρ 129 6 ≤ 10 := by rw [e9]; omega
      have e5 : ρ 129 5 = σ 129 5 := by rw [e9]
      have e6 : ρ 129 6 = σ 129 6 := by rw [e9]
      repeat' (first | with_reducible refine And.intro ?_ ?_ | with_reducible intro _ | exact fin | omega | refine c_isMatter c6 ?_ ?_ | refine c_isShare c5 ?_ ?_)
    unfold B_X11_payers_111 B_X11_payers_160 B_X11_payers_180
    refine c_isAnyOf (by omega) (fun z => ?_) (fun z => ?_)
    · refine ⟨fun y => by omega, fun _ => md σ _ rfl (fun _ => ⟨rfl, h⟩) (fun y => absurd ?_ y)⟩
      obtain ⟨b, b2, b3, b4⟩ := z
      exact ⟨b, b2, by omega, by rw [← (hB.2 b b2 (by omega)).1.1.1]; exact b4⟩
    · have nb : ¬ hr_bl (σ 129) a1 := fun ⟨b, b2, b3, b4⟩ => z b b2 (by omega) (by rw [(hB.2 b b2 (by omega)).1.1.1]; exact b4)
      have fin : ∀ ρ : hh_S, (∀ r : Nat, r ≠ 17 → r ≠ 18 → r ≠ 19 → ρ r = σ r) → (∀ k : Int, ρ 17 k = if k = a1 then n else σ 17 k) → (∀ i : Int, 0 ≤ i → i < n → ρ 18 (a1 * 3 + i) = hr_v3 a2 a3 a4 i / 100 ∧ ρ 19 (a1 * 3 + i) = hr_v3 a2 a3 a4 i % 100) → (∀ j : Int, (j < a1 * 3 ∨ a1 * 3 + 3 ≤ j) → ρ 18 j = σ 18 j ∧ ρ 19 j = σ 19 j) → hh_Sp 200 hm_X12_payers [hh_R 128, hh_I a1, hh_I a2, hh_I a3, hh_I a4] ρ (fun r' σ2 => n = r' ∧ hr_R σ2) := by
        intro ρ w1 w2 w3 w4
        refine md ρ n (w1 129 (by omega) (by omega) (by omega)) (fun y => absurd y nb) (fun _ => ⟨rfl, fun π p1 p2 p3 p4 => ?_⟩)
        refine h.payers (m := a1) (a := a2) (b := a3) (c := a4) (n := n) ⟨g1, g2⟩ (by omega) (fun k k1 k2 => ?_) (fun i j i1 i2 i3 => ?_) nb (fun r r1 r2 r3 r4 => by rw [p1 r r4]; exact w1 r r1 r2 r3) (fun k => by rw [p1 17 (by omega)]; exact w2 k) (fun i i1 i2 => by rw [p1 18 (by omega), p1 19 (by omega)]; exact w3 i i1 i2) (fun j hj => by rw [p1 18 (by omega), p1 19 (by omega)]; exact w4 j hj) (fun j hj => by rw [p2 j hj, w1 129 (by omega) (by omega) (by omega)]) p3 p4
        · unfold hr_v3
          rcases (show k = 0 ∨ k = 1 ∨ k = 2 by omega) with rfl | rfl | rfl
          · rw [if_pos rfl]; omega
          · rw [if_neg (by omega), if_pos rfl]; omega
          · rw [if_neg (by omega), if_neg (by omega)]; omega
        · unfold hr_v3
          rcases (show (i = 0 ∧ j = 1) ∨ (i = 0 ∧ j = 2) ∨ (i = 1 ∧ j = 2) by omega) with ⟨rfl, rfl⟩ | ⟨rfl, rfl⟩ | ⟨rfl, rfl⟩
          · rw [if_pos rfl, if_neg (by omega), if_pos rfl]; omega
          · rw [if_pos rfl, if_neg (by omega), if_neg (by omega)]; omega
          · rw [if_neg (by omega), if_pos rfl, if_neg (by omega), if_neg (by omega)]; omega
      refine ⟨fun _ => c_putPayer (by omega) (by omega) (by omega) ⟨fun y1 => ⟨fun y2 => ⟨by omega, ?_⟩, fun y2 => by omega⟩, fun y1 => c_putPayer (by omega) (by omega) (by omega) ⟨fun y2 => ⟨by omega, ?_⟩, fun y2 => c_putPayer (by omega) (by omega) (by omega) ⟨by omega, ?_⟩⟩⟩, fun y => by omega⟩
      all_goals
        refine fin _ (fun r r1 r2 r3 => by simp (disch := omega) only [hh_up_ne]) (fun k => by simp (disch := omega) only [hh_up_ne, hh_up_eq]) (fun i i1 i2 => ?_) (fun j hj => by simp (disch := omega) only [hh_up_ne, hh_up_off, and_self])
        unfold hr_v3
        rcases (show i = 0 ∨ i = 1 ∨ i = 2 by omega) with rfl | rfl | rfl
        · rw [if_pos rfl]
          simp (disch := omega) only [hh_up_ne, hh_up_off, hh_up_at, and_self]
        · first
            | omega
            | (rw [if_neg (by omega), if_pos rfl]
               simp (disch := omega) only [hh_up_ne, hh_up_off, hh_up_at, and_self])
        · first
            | omega
            | (rw [if_neg (by omega), if_neg (by omega)]
               simp (disch := omega) only [hh_up_ne, hh_up_off, hh_up_at, and_self])
  have BD : (¬ (0 ≤ a1 ∧ a1 < σ 129 6) ∨ ¬ (0 ≤ a2 ∧ a2 / 100 < σ 129 5 ∧ 1 ≤ a2 % 100) ∨ (a3 ≠ -1000000005 ∧ ¬ (0 ≤ a3 ∧ a3 / 100 < σ 129 5 ∧ 1 ≤ a3 % 100 ∧ a3 / 100 ≠ a2 / 100)) ∨ (a4 ≠ -1000000005 ∧ (a3 = -1000000005 ∨ ¬ (0 ≤ a4 ∧ a4 / 100 < σ 129 5 ∧ 1 ≤ a4 % 100 ∧ a4 / 100 ≠ a2 / 100 ∧ a4 / 100 ≠ a3 / 100)))) → hh_Sp 200 hm_X12_payers [hh_R 128, hh_I a1, hh_I a2, hh_I a3, hh_I a4] σ (fun r' σ2 => -1000000001 = r' ∧ hr_R σ2) := by
    intro hb
    refine wp_X12_payers _ _ _ _ (fun _ _ _ _ _ => ?_)
    unfold P_X12_payers B_X12_payers_30 B_X12_payers_46 B_X12_payers_59 B_X12_payers_63 B_X12_payers_64 B_X12_payers_88
    repeat' (first | with_reducible refine And.intro ?_ ?_ | with_reducible intro _ | exact h | omega | refine c_isMatter (by omega) ?_ ?_ | refine c_isShare (by omega) ?_ ?_)
  repeat' (first | with_reducible refine And.intro ?_ ?_ | with_reducible intro _ | omega | exact BD (by omega) | exact B _ (by omega) (by omega) (by omega) (by omega) (by omega) (by omega) (by omega) | refine c_X5_has (by omega) ?_ ?_ | refine c_X11_isPayer (by omega) ?_ ?_)
