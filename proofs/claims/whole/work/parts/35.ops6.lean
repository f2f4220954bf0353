def hr_cl (x : Int) : Int := if x < 0 then 0 else if 9999 < x then 9999 else x
theorem hr_cl1 (x : Int) : hh_max 0 (hh_min 9999 x) = hr_cl x := by
  unfold hh_max hh_min hr_cl
  split <;> split <;> split <;> (try split) <;> omega
set_option maxHeartbeats 2000000 in
theorem o_lay {σ : hh_S} {a1 : Int} (h : hr_R σ) : hr_op2 hm_X11_lay hm_X12_lay [hh_I a1] σ := by
  obtain ⟨hU, hP, hC, hM, hE, hD, hB, hK, hT⟩ := h.1
  have u := hU
  unfold hr_U at u
  have p1 := hP.1
  have c1 := hC.1
  have m1 := hM.1
  have e1 := hE.1
  have d1 := hD.1
  have b1 := hB.1
  have k1 := hK.1
  have t1 := hT.1
  have q1 : 0 ≤ a1 → a1 ≤ 1 → (σ 124 a1 = σ 146 a1 ∧ -1 ≤ σ 146 a1 ∧ σ 146 a1 ≤ 20) := fun z1 z2 => (h.2.2.1.at ⟨z1, z2⟩).1
  have BD : ∀ r : Int, (¬ (0 ≤ a1 ∧ a1 ≤ 1) ∧ r = -1000000001) ∨ (0 ≤ a1 ∧ a1 ≤ 1 ∧ σ 146 a1 = -1 ∧ r = -1000000011) → hh_Sp 200 hm_X12_lay [hh_R 128, hh_I a1] σ (fun r' σ2 => r = r' ∧ hr_R σ2) := by
    intro r hr
    refine wp_X12_lay _ (fun hs h1 => ?_)
    unfold P_X12_lay
    repeat' (first | with_reducible refine And.intro ?_ ?_ | with_reducible intro _ | exact h | omega | refine c_in ?_ ?_)
  refine wp_X11_lay _ (fun hs h1 => ?_)
  unfold P_X11_lay
  refine c_within (fun g1 g2 => ⟨fun _ => ⟨by omega, fun g3 => ⟨by omega, ?_⟩, fun z => BD _ (by omega)⟩, fun z => by omega⟩) (fun z => ⟨fun y => by omega, fun _ => BD _ (by omega)⟩)
  obtain ⟨n, hn⟩ : ∃ n : Int, n = hh_min (σ 124 a1) (σ 2 0) := ⟨_, rfl⟩
  rw [← hn]
  have hn1 : (n = σ 146 a1 ∧ n ≤ σ 129 4) ∨ (n = σ 129 4 ∧ n ≤ σ 146 a1) := by
    unfold hh_min at hn
    split at hn <;> omega
  have hq := (h.2.2.1.at (i := a1) (by omega)).2
  refine hh_lp3_of (fun m x1 x2 x3 τ => (x1 = a1 ∧ x2 = n ∧ 0 ≤ x3 ∧ x3 ≤ n ∧ n - x3 ≤ m) ∧ (∀ r : Nat, r ≠ 5 → τ r = σ r) ∧ (∀ k : Int, τ 5 k = if 0 ≤ k ∧ k < x3 then hr_cl (σ 145 (20 * a1 + k)) else σ 5 k)) ?_ n.toNat a1 n 0 σ ⟨by omega, fun _ _ => rfl, fun k => by rw [if_neg (by omega)]⟩
  rintro m x1 x2 x3 τ k ⟨⟨rfl, rfl, i1, i2, i3⟩, i4, i5⟩ hk
  refine ⟨fun c => ?_, fun c => ⟨by omega, hk (m - 1) _ _ _ _ (by omega) ⟨by omega, fun r hr => by rw [hh_up_ne hr]; exact i4 r hr, fun j => ?_⟩⟩⟩
  · refine wp_X12_lay _ (fun hs h1 => ?_)
    unfold P_X12_lay
    refine c_in (fun _ _ => ⟨fun _ => ⟨by omega, fun z => ⟨by omega, ?_⟩, fun z => by rw [i4 146 (by omega)] at z; omega⟩, fun z => by omega⟩) (fun z => by omega)
    rw [i4 146 (by omega), i4 129 (by omega)]
    have key : ∃ m, hh_lp3 (B_X12_lay_43 199 (fun r' σ2 => x2 = r' ∧ hr_R σ2)) m x1 x2 0 τ := by
      refine hh_lp3_of (fun m y1 y2 y3 υ => (y1 = x1 ∧ y2 = x2 ∧ 0 ≤ y3 ∧ y3 ≤ x2 ∧ x2 - y3 ≤ m) ∧ (∀ r : Nat, r ≠ 129 → υ r = τ r) ∧ (∀ k : Int, (∀ p : Int, 0 ≤ p → p < x2 → k ≠ 20 + 3 * p + 2) → υ 129 k = σ 129 k) ∧ (∀ p : Int, 0 ≤ p → p < y3 → υ 129 (20 + 3 * p + 2) = hr_cl (σ 145 (20 * x1 + p)))) ?_ x2.toNat x1 x2 0 τ ⟨by omega, fun _ _ => rfl, fun k _ => by rw [i4 129 (by omega)], fun p p1 p2 => by omega⟩
      rintro m y1 y2 y3 υ k ⟨⟨rfl, rfl, j1, j2, j3⟩, j4, j5, j6⟩ hk
      refine ⟨fun c => ⟨rfl, ?_⟩, fun c => ⟨by omega, ?_⟩⟩
      · have e (r : Nat) (z : r ≠ 5 ∧ r ≠ 129) : υ r = σ r := by rw [j4 r z.2, i4 r z.1]
        have es : ∀ k : Int, (k < 20 ∨ 44 ≤ k) → υ 129 k = σ 129 k := fun k hk => j5 k (fun p p1 p2 => by omega)
        refine h.nw (fun r r1 r2 => e r (by omega)) (e 0 (by omega)) (by rw [e 109 (by omega)]) (e 110 (by omega)) (e 122 (by omega)) (e 123 (by omega)) (e 124 (by omega)) (by rw [e 128 (by omega)]) (by rw [e 128 (by omega)]) (by rw [e 128 (by omega)]) (e 130 (by omega)) (e 133 (by omega)) (e 144 (by omega)) (e 145 (by omega)) (e 146 (by omega)) ?_
        refine ⟨hU.cg (e 1 (by omega)) (e 54 (by omega)) (fun k k1 k2 => es k (by omega)), ⟨by rw [e 2 (by omega), es 4 (by omega)]; exact p1, fun p z1 z2 => ?_⟩, hC.cg (e 6 (by omega)) (e 7 (by omega)) (fun k hk => es k (by omega)), hM.cg (e 13 (by omega)) (e 14 (by omega)) (e 15 (by omega)) (e 16 (by omega)) (e 17 (by omega)) (e 18 (by omega)) (e 19 (by omega)) (e 20 (by omega)) (e 21 (by omega)) (e 22 (by omega)) (e 23 (by omega)) (by rw [es 5 (by omega)]; exact Int.le_refl _) (fun k hk => es k (by omega)), hE.cg (fun r r1 r2 => e r (by omega)) (by rw [es 4 (by omega)]; exact Int.le_refl _) (by rw [es 6 (by omega)]; exact Int.le_refl _) (by rw [es 0 (by omega)]; exact Int.le_refl _) (by rw [es 10 (by omega)]; exact Int.le_refl _) (fun k hk => es k (by omega)) (fun b b1 b2 => es _ (by omega)), hD.cg (fun r r1 r2 => e r (by omega)) (by rw [es 4 (by omega)]; exact Int.le_refl _) (fun k hk => es k (by omega)), hB.cg hC hM (fun r r1 r2 => e r (by omega)) (by rw [es 6 (by omega)]; exact Int.le_refl _) (by rw [es 0 (by omega)]; exact Int.le_refl _) (fun k hk => es k (by omega)) (fun m' y1 y2 y3 k k1 k2 => es k (by omega)), hK.cg (e 50 (by omega)) (e 51 (by omega)) (e 52 (by omega)) (e 53 (by omega)) (by rw [es 6 (by omega)]; exact Int.le_refl _) (fun k hk => es k (by omega)), hT.cg (e 8 (by omega)) (e 9 (by omega)) (e 10 (by omega)) (e 11 (by omega)) (e 12 (by omega)) (es 5 (by omega)) (fun k hk => es k (by omega))⟩
        rw [es 4 (by omega)] at z2
        have hp := hP.2 p z1 z2
        rw [e 3 (by omega), e 4 (by omega), j4 5 (by omega), i5, j5 (20 + 3 * p) (fun p' a b => by omega), j5 (20 + 3 * p + 1) (fun p' a b => by omega)]
        by_cases z : p < y2
        · rw [if_pos (by omega), j6 p z1 (by omega)]
          have : 0 ≤ hr_cl (σ 145 (20 * y1 + p)) ∧ hr_cl (σ 145 (20 * y1 + p)) ≤ 9999 := by
            unfold hr_cl
            split
            · omega
            · split <;> omega
          omega
        · rw [if_neg (by omega), j5 (20 + 3 * p + 2) (fun p' a b => by omega)]
          exact hp
      · have cl : ∀ v : Int, v = hr_cl (σ 145 (20 * y1 + y3)) → k y1 y2 (y3 + 1) (hh_up υ 129 (20 + 3 * y3 + 2) v) := by
          intro v hv
          rw [hv]
          refine hk (m - 1) _ _ _ _ (by omega) ⟨by omega, fun r hr => by rw [hh_up_ne hr]; exact j4 r hr, fun k hk => by rw [hh_up_off (hk y3 j1 (by omega))]; exact j5 k hk, fun p p1 p2 => ?_⟩
          by_cases z : p = y3
          · rw [z, hh_up_at]
          · rw [hh_up_off (by omega)]
            exact j6 p p1 (by omega)
        have e145 : υ 145 = σ 145 := by rw [j4 145 (by omega), i4 145 (by omega)]
        rw [e145]
        refine c_more (fun z1 => c_less (fun z2 => ⟨by omega, cl _ ?_⟩) (fun z2 => ⟨by omega, cl _ ?_⟩)) (fun z1 => c_less (fun z2 => ⟨by omega, cl _ ?_⟩) (fun z2 => by omega))
        · unfold hr_cl; rw [if_neg (by omega), if_neg (by omega)]
        · unfold hr_cl; rw [if_neg (by omega), if_pos (by omega)]
        · unfold hr_cl; rw [if_pos (by omega)]
    refine c_less (fun z => ?_) (fun z => ?_)
    · rw [show σ 129 4 = x2 by omega]; exact key
    · rw [show σ 146 x1 = x2 by omega]; exact key
  · rw [hh_up_eq, i4 123 (by omega)]
    show (if j = x3 then _ else τ 5 j) = _
    have hj := hq x3 i1
    by_cases z : j = x3
    · rw [if_pos z, if_pos (by omega), hr_cl1, (hj (by omega)).1, z]
    · rw [if_neg z, i5]
      by_cases y : 0 ≤ j ∧ j < x3
      · rw [if_pos y, if_pos (by omega)]
      · rw [if_neg y, if_neg (by omega)]
set_option maxHeartbeats 2000000 in
theorem o_copy {σ : hh_S} {a1 a2 a3 a4 a5 : Int} (h : hr_R σ) : hr_op2 hm_X11_copy hm_X12_copy [hh_I a1, hh_I a2, hh_I a3, hh_I a4, hh_I a5] σ := by
  have q1 : 0 ≤ a1 → a1 ≤ 1 → (σ 124 a1 = σ 146 a1 ∧ -1 ≤ σ 146 a1 ∧ σ 146 a1 ≤ 20) := fun z1 z2 => (h.2.2.1.at ⟨z1, z2⟩).1
  have q3 : 0 ≤ a3 → a3 ≤ 1 → (σ 124 a3 = σ 146 a3 ∧ -1 ≤ σ 146 a3 ∧ σ 146 a3 ≤ 20) := fun z1 z2 => (h.2.2.1.at ⟨z1, z2⟩).1
  refine wp_X11_copy _ _ _ _ _ (fun hs h1 h2 h3 h4 h5 => ?_)
  unfold P_X11_copy
  have BD : ∀ r : Int, ((¬ (0 ≤ a1 ∧ a1 ≤ 1) ∨ ¬ (0 ≤ a3 ∧ a3 ≤ 1)) ∧ r = -1000000001) ∨ (0 ≤ a1 ∧ a1 ≤ 1 ∧ 0 ≤ a3 ∧ a3 ≤ 1 ∧ (σ 146 a1 = -1 ∨ σ 146 a3 = -1) ∧ r = -1000000011) ∨ (0 ≤ a1 ∧ a1 ≤ 1 ∧ 0 ≤ a3 ∧ a3 ≤ 1 ∧ σ 146 a1 ≠ -1 ∧ σ 146 a3 ≠ -1 ∧ (a5 < 0 ∨ a2 < 0 ∨ a4 < 0 ∨ σ 146 a1 < a2 + a5 ∨ σ 146 a3 < a4 + a5) ∧ r = -1000000013) → hh_Sp 200 hm_X12_copy [hh_R 128, hh_I a1, hh_I a2, hh_I a3, hh_I a4, hh_I a5] σ (fun r' σ2 => r = r' ∧ hr_R σ2) := by
    intro r hr
    refine wp_X12_copy _ _ _ _ _ (fun hs h1 h2 h3 h4 h5 => ?_)
    unfold P_X12_copy
    repeat' (first | with_reducible refine And.intro ?_ ?_ | with_reducible intro _ | exact h | omega | refine c_in ?_ ?_)
  have OK : 0 ≤ a1 → a1 ≤ 1 → 0 ≤ a3 → a3 ≤ 1 → 0 ≤ a2 → 0 ≤ a4 → 0 ≤ a5 → a2 + a5 ≤ σ 146 a1 → a4 + a5 ≤ σ 146 a3 → hh_Sp 200 hm_X12_copy [hh_R 128, hh_I a1, hh_I a2, hh_I a3, hh_I a4, hh_I a5] (hh_cpy σ 123 (a1 * 20 + a2) 123 (a3 * 20 + a4) a5) (fun r' σ2 => a5 = r' ∧ hr_R σ2) := by
    intro g1 g2 g3 g4 g5 g6 g7 g8 g9
    refine hh_name (P := fun ρ => hh_Sp 200 hm_X12_copy [hh_R 128, hh_I a1, hh_I a2, hh_I a3, hh_I a4, hh_I a5] ρ (fun r' σ2 => a5 = r' ∧ hr_R σ2)) (fun ρ hρ => ?_)
    have e (r : Nat) (z : r ≠ 123) : ρ r = σ r := by rw [hρ]; exact hh_cpy_ne z
    have e123 : ∀ j : Int, ρ 123 j = if a3 * 20 + a4 ≤ j ∧ j < a3 * 20 + a4 + a5 then σ 123 (a1 * 20 + a2 + (j - (a3 * 20 + a4))) else σ 123 j := fun j => by rw [hρ, hh_cpy_eq]
    refine wp_X12_copy _ _ _ _ _ (fun hs h1 h2 h3 h4 h5 => ?_)
    unfold P_X12_copy
    have m1 : ρ 146 a1 = σ 146 a1 := by rw [e 146 (by omega)]
    have m3 : ρ 146 a3 = σ 146 a3 := by rw [e 146 (by omega)]
    have lp : ∃ n, hh_lp6 (B_X12_copy_92 199 (fun r' σ2 => a5 = r' ∧ hr_R σ2)) n a1 a2 a3 a4 a5 0 ρ := by
      refine hh_lp6_of (fun n x1 x2 x3 x4 x5 x6 τ => (x1 = a1 ∧ x2 = a2 ∧ x3 = a3 ∧ x4 = a4 ∧ x5 = a5 ∧ 0 ≤ x6 ∧ x6 ≤ a5 ∧ a5 - x6 ≤ n) ∧ (∀ r : Nat, r ≠ 147 → τ r = ρ r) ∧ (∀ j : Int, 0 ≤ j → j < x6 → τ 147 j = σ 145 (20 * a1 + a2 + j))) ?_ a5.toNat a1 a2 a3 a4 a5 0 ρ ⟨by omega, fun _ _ => rfl, fun j j1 j2 => by omega⟩
      rintro n x1 x2 x3 x4 x5 x6 τ k ⟨⟨rfl, rfl, rfl, rfl, rfl, i1, i2, i3⟩, i4, i5⟩ hk
      unfold B_X12_copy_92 B_X12_copy_126
      refine ⟨fun c => ?_, fun c => ⟨by omega, hk (n - 1) _ _ _ _ _ _ _ (by omega) ⟨by omega, fun r hr => by rw [hh_up_ne hr]; exact i4 r hr, fun j j1 j2 => ?_⟩⟩⟩
      · refine hh_lp4_of (fun n y3 y4 y5 y6 υ => (y3 = x3 ∧ y4 = x4 ∧ y5 = x5 ∧ 0 ≤ y6 ∧ y6 ≤ x5 ∧ x5 - y6 ≤ n) ∧ (∀ r : Nat, r ≠ 147 → r ≠ 145 → υ r = ρ r) ∧ υ 147 = τ 147 ∧ (∀ j : Int, υ 145 j = if 20 * x3 + x4 ≤ j ∧ j < 20 * x3 + x4 + y6 then σ 145 (20 * x1 + x2 + (j - (20 * x3 + x4))) else σ 145 j)) ?_ x5.toNat x3 x4 x5 0 τ ⟨by omega, fun r r1 r2 => i4 r r1, rfl, fun j => by rw [if_neg (by omega), i4 145 (by omega), e 145 (by omega)]⟩
        rintro n y3 y4 y5 y6 υ k ⟨⟨rfl, rfl, rfl, u1, u2, u3⟩, u4, u5, u6⟩ hk
        refine ⟨fun c2 => ⟨rfl, ?_⟩, fun c2 => ⟨by omega, hk (n - 1) _ _ _ _ _ (by omega) ⟨by omega, fun r r1 r2 => by rw [hh_up_ne r2]; exact u4 r r1 r2, u5, fun j => ?_⟩⟩⟩
        · have ee (r : Nat) (z : r ≠ 123 ∧ r ≠ 147 ∧ r ≠ 145) : υ r = σ r := by rw [u4 r z.2.1 z.2.2, e r z.1]
          refine ⟨h.1.cg (fun r r1 r2 => ee r (by omega)) (fun k _ _ => by rw [ee 129 (by omega)]), h.2.1.cg (by rw [ee 0 (by omega)]) (by rw [ee 128 (by omega)]) (fun r r1 r2 => ee r (by omega)) (ee 130 (by omega)), hr_H.of (fun i w1 w2 => ?_), h.2.2.2.1.cg (by rw [ee 0 (by omega)]) (by rw [ee 128 (by omega)]) (ee 122 (by omega)) (ee 144 (by omega)), h.2.2.2.2.cg (by rw [ee 109 (by omega)]) (by rw [ee 128 (by omega)]) (ee 110 (by omega)) (ee 133 (by omega))⟩
          have q := h.2.2.1.at ⟨w1, w2⟩
          refine ⟨by rw [ee 124 (by omega), ee 146 (by omega)]; exact q.1, fun j j1 j2 => ?_⟩
          rw [ee 146 (by omega)] at j2
          have q0 := q.1
          rw [u4 123 (by omega) (by omega), e123, u6, show y6 = y5 by omega]
          by_cases z : 20 * y3 + y4 ≤ 20 * i + j ∧ 20 * i + j < 20 * y3 + y4 + y5
          · rw [if_pos (by omega), if_pos z]
            have q9 := (h.2.2.1.at (i := x1) (by omega)).2 (x2 + (20 * i + j - (20 * y3 + y4))) (by omega) (by omega)
            rw [show x1 * 20 + x2 + (i * 20 + j - (y3 * 20 + y4)) = x1 * 20 + (x2 + (20 * i + j - (20 * y3 + y4))) by omega, show 20 * x1 + x2 + (20 * i + j - (20 * y3 + y4)) = 20 * x1 + (x2 + (20 * i + j - (20 * y3 + y4))) by omega]
            exact q9
          · rw [if_neg (by omega), if_neg z]
            exact q.2 j j1 j2
        · rw [hh_up_eq, u5, i5 y6 u1 (by omega)]
          show (if j = 20 * y3 + y4 + y6 then _ else υ 145 j) = _
          by_cases z : j = 20 * y3 + y4 + y6
          · rw [if_pos z, if_pos (by omega), show 20 * x1 + x2 + (j - (20 * y3 + y4)) = 20 * x1 + x2 + y6 by omega]
          · rw [if_neg z, u6]
            by_cases y : 20 * y3 + y4 ≤ j ∧ j < 20 * y3 + y4 + y6
            · rw [if_pos y, if_pos (by omega)]
            · rw [if_neg y, if_neg (by omega)]
      · by_cases z : j = x6
        · rw [z, hh_up_at, i4 145 (by omega), e 145 (by omega)]
        · rw [hh_up_off z]
          exact i5 j j1 (by omega)
    repeat' (first | with_reducible refine And.intro ?_ ?_ | with_reducible intro _ | exact lp | omega | refine c_in ?_ ?_)
  have HP : ∀ {Q : Int → hh_S → Prop} {s f m : Int} {d : Nat}, 0 ≤ s → s ≤ 1 → (-1 ≤ σ 124 s ∧ σ 124 s ≤ 20) → (0 ≤ m → 0 ≤ f → f + m ≤ σ 124 s → Q 1 σ) → (m < 0 ∨ f < 0 ∨ σ 124 s < f + m → Q 0 σ) → hh_Sp (d + 1) hm_X11_hasPlaces [hh_R 0, hh_I s, hh_I f, hh_I m] σ Q := by
    intro Q s f m d s1 s2 s3 ht hf
    refine wp_X11_hasPlaces _ _ _ (fun _ _ _ _ => ⟨fun c => hf (by omega), fun c => ⟨fun c2 => hf (by omega), fun c2 => ⟨by omega, fun c3 => hf (by omega), fun c3 => ⟨by omega, fun c4 => hf (by omega), fun c4 => ht (by omega) (by omega) (by omega)⟩⟩⟩⟩)
  repeat' (first | with_reducible refine And.intro ?_ ?_ | with_reducible intro _ | omega | exact BD _ (by omega) | exact OK (by omega) (by omega) (by omega) (by omega) (by omega) (by omega) (by omega) (by omega) (by omega) | refine c_within ?_ ?_ | refine HP (by omega) (by omega) (by omega) ?_ ?_)
  all_goals
    rename_i j _ _
    have q9 := (h.2.2.1.at (i := a1) (by omega)).2 (a2 + j) (by omega) (by omega)
    rw [show a1 * 20 + a2 + j = a1 * 20 + (a2 + j) by omega, q9.1]
    omega
