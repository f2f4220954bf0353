def hr_fv (s : Int → Int) (m t o : Int) : Int := (s (50 + 20 * m + 4 + t) * s (50 + 20 * o + 4 + 5)) / s (50 + 20 * o + 4 + t)
abbrev hr_fc (s : Int → Int) (m t o : Int) : Prop := (o ≠ m ∧ s (50 + 20 * o) = s (50 + 20 * m)) ∧ s (50 + 20 * o + 4) = 5 ∧ 0 < s (50 + 20 * o + 4 + t)
def hr_ft (s : Int → Int) (m w t : Int) : Nat → Int
  | 0 => -1
  | n + 1 => if hr_fc s m t n then (if hr_ft s m w t n < 0 ∨ (w = 0 ∧ hr_fv s m t n < hr_ft s m w t n) ∨ (w ≠ 0 ∧ hr_ft s m w t n < hr_fv s m t n) then hr_fv s m t n else hr_ft s m w t n) else hr_ft s m w t n
def hr_fe (b : Int) : Int := if b < 0 then -1000000005 else hh_min 99999999 b
theorem hr_mulm {a b : Int} (ha : 0 ≤ a ∧ a ≤ 30000000) (hb : 0 ≤ b ∧ b ≤ 30000000) : 0 ≤ a * b ∧ a * b ≤ 900000000000000 := by
  have h1 : 0 ≤ a * b := Int.mul_nonneg ha.1 hb.1
  have h2 : a * b ≤ 30000000 * 30000000 := Int.mul_le_mul ha.2 hb.2 hb.1 (by decide)
  omega
theorem hr_fv_b {s : Int → Int} {m t o : Int} (h1 : 0 ≤ s (50 + 20 * m + 4 + t) ∧ s (50 + 20 * m + 4 + t) ≤ 30000000) (h2 : 0 ≤ s (50 + 20 * o + 4 + 5) ∧ s (50 + 20 * o + 4 + 5) ≤ 30000000) (h3 : 0 < s (50 + 20 * o + 4 + t)) : 0 ≤ hr_fv s m t o ∧ hr_fv s m t o ≤ 900000000000000 := by
  have b := hr_mulm h1 h2
  unfold hr_fv
  refine ⟨Int.ediv_nonneg b.1 (by omega), ?_⟩
  exact Int.le_trans (Int.ediv_le_self _ b.1) b.2
theorem hr_ft_b {σ : hh_S} {s : Int → Int} {m w t : Int} (hM : hr_M σ s) (h1 : 0 ≤ s (50 + 20 * m + 4 + t) ∧ s (50 + 20 * m + 4 + t) ≤ 30000000) (ht : 1 ≤ t ∧ t ≤ 4) : ∀ n : Nat, (n : Int) ≤ s 6 → -1 ≤ hr_ft s m w t n ∧ hr_ft s m w t n ≤ 900000000000000
  | 0, _ => by unfold hr_ft; omega
  | n + 1, hn => by
    have b := hr_ft_b hM h1 ht (w := w) n (by omega)
    unfold hr_ft
    by_cases z : hr_fc s m t n
    · obtain ⟨⟨y1, y2, y3, y4, y5, y6⟩, y7, y8, y9, y10, y11, y12⟩ := hM.2 n (by omega) (by omega)
      have h9 := y9 5 (by omega) (by omega)
      have h10 := y10 (by rw [z.2.1]; omega)
      rw [z.2.1] at h10
      have v := hr_fv_b (o := n) h1 ⟨h10, h9.2.2⟩ z.2.2
      rw [if_pos z]
      split <;> omega
    · rw [if_neg z]
      exact b
set_option maxHeartbeats 2000000 in
theorem o_foretold {σ : hh_S} {a1 a2 : Int} (h : hr_R σ) : hr_op2 hm_X11_foretold hm_X12_foretold [hh_I a1, hh_I a2] σ := by
  obtain ⟨hU, hP, hC, hM, hE, hD, hB, hK, hT⟩ := h.1
  have u := hU
  unfold hr_U at u
  have p1 := hP.1
  have c1 := hC.1
  have m1 := hM.1
  have e1 := hE.1
  have d1 := hD.1
  have b1 := hB.1
  have k1 := hK.1
  have t1 := hT.1
  obtain ⟨s, hs⟩ : ∃ s : Int → Int, σ 129 = s := ⟨_, rfl⟩
  rw [hs] at hM m1
  have md : ∀ r : Int, (¬ ((0 ≤ a1 ∧ a1 < s 6) ∧ 0 ≤ a2 ∧ a2 ≤ 1) → r = -1000000001) → (((0 ≤ a1 ∧ a1 < s 6) ∧ 0 ≤ a2 ∧ a2 ≤ 1) → (s (50 + 20 * a1 + 4) = 0 ∨ s (50 + 20 * a1 + 4) = 5) → r = -1000000002) → (((0 ≤ a1 ∧ a1 < s 6) ∧ 0 ≤ a2 ∧ a2 ≤ 1) → ¬ (s (50 + 20 * a1 + 4) = 0 ∨ s (50 + 20 * a1 + 4) = 5) → r = hr_fe (hr_ft s a1 a2 (s (50 + 20 * a1 + 4)) (s 6).toNat)) → hh_Sp 200 hm_X12_foretold [hh_R 128, hh_I a1, hh_I a2] σ (fun r' σ2 => r = r' ∧ hr_R σ2) := by
    intro r b1 b2 b3
    refine wp_X12_foretold _ _ (fun _ _ _ => ?_)
    unfold P_X12_foretold
    refine c_isMatter (by rw [hs]; omega) (fun y1 y2 => ⟨fun z => by omega, fun _ => ?_⟩) (fun z => ⟨fun _ => ⟨b1 (by rw [hs] at z; omega), h⟩, fun y => by omega⟩)
    rw [hs] at y2
    refine c_in (fun y3 y4 => ⟨fun _ => ?_, fun z => by omega⟩) (fun z => ⟨fun y => by omega, fun _ => ⟨b1 (by omega), h⟩⟩)
    rw [hs]
    refine ⟨by omega, fun z => ⟨b2 (by omega) (Or.inl z), h⟩, fun z => ⟨fun z2 => ?_, fun z2 => ⟨b2 (by omega) (Or.inr z2), h⟩⟩⟩
    have b4 := b3 (by omega) (by omega)
    obtain ⟨⟨v1, v2, v3, v4, v5, v6⟩, v7, v8, v9, v10, v11, v12⟩ := hM.2 a1 y1 y2
    obtain ⟨t, ht⟩ : ∃ t : Int, t = s (50 + 20 * a1 + 4) := ⟨_, rfl⟩
    rw [← ht] at b4 v6 v10 z z2 ⊢
    have va := v9 t (by omega) (by omega)
    have vb := v10 (by omega)
    have FB := hr_ft_b hM (w := a2) ⟨vb, va.2.2⟩ (by omega)
    refine hh_lp6_of (fun n x1 x2 x3 x4 x5 x7 τ => τ = σ ∧ (x1 = a1 ∧ x2 = a2 ∧ x3 = 50 + 20 * a1 ∧ x4 = t) ∧ ∃ o : Nat, x7 = o ∧ (o : Int) ≤ s 6 ∧ s 6 - o ≤ n ∧ x5 = hr_ft s a1 a2 t o) ?_ 10 a1 a2 (50 + 20 * a1) t (-1) 0 σ ⟨rfl, ⟨rfl, rfl, rfl, rfl⟩, 0, rfl, by omega, by omega, rfl⟩
    rintro n x1 x2 x3 x4 x5 x7 τ kk ⟨rfl, ⟨rfl, rfl, rfl, rfl⟩, o, rfl, f1, f2, rfl⟩ hk
    have fb := FB o f1
    unfold B_X12_foretold_60
    rw [hs]
    refine ⟨fun c => ?_, fun c => ⟨by omega, ?_⟩⟩
    · unfold B_X12_foretold_221
      have eo : o = (s 6).toNat := by omega
      rw [← eo] at b4
      unfold hr_fe at b4
      generalize hr_ft s x1 x2 x4 o = X at b4 fb ⊢
      unfold hh_cmp
      refine ⟨fun c2 => ⟨fun c3 => ?_, fun c3 => ⟨?_, h⟩⟩, fun c2 => ⟨?_, h⟩⟩
      · have q1 : 0 ≤ X := by
          by_cases q : 0 ≤ X
          · exact q
          · rw [if_neg (by omega), if_neg (by omega)] at c2; omega
        have q2 : X ≤ 99999999 := by
          by_cases q : X ≤ 99999999
          · exact q
          · rw [if_pos (by omega)] at c3; omega
        refine ⟨by omega, ?_, h⟩
        rw [b4, if_neg (by omega)]
        unfold hh_min
        split <;> omega
      · have q1 : 99999999 < X := by
          by_cases q : 99999999 < X
          · exact q
          · rw [if_neg q] at c3
            split at c3 <;> omega
        rw [b4, if_neg (by omega)]
        unfold hh_min
        split <;> omega
      · have q1 : X < 0 := by
          by_cases q : X < 0
          · exact q
          · split at c2
            · omega
            · split at c2 <;> omega
        rw [b4, if_pos q1]
    obtain ⟨⟨w1, w2, w3, w4, w5, w6⟩, w7, w8, w9, w10, w11, w12⟩ := hM.2 o (by omega) (by omega)
    have NX : ∀ y : Int, y = hr_ft s x1 x2 x4 (o + 1) → B_X12_foretold_215 199 (fun r' σ2 => r = r' ∧ hr_R σ2) kk x1 x2 (50 + 20 * x1) x4 y o τ := by
      intro y hy
      unfold B_X12_foretold_215
      exact ⟨by omega, hk (n - 1) _ _ _ _ _ _ _ (by omega) ⟨rfl, ⟨rfl, rfl, rfl, rfl⟩, o + 1, by omega, by omega, by omega, hy⟩⟩
    have NO : ¬ hr_fc s x1 x4 o → B_X12_foretold_215 199 (fun r' σ2 => r = r' ∧ hr_R σ2) kk x1 x2 (50 + 20 * x1) x4 (hr_ft s x1 x2 x4 o) o τ := fun z => NX _ (by show _ = if _ then _ else _; rw [if_neg z])
    refine ⟨fun z3 => NO (fun y => y.1.1 z3), fun z3 => ⟨by omega, fun z4 => NO (fun y => z4 y.1.2), fun z4 => ⟨by omega, fun z5 => NO (fun y => z5 y.2.1), fun z5 => ⟨by omega, fun z6 => ?_, fun z6 => NO (fun y => z6 y.2.2)⟩⟩⟩⟩
    have fc : hr_fc s x1 x4 o := ⟨⟨z3, z4⟩, z5, z6⟩
    have h9 := w9 5 (by omega) (by omega)
    have h10 := w10 (by omega)
    rw [z5] at h10
    have pm := hr_mulm ⟨vb, va.2.2⟩ ⟨h10, h9.2.2⟩
    have fvb := hr_fv_b (s := s) (m := x1) (t := x4) (o := o) ⟨vb, va.2.2⟩ ⟨h10, h9.2.2⟩ z6
    refine ⟨by omega, ?_⟩
    have YES : (hr_ft s x1 x2 x4 o < 0 ∨ (x2 = 0 ∧ hr_fv s x1 x4 o < hr_ft s x1 x2 x4 o) ∨ (x2 ≠ 0 ∧ hr_ft s x1 x2 x4 o < hr_fv s x1 x4 o)) → B_X12_foretold_206 199 (fun r' σ2 => r = r' ∧ hr_R σ2) kk x1 x2 (50 + 20 * x1) x4 o (hr_fv s x1 x4 o) τ := by
      intro y
      unfold B_X12_foretold_206 B_X12_foretold_213
      refine NX _ ?_
      show _ = if _ then _ else _
      rw [if_pos fc, if_pos y]
    have NOT : ¬ (hr_ft s x1 x2 x4 o < 0 ∨ (x2 = 0 ∧ hr_fv s x1 x4 o < hr_ft s x1 x2 x4 o) ∨ (x2 ≠ 0 ∧ hr_ft s x1 x2 x4 o < hr_fv s x1 x4 o)) → B_X12_foretold_211 199 (fun r' σ2 => r = r' ∧ hr_R σ2) kk x1 x2 (50 + 20 * x1) x4 (hr_ft s x1 x2 x4 o) o τ := by
      intro y
      unfold B_X12_foretold_211 B_X12_foretold_213
      refine NX _ ?_
      show _ = if _ then _ else _
      rw [if_pos fc, if_neg y]
    rw [show s (50 + 20 * x1 + 4 + x4) * s (50 + 20 * (o : Int) + 4 + 5) / s (50 + 20 * (o : Int) + 4 + x4) = hr_fv s x1 x4 o from rfl]
    generalize hr_fv s x1 x4 o = V at YES NOT fvb ⊢
    generalize hr_ft s x1 x2 x4 o = X at YES NOT fb ⊢
    unfold hh_cmp
    refine ⟨fun c1 => YES (Or.inl ?_), fun c1 => ?_⟩
    · split at c1
      · omega
      · split at c1 <;> omega
    have c1' : 0 ≤ X := by
      by_cases q : 0 ≤ X
      · exact q
      · rw [if_neg (by omega), if_neg (by omega)] at c1; omega
    refine ⟨fun c2 => ⟨fun c3 => NOT ?_, fun c3 => YES (Or.inr (Or.inr ⟨c2, ?_⟩))⟩, fun c2 => ⟨fun c3 => NOT ?_, fun c3 => YES (Or.inr (Or.inl ⟨c2, ?_⟩))⟩⟩
    · split at c3 <;> omega
    · split at c3
      · omega
      · split at c3 <;> omega
    · split at c3
      · omega
      · split at c3 <;> omega
    · split at c3
      · omega
      · split at c3 <;> omega
  refine wp_X11_foretold _ _ (fun _ _ _ => ?_)
  unfold P_X11_foretold
  refine c_X5_has (by omega) (fun g1 g2 => ⟨fun z => by omega, fun _ => ?_⟩) (fun z => ⟨fun _ => md _ (fun _ => rfl) (fun y => by omega) (fun y => by omega), fun y => by omega⟩)
  refine c_within (fun g3 g4 => ⟨fun _ => ⟨by omega, ?_⟩, fun z => by omega⟩) (fun z => ⟨fun y => by omega, fun _ => md _ (fun _ => rfl) (fun y => by omega) (fun y => by omega)⟩)
  obtain ⟨⟨v1, v2, v3, v4, v5, v6⟩, v7, v8, v9, v10, v11, v12⟩ := hM.2 a1 g1 (by omega)
  rw [v6.1]
  refine ⟨fun z => md _ (fun y => by omega) (fun _ _ => rfl) (fun _ y => absurd (Or.inl z) y), fun z => ⟨fun z2 => ?_, fun z2 => md _ (fun y => by omega) (fun _ _ => rfl) (fun _ y => absurd (Or.inr z2) y)⟩⟩
  have MD := md (hr_fe (hr_ft s a1 a2 (s (50 + 20 * a1 + 4)) (s 6).toNat)) (fun y => by omega) (fun _ y => by omega) (fun _ _ => rfl)
  clear md
  obtain ⟨t, ht⟩ : ∃ t : Int, t = s (50 + 20 * a1 + 4) := ⟨_, rfl⟩
  rw [← ht] at MD v6 v10 z z2 ⊢
  have va := v9 t (by omega) (by omega)
  have vb := v10 (by omega)
  have FB := hr_ft_b hM (w := a2) ⟨vb, va.2.2⟩ (by omega)
  refine hh_lp5_of (fun n x1 x2 x4 x5 x6 τ => τ = σ ∧ (x1 = a1 ∧ x2 = a2 ∧ x4 = t) ∧ ∃ o : Nat, x6 = o ∧ (o : Int) ≤ s 6 ∧ s 6 - o ≤ n ∧ x5 = hr_fe (hr_ft s a1 a2 t o)) ?_ 10 a1 a2 t (-1000000005) 0 σ ⟨rfl, ⟨rfl, rfl, rfl⟩, 0, rfl, by omega, by omega, rfl⟩
  rintro n x1 x2 x4 x5 x6 τ kk ⟨rfl, ⟨rfl, rfl, rfl⟩, o, rfl, f1, f2, rfl⟩ hk
  have fb := FB o f1
  unfold B_X11_foretold_57
  rw [m1.1]
  refine ⟨fun c => by rw [show o = (s 6).toNat by omega]; exact MD, fun c => ?_⟩
  obtain ⟨⟨w1, w2, w3, w4, w5, w6⟩, w7, w8, w9, w10, w11, w12⟩ := hM.2 o (by omega) (by omega)
  have NX : ∀ y : Int, y = hr_fe (hr_ft s x1 x2 x4 (o + 1)) → B_X11_foretold_198 199 (fun r σ1 => hh_Sp 200 hm_X12_foretold (hh_R 128 :: [hh_I x1, hh_I x2]) σ1 (fun r' σ2 => r = r' ∧ hr_R σ2)) kk x1 x2 x4 y o τ := by
    intro y hy
    unfold B_X11_foretold_198
    exact ⟨by omega, hk (n - 1) _ _ _ _ _ _ (by omega) ⟨rfl, ⟨rfl, rfl, rfl⟩, o + 1, by omega, by omega, by omega, hy⟩⟩
  have NO : ¬ hr_fc s x1 x4 o → B_X11_foretold_198 199 (fun r σ1 => hh_Sp 200 hm_X12_foretold (hh_R 128 :: [hh_I x1, hh_I x2]) σ1 (fun r' σ2 => r = r' ∧ hr_R σ2)) kk x1 x2 x4 (hr_fe (hr_ft s x1 x2 x4 o)) o τ := fun z => NX _ (by show _ = hr_fe (if _ then _ else _); rw [if_neg z])
  have k4 := w9 x4 (by omega) (by omega)
  rw [w1.1, v1.1, w6.1]
  refine ⟨fun z3 => NO (fun y => y.1.1 z3), fun z3 => ⟨by omega, fun z4 => NO (fun y => z4 y.1.2), fun z4 => ⟨by omega, fun z5 => ⟨by omega, ?_⟩, fun z5 => NO (fun y => z5 y.2.1)⟩⟩⟩
  have h9 := w9 5 (by omega) (by omega)
  have h10 := w10 (by omega)
  rw [z5] at h10
  have mx : ∀ x : Int, 0 ≤ x → hh_max 0 x = x := fun x hx => by unfold hh_max; split <;> omega
  rw [va.1, mx _ vb, h9.1, mx _ h10, k4.1]
  have k5 : (hh_max 0 (s (50 + 20 * (o : Int) + 4 + x4)) ≤ 0) ↔ ¬ 0 < s (50 + 20 * (o : Int) + 4 + x4) := by
    unfold hh_max
    split <;> omega
  refine ⟨fun z6 => NO (fun y => (k5.1 z6) y.2.2), fun z6 => ?_⟩
  have z6' : 0 < s (50 + 20 * (o : Int) + 4 + x4) := Decidable.byContradiction (fun y => z6 (k5.2 y))
  rw [mx _ (by omega)]
  have fc : hr_fc s x1 x4 o := ⟨⟨z3, z4⟩, z5, z6'⟩
  have pm := hr_mulm ⟨vb, va.2.2⟩ ⟨h10, h9.2.2⟩
  have fvb := hr_fv_b (s := s) (m := x1) (t := x4) (o := o) ⟨vb, va.2.2⟩ ⟨h10, h9.2.2⟩ z6'
  have EQ : ∀ y : Int, (y = hr_fe (if hr_ft s x1 x2 x4 o < 0 ∨ (x2 = 0 ∧ hr_fv s x1 x4 o < hr_ft s x1 x2 x4 o) ∨ (x2 ≠ 0 ∧ hr_ft s x1 x2 x4 o < hr_fv s x1 x4 o) then hr_fv s x1 x4 o else hr_ft s x1 x2 x4 o)) → B_X11_foretold_198 199 (fun r σ1 => hh_Sp 200 hm_X12_foretold (hh_R 128 :: [hh_I x1, hh_I x2]) σ1 (fun r' σ2 => r = r' ∧ hr_R σ2)) kk x1 x2 x4 y o τ := by
    intro y hy
    refine NX y ?_
    rw [hy]
    show _ = hr_fe (if _ then _ else _)
    rw [if_pos fc]
  rw [show s (50 + 20 * x1 + 4 + x4) * s (50 + 20 * (o : Int) + 4 + 5) / s (50 + 20 * (o : Int) + 4 + x4) = hr_fv s x1 x4 o from rfl]
  have CV0 : 0 ≤ hh_min 99999999 (hr_fv s x1 x4 o) ∧ hh_min 99999999 (hr_fv s x1 x4 o) ≤ 99999999 := by
    unfold hh_min
    split <;> omega
  refine ⟨by omega, ?_⟩
  unfold B_X11_foretold_194
  generalize hr_fv s x1 x4 o = V at EQ fvb ⊢
  generalize hr_ft s x1 x2 x4 o = X at EQ fb ⊢
  have CASES : (X < 0 ∧ hr_fe X = -1000000005) ∨ (0 ≤ X ∧ X ≤ 99999999 ∧ hr_fe X = X) ∨ (99999999 < X ∧ hr_fe X = 99999999) := by
    unfold hr_fe hh_min
    repeat' split
    all_goals omega
  have CV : (V ≤ 99999999 ∧ hh_min 99999999 V = V ∧ hr_fe V = V) ∨ (99999999 < V ∧ hh_min 99999999 V = 99999999 ∧ hr_fe V = 99999999) := by
    unfold hr_fe hh_min
    repeat' split
    all_goals omega
  refine ⟨fun c1 => EQ _ ?_, fun c1 => ⟨fun c2 => ⟨fun c3 => EQ _ ?_, fun c3 => EQ _ ?_⟩, fun c2 => ⟨fun c3 => EQ _ ?_, fun c3 => EQ _ ?_⟩⟩⟩ <;> (split <;> omega)
