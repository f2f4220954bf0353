def hr_wr (s : Int → Int) (p d k q : Int) : Int := if q = 0 then hr_wa s p d k (s 7).toNat else if q = 1 then hh_max 0 (hr_wa s p d k (s 7).toNat - s 1) else if q = 2 then hr_t2 (fun i => hr_we s p d k i (s 7).toNat) 240 else if hr_dn s p d k (s 8).toNat = 0 then 0 else hr_t3 (fun i => hr_we s p d k i (s 7).toNat) (fun i => hr_de s p d k i (s 8).toNat) 240
set_option maxHeartbeats 2000000 in
theorem c_X12_written {d : Nat} {σ : hh_S} {a1 a2 a3 a4 : Int} {s : Int → Int} {Q : Int → hh_S → Prop} (hs : σ 129 = s) (hE : hr_E σ s) (hD : hr_D σ s) (p1 : 0 ≤ s 4 ∧ s 4 ≤ 8) (u1 : 0 ≤ s 1 ∧ s 1 ≤ 240) (ha : (0 ≤ a1 ∧ a1 < s 4) ∧ (0 ≤ a2 ∧ a2 ≤ s 0) ∧ (0 ≤ a3 ∧ a3 ≤ s 0) ∧ 0 ≤ a4 ∧ a4 ≤ 3) (hq : ∀ ρ : hh_S, (∀ r : Nat, r ≠ 131 → r ≠ 132 → ρ r = σ r) → Q (hr_wr s a1 a2 a3 a4) ρ) : hh_Sp (d + 3) hm_X12_written [hh_R 128, hh_I a1, hh_I a2, hh_I a3, hh_I a4] σ Q := by
  have e1 := hE.1
  have d1 := hD.1
  have bWA := hr_wa_b hE a1 a2 a3 (s 7).toNat (by omega)
  have bDN := hr_dn_b s a1 a2 a3 (s 8).toNat
  have L4 : ∀ τ : hh_S, (∀ r : Nat, r ≠ 131 → r ≠ 132 → τ r = σ r) → (∀ i : Int, 0 ≤ i → i < 240 → τ 131 i = hr_we s a1 a2 a3 i (s 7).toNat) → (∀ i : Int, 0 ≤ i → i < 240 → τ 132 i = hr_de s a1 a2 a3 i (s 8).toNat) → B_X12_written_321 (d + 2) Q a4 (hr_wa s a1 a2 a3 (s 7).toNat) (hr_dn s a1 a2 a3 (s 8).toNat) τ := by
    intro τ t1 t2 t3
    obtain ⟨f, hf⟩ : ∃ f : Int → Int, f = fun i => hr_we s a1 a2 a3 i (s 7).toNat := ⟨_, rfl⟩
    obtain ⟨g, hg⟩ : ∃ g : Int → Int, g = fun i => hr_de s a1 a2 a3 i (s 8).toNat := ⟨_, rfl⟩
    have t2' : ∀ i : Int, 0 ≤ i → i < 240 → τ 131 i = f i := fun i i1 i2 => by rw [hf]; exact t2 i i1 i2
    have t3' : ∀ i : Int, 0 ≤ i → i < 240 → τ 132 i = g i := fun i i1 i2 => by rw [hg]; exact t3 i i1 i2
    have hq2 := hq τ t1
    unfold hr_wr at hq2
    rw [← hf, ← hg] at hq2
    unfold B_X12_written_321
    obtain ⟨D, hD⟩ : ∃ D : Int, D = hr_dn s a1 a2 a3 (s 8).toNat := ⟨_, rfl⟩
    obtain ⟨W, hW⟩ : ∃ W : Int, W = hr_wa s a1 a2 a3 (s 7).toNat := ⟨_, rfl⟩
    rw [← hD] at bDN hq2 ⊢
    rw [← hW] at bWA hq2 ⊢
    refine hh_lp6_of (fun n x4 x5 x6 x7 x8 x9 τ' => τ' = τ ∧ (x4 = a4 ∧ x5 = W ∧ x6 = D) ∧ ∃ j : Nat, x9 = j ∧ j ≤ 240 ∧ 240 - j ≤ n ∧ x7 = hr_t2 f j ∧ x8 = if D = 0 then 0 else hr_t3 f g j) ?_ 240 a4 W D 0 0 0 τ ⟨rfl, ⟨rfl, rfl, rfl⟩, 0, rfl, by omega, by omega, rfl, by split <;> rfl⟩
    rintro n x4 x5 x6 x7 x8 x9 τ' k ⟨rfl, ⟨rfl, rfl, rfl⟩, j, rfl, j1, j2, rfl, rfl⟩ hk
    have b2 := hr_t2_b f j
    have b3 := hr_t3_b f g j
    have bx : 0 ≤ (if x6 = 0 then 0 else hr_t3 f g j) ∧ (if x6 = 0 then 0 else hr_t3 f g j) ≤ j := by split <;> omega
    unfold B_X12_written_330
    refine ⟨fun c => ?_, fun c => ⟨by omega, ?_⟩⟩
    · unfold B_X12_written_400
      rw [t1 129 (by omega) (by omega), hs]
      have ej : j = 240 := by omega
      rw [ej]
      refine ⟨fun z0 => ?_, fun z0 => ?_⟩
      · rw [if_neg z0] at hq2
        refine ⟨fun z1 => ?_, fun z1 => ⟨by omega, c_more1 ?_⟩⟩
        · rw [if_neg z1] at hq2
          refine ⟨fun z2 => ?_, fun z2 => ?_⟩
          · rw [if_neg z2] at hq2
            exact hq2
          · rw [if_pos z2] at hq2
            exact hq2
        · rw [if_pos z1] at hq2
          exact hq2
      · rw [if_pos z0] at hq2
        exact hq2
    · have e2 : ∀ y : Int, (y = if 1 < f j then 1 else 0) → B_X12_written_356 (d + 2) Q k x4 x5 x6 (if x6 = 0 then 0 else hr_t3 f g j) j (hr_t2 f j) y τ' := by
        intro y hy
        have by' : 0 ≤ y ∧ y ≤ 1 := by rw [hy]; split <;> omega
        have e3 : ∀ z : Int, (z = if x6 = 0 then 0 else if 0 < f j ∧ g j = 0 then 1 else 0) → B_X12_written_391 (d + 2) Q k x4 x5 x6 (hr_t2 f j + y) j (if x6 = 0 then 0 else hr_t3 f g j) z τ' := by
          intro z hz
          have bz' : 0 ≤ z ∧ z ≤ 1 := by rw [hz]; split <;> (try split) <;> omega
          unfold B_X12_written_391
          refine ⟨by omega, hk (n - 1) _ _ _ _ _ _ _ (by omega) ⟨rfl, ⟨rfl, rfl, rfl⟩, j + 1, by omega, by omega, by omega, ?_, ?_⟩⟩
          · rw [hy]; rfl
          · rw [hz]
            by_cases w : x6 = 0
            · rw [if_pos w, if_pos w, if_pos w]; rfl
            · rw [if_neg w, if_neg w, if_neg w]; rfl
        unfold B_X12_written_356 B_X12_written_390
        rw [t2' j (by omega) (by omega), t3' j (by omega) (by omega)]
        refine ⟨by omega, fun z => e3 _ ?_, fun z => ⟨by omega, fun z1 => e3 _ ?_, fun z1 => ⟨by omega, fun z2 => e3 _ ?_, fun z2 => e3 _ ?_⟩⟩⟩
        · rw [if_pos (by omega)]
        · rw [if_neg (by omega), if_neg (by omega)]
        · rw [if_neg (by omega), if_neg (fun y => z2 y.2)]
        · rw [if_neg (by omega), if_pos ⟨by omega, z2⟩]
      rw [t2' j (by omega) (by omega)]
      exact ⟨fun z => e2 0 (by rw [if_neg (by omega)]), fun z => e2 1 (by rw [if_pos (by omega)])⟩
  have L3 : ∀ τ : hh_S, (∀ r : Nat, r ≠ 131 → r ≠ 132 → τ r = σ r) → (∀ i : Int, 0 ≤ i → i < 240 → τ 131 i = hr_we s a1 a2 a3 i (s 7).toNat) → (∀ i : Int, 0 ≤ i → i < 240 → τ 132 i = 0) → B_X12_written_200 (d + 2) Q a1 a2 a3 a4 (hr_wa s a1 a2 a3 (s 7).toNat) τ := by
    intro τ0 t1 t2 t3
    unfold B_X12_written_200
    refine hh_lp7_of (fun n x1 x2 x3 x4 x5 x6 x7 τ => (x1 = a1 ∧ x2 = a2 ∧ x3 = a3 ∧ x4 = a4 ∧ x5 = hr_wa s a1 a2 a3 (s 7).toNat) ∧ ∃ e : Nat, (x7 = e ∧ (e : Int) ≤ s 8 ∧ s 8 - e ≤ n ∧ x6 = hr_dn s a1 a2 a3 e) ∧ (∀ r : Nat, r ≠ 131 → r ≠ 132 → τ r = σ r) ∧ (∀ i : Int, 0 ≤ i → i < 240 → τ 131 i = hr_we s a1 a2 a3 i (s 7).toNat) ∧ ∀ i : Int, 0 ≤ i → i < 240 → τ 132 i = hr_de s a1 a2 a3 i e) ?_ 60 a1 a2 a3 a4 _ 0 0 τ0 ⟨⟨rfl, rfl, rfl, rfl, rfl⟩, 0, ⟨rfl, by omega, by omega, rfl⟩, t1, t2, t3⟩
    rintro n x1 x2 x3 x4 x5 x6 x7 τ kk ⟨⟨rfl, rfl, rfl, rfl, rfl⟩, e, ⟨rfl, f1, f2, rfl⟩, g1, g0, g2⟩ hk
    have bA := hr_dn_b s x1 x2 x3 e
    have NX : ∀ τ' : hh_S, ∀ y6 : Int, (e : Int) < s 8 → (∀ r : Nat, r ≠ 131 → r ≠ 132 → τ' r = σ r) → (∀ i : Int, 0 ≤ i → i < 240 → τ' 131 i = hr_we s x1 x2 x3 i (s 7).toNat) → y6 = hr_dn s x1 x2 x3 (e + 1) → (∀ i : Int, 0 ≤ i → i < 240 → τ' 132 i = hr_de s x1 x2 x3 i (e + 1)) → B_X12_written_315 (d + 2) Q kk x1 x2 x3 x4 (hr_wa s x1 x2 x3 (s 7).toNat) y6 e τ' := by
      intro τ' y6 l r1 r0 r2 r3
      unfold B_X12_written_315
      exact ⟨by omega, hk (n - 1) _ _ _ _ _ _ _ _ (by omega) ⟨⟨rfl, rfl, rfl, rfl, rfl⟩, e + 1, ⟨by omega, by omega, by omega, r2⟩, r1, r0, r3⟩⟩
    have NO : (e : Int) < s 8 → ¬ hr_dor s x1 x2 x3 e → B_X12_written_315 (d + 2) Q kk x1 x2 x3 x4 (hr_wa s x1 x2 x3 (s 7).toNat) (hr_dn s x1 x2 x3 e) e τ := by
      intro l z
      refine NX τ _ l g1 g0 ?_ (fun i i1 i2 => ?_)
      · show _ = hr_dn s x1 x2 x3 e + _
        rw [if_neg z, Int.add_zero]
      · show _ = hr_de s x1 x2 x3 i e + _
        rw [if_neg (fun y => z y.1), Int.add_zero]
        exact g2 i i1 i2
    unfold B_X12_written_206
    rw [g1 129 (by omega) (by omega), hs]
    refine ⟨fun c => ?_, fun c => ⟨by omega, ?_⟩⟩
    · have ee : e = (s 8).toNat := by omega
      rw [ee]
      exact L4 τ g1 g0 (fun i i1 i2 => by rw [← ee]; exact g2 i i1 i2)
    have he := hD.2 e (by omega) (by omega)
    obtain ⟨v1, v2, v3, v4, v5⟩ := he
    refine ⟨fun z => NO (by omega) (fun y => z y.1), fun z1 => ⟨by omega, fun z => NO (by omega) (fun y => z y.2.1), fun z2 => ⟨by omega, fun z3 => ⟨by omega, ?_⟩, fun z => NO (by omega) (fun y => z y.2.2)⟩⟩⟩
    have hent : hr_dor s x1 x2 x3 e := ⟨z1, z2, z3⟩
    refine hh_lp9_of (fun m y1 y2 y3 y4 y5 y6 y7 y8 y9 τ' => (y1 = x1 ∧ y2 = x2 ∧ y3 = x3 ∧ y4 = x4 ∧ y5 = hr_wa s x1 x2 x3 (s 7).toNat ∧ y6 = hr_dn s x1 x2 x3 e + 1 ∧ y7 = e ∧ y8 = 1330 + 5 * (e : Int)) ∧ (0 ≤ y9 ∧ y9 ≤ s (1330 + 5 * (e : Int) + 3) ∧ s (1330 + 5 * (e : Int) + 3) - y9 ≤ m) ∧ (∀ r : Nat, r ≠ 131 → r ≠ 132 → τ' r = σ r) ∧ (∀ i : Int, 0 ≤ i → i < 240 → τ' 131 i = hr_we s x1 x2 x3 i (s 7).toNat) ∧ ∀ i : Int, 0 ≤ i → i < 240 → τ' 132 i = hr_de s x1 x2 x3 i e + if s (1330 + 5 * (e : Int) + 2) ≤ i ∧ i < s (1330 + 5 * (e : Int) + 2) + y9 then 1 else 0) ?_ 240 x1 x2 x3 x4 _ _ e _ 0 τ ⟨⟨rfl, rfl, rfl, rfl, rfl, rfl, rfl, rfl⟩, by omega, g1, g0, fun i i1 i2 => by rw [if_neg (by omega), Int.add_zero]; exact g2 i i1 i2⟩
    rintro m y1 y2 y3 y4 y5 y6 y7 y8 y9 τ' k' ⟨⟨rfl, rfl, rfl, rfl, rfl, rfl, rfl, rfl⟩, j1, j2, j0, j3⟩ hk'
    unfold B_X12_written_274
    rw [j2 129 (by omega) (by omega), hs]
    refine ⟨by omega, fun c8 => ?_, fun c8 => ?_⟩
    · refine NX τ' _ (by omega) j2 j0 ?_ (fun i i1 i2 => ?_)
      · show _ = hr_dn s y1 y2 y3 e + _
        rw [if_pos hent]
      · show _ = hr_de s y1 y2 y3 i e + _
        rw [j3 i i1 i2]
        by_cases w : s (1330 + 5 * (e : Int) + 2) ≤ i ∧ i < s (1330 + 5 * (e : Int) + 2) + y9
        · rw [if_pos w, if_pos ⟨hent, by omega⟩]
        · rw [if_neg w, if_neg (fun y => w (by omega))]
    · have b8 := j3 (s (1330 + 5 * (e : Int) + 2) + y9) (by omega) (by omega)
      have bw := hr_de_b s y1 y2 y3 (s (1330 + 5 * (e : Int) + 2) + y9) e
      rw [if_neg (by omega)] at b8
      refine ⟨by omega, ?_⟩
      refine hk' (m - 1) _ _ _ _ _ _ _ _ _ _ (by omega) ⟨⟨rfl, rfl, rfl, rfl, rfl, rfl, rfl, rfl⟩, by omega, fun r hr hr2 => by rw [hh_up_ne hr2]; exact j2 r hr hr2, fun i i1 i2 => by rw [hh_up_ne (by omega)]; exact j0 i i1 i2, fun i i1 i2 => ?_⟩
      by_cases w : i = s (1330 + 5 * (e : Int) + 2) + y9
      · rw [w, hh_up_at, if_pos (by omega)]; omega
      · rw [hh_up_off w, j3 i i1 i2]
        by_cases w2 : s (1330 + 5 * (e : Int) + 2) ≤ i ∧ i < s (1330 + 5 * (e : Int) + 2) + y9
        · rw [if_pos w2, if_pos (by omega)]
        · rw [if_neg w2, if_neg (by omega)]
  have L2 : ∀ τ : hh_S, (∀ r : Nat, r ≠ 131 → r ≠ 132 → τ r = σ r) → (∀ i : Int, 0 ≤ i → i < 240 → τ 131 i = 0) → (∀ i : Int, 0 ≤ i → i < 240 → τ 132 i = 0) → B_X12_written_70 (d + 2) Q a1 a2 a3 a4 τ := by
    intro τ0 t1 t2 t3
    unfold B_X12_written_70
    refine hh_lp6_of (fun n x1 x2 x3 x4 x5 x6 τ => (x1 = a1 ∧ x2 = a2 ∧ x3 = a3 ∧ x4 = a4) ∧ ∃ e : Nat, (x6 = e ∧ (e : Int) ≤ s 7 ∧ s 7 - e ≤ n ∧ x5 = hr_wa s a1 a2 a3 e) ∧ (∀ r : Nat, r ≠ 131 → r ≠ 132 → τ r = σ r) ∧ (∀ i : Int, 0 ≤ i → i < 240 → τ 132 i = 0) ∧ ∀ i : Int, 0 ≤ i → i < 240 → τ 131 i = hr_we s a1 a2 a3 i e) ?_ 90 a1 a2 a3 a4 0 0 τ0 ⟨⟨rfl, rfl, rfl, rfl⟩, 0, ⟨rfl, by omega, by omega, rfl⟩, t1, t3, t2⟩
    rintro n x1 x2 x3 x4 x5 x6 τ kk ⟨⟨rfl, rfl, rfl, rfl⟩, e, ⟨rfl, f1, f2, rfl⟩, g1, g0, g2⟩ hk
    have bA := hr_wa_b hE x1 x2 x3 e f1
    have NX : ∀ τ' : hh_S, ∀ y6 : Int, (e : Int) < s 7 → (∀ r : Nat, r ≠ 131 → r ≠ 132 → τ' r = σ r) → (∀ i : Int, 0 ≤ i → i < 240 → τ' 132 i = 0) → y6 = hr_wa s x1 x2 x3 (e + 1) → (∀ i : Int, 0 ≤ i → i < 240 → τ' 131 i = hr_we s x1 x2 x3 i (e + 1)) → B_X12_written_194 (d + 2) Q kk x1 x2 x3 x4 y6 e τ' := by
      intro τ' y6 l r1 r0 r2 r3
      unfold B_X12_written_194
      exact ⟨by omega, hk (n - 1) _ _ _ _ _ _ _ (by omega) ⟨⟨rfl, rfl, rfl, rfl⟩, e + 1, ⟨by omega, by omega, by omega, r2⟩, r1, r0, r3⟩⟩
    have NO : (e : Int) < s 7 → ¬ hr_ent s x1 x2 x3 e → B_X12_written_194 (d + 2) Q kk x1 x2 x3 x4 (hr_wa s x1 x2 x3 e) e τ := by
      intro l z
      refine NX τ _ l g1 g0 ?_ (fun i i1 i2 => ?_)
      · show _ = hr_wa s x1 x2 x3 e + _
        rw [if_neg z, Int.add_zero]
      · show _ = hr_we s x1 x2 x3 i e + _
        rw [if_neg (fun y => z y.1), Int.add_zero]
        exact g2 i i1 i2
    unfold B_X12_written_76
    rw [g1 129 (by omega) (by omega), hs]
    refine ⟨fun c => ?_, fun c => ⟨by omega, ?_⟩⟩
    · have ee : e = (s 7).toNat := by omega
      rw [ee]
      exact L3 τ g1 (fun i i1 i2 => by rw [← ee]; exact g2 i i1 i2) g0
    have he := hE.2 e (by omega) (by omega)
    obtain ⟨⟨v1, v2, v3, v4, v5, v6, v7⟩, ⟨v8, v9⟩, v10⟩ := he
    have v8' := v8.1
    unfold hr_nn at v8'
    refine ⟨fun z => NO (by omega) (fun y => z y.1), fun z1 => ⟨by omega, fun z => NO (by omega) (fun y => z y.2.1), fun z2 => ?_⟩⟩
    refine c_isKnown (by omega) ?_ ?_ ?_ <;> rw [g1 129 (by omega) (by omega), hs]
    · intro z3
      refine ⟨fun _ => ⟨by omega, ?_⟩, fun z => by omega⟩
      have hent : hr_ent s x1 x2 x3 e := ⟨z1, z2, z3⟩
      refine hh_lp8_of (fun m y1 y2 y3 y4 y5 y6 y7 y8 τ' => (y1 = x1 ∧ y2 = x2 ∧ y3 = x3 ∧ y4 = x4 ∧ y5 = hr_wa s x1 x2 x3 e + s (250 + 12 * (e : Int) + 4) ∧ y6 = e ∧ y7 = 250 + 12 * (e : Int)) ∧ (0 ≤ y8 ∧ y8 ≤ s (250 + 12 * (e : Int) + 4) ∧ s (250 + 12 * (e : Int) + 4) - y8 ≤ m) ∧ (∀ r : Nat, r ≠ 131 → r ≠ 132 → τ' r = σ r) ∧ (∀ i : Int, 0 ≤ i → i < 240 → τ' 132 i = 0) ∧ ∀ i : Int, 0 ≤ i → i < 240 → τ' 131 i = hr_we s x1 x2 x3 i e + if s (250 + 12 * (e : Int) + 3) ≤ i ∧ i < s (250 + 12 * (e : Int) + 3) + y8 then 1 else 0) ?_ 240 x1 x2 x3 x4 _ e _ 0 τ ⟨⟨rfl, rfl, rfl, rfl, rfl, rfl, rfl⟩, by omega, g1, g0, fun i i1 i2 => by rw [if_neg (by omega), Int.add_zero]; exact g2 i i1 i2⟩
      rintro m y1 y2 y3 y4 y5 y6 y7 y9 τ' k' ⟨⟨rfl, rfl, rfl, rfl, rfl, rfl, rfl⟩, j1, j2, j0, j3⟩ hk'
      unfold B_X12_written_153
      rw [j2 129 (by omega) (by omega), hs]
      refine ⟨by omega, fun c8 => ?_, fun c8 => ?_⟩
      · refine NX τ' _ (by omega) j2 j0 ?_ (fun i i1 i2 => ?_)
        · show _ = hr_wa s y1 y2 y3 e + _
          rw [if_pos hent]
        · show _ = hr_we s y1 y2 y3 i e + _
          rw [j3 i i1 i2]
          by_cases w : s (250 + 12 * (e : Int) + 3) ≤ i ∧ i < s (250 + 12 * (e : Int) + 3) + y9
          · rw [if_pos w, if_pos ⟨hent, by omega⟩]
          · rw [if_neg w, if_neg (fun y => w (by omega))]
      · have b8 := j3 (s (250 + 12 * (e : Int) + 3) + y9) (by omega) (by omega)
        have bw := hr_we_b s y1 y2 y3 (s (250 + 12 * (e : Int) + 3) + y9) e
        rw [if_neg (by omega)] at b8
        refine ⟨by omega, ?_⟩
        refine hk' (m - 1) _ _ _ _ _ _ _ _ _ (by omega) ⟨⟨rfl, rfl, rfl, rfl, rfl, rfl, rfl⟩, by omega, fun r hr hr2 => by rw [hh_up_ne hr]; exact j2 r hr hr2, fun i i1 i2 => by rw [hh_up_ne (by omega)]; exact j0 i i1 i2, fun i i1 i2 => ?_⟩
        by_cases w : i = s (250 + 12 * (e : Int) + 3) + y9
        · rw [w, hh_up_at, if_pos (by omega)]; omega
        · rw [hh_up_off w, j3 i i1 i2]
          by_cases w2 : s (250 + 12 * (e : Int) + 3) ≤ i ∧ i < s (250 + 12 * (e : Int) + 3) + y9
          · rw [if_pos w2, if_pos (by omega)]
          · rw [if_neg w2, if_neg (by omega)]
    · intro z3
      exact ⟨fun z => by omega, fun _ => NO (by omega) (fun y => z3 y.2.2)⟩
    · omega
  refine wp_X12_written _ _ _ _ (fun _ _ _ _ _ => ?_)
  unfold P_X12_written
  refine c_isPerson (by rw [hs]; omega) (fun _ _ => ⟨fun z => by omega, fun _ => ?_⟩) (fun z => by rw [hs] at z; omega)
  refine c_isPast (fun _ _ => ⟨fun z => by omega, fun _ => ?_⟩) (fun z => by rw [hs] at z; omega)
  refine c_isPast (fun _ _ => ⟨fun z => by omega, fun _ => ?_⟩) (fun z => by rw [hs] at z; omega)
  refine c_in (fun _ _ => ⟨fun _ => ?_, fun z => by omega⟩) (fun z => by omega)
  refine hh_lp5_of (fun n x1 x2 x3 x4 x5 τ => (x1 = a1 ∧ x2 = a2 ∧ x3 = a3 ∧ x4 = a4) ∧ (0 ≤ x5 ∧ x5 ≤ 240 ∧ 240 - x5 ≤ n) ∧ (∀ r : Nat, r ≠ 131 → r ≠ 132 → τ r = σ r) ∧ (∀ i : Int, 0 ≤ i → i < x5 → τ 131 i = 0) ∧ (∀ i : Int, 0 ≤ i → i < x5 → τ 132 i = 0)) ?_ 240 a1 a2 a3 a4 0 σ ⟨⟨rfl, rfl, rfl, rfl⟩, by omega, fun _ _ _ => rfl, fun i i1 i2 => by omega, fun i i1 i2 => by omega⟩
  rintro n x1 x2 x3 x4 x5 τ k ⟨⟨rfl, rfl, rfl, rfl⟩, i1, i2, i3, i4⟩ hk
  unfold B_X12_written_40
  refine ⟨fun c => L2 τ i2 (fun i z1 z2 => i3 i z1 (by omega)) (fun i z1 z2 => i4 i z1 (by omega)), fun c => ⟨by omega, ?_⟩⟩
  refine hk (n - 1) _ _ _ _ _ _ (by omega) ⟨⟨rfl, rfl, rfl, rfl⟩, by omega, fun r r1 r2 => by rw [hh_up_ne r2, hh_up_ne r1]; exact i2 r r1 r2, fun i z1 z2 => ?_, fun i z1 z2 => ?_⟩
  · rw [hh_up_ne (by omega)]
    by_cases z : i = x5
    · rw [z, hh_up_at]
    · rw [hh_up_off z]; exact i3 i z1 (by omega)
  · by_cases z : i = x5
    · rw [z, hh_up_at]
    · rw [hh_up_off z, hh_up_ne (by omega)]; exact i4 i z1 (by omega)
set_option maxHeartbeats 2000000 in
theorem o_written {σ : hh_S} {a1 a2 a3 a4 : Int} (h : hr_R σ) : hr_op2 hm_X11_written hm_X12_written [hh_I a1, hh_I a2, hh_I a3, hh_I a4] σ := by
  obtain ⟨hU, hP, hC, hM, hE, hD, hB, hK, hT⟩ := h.1
  have u := hU
  unfold hr_U at u
  have p1 := hP.1
  have c1 := hC.1
  have m1 := hM.1
  have e1 := hE.1
  have d1 := hD.1
  have b1 := hB.1
  have k1 := hK.1
  have t1 := hT.1
  have BD : ¬ ((0 ≤ a1 ∧ a1 < σ 129 4) ∧ (0 ≤ a2 ∧ a2 ≤ σ 129 0) ∧ (0 ≤ a3 ∧ a3 ≤ σ 129 0) ∧ 0 ≤ a4 ∧ a4 ≤ 3) → hh_Sp 200 hm_X12_written [hh_R 128, hh_I a1, hh_I a2, hh_I a3, hh_I a4] σ (fun r' σ2 => -1000000001 = r' ∧ hr_R σ2) := by
    intro hb
    refine wp_X12_written _ _ _ _ (fun _ _ _ _ _ => ?_)
    unfold P_X12_written
    refine c_isPerson (by omega) (fun _ _ => ⟨fun z => by omega, fun _ => ?_⟩) (fun z => ⟨fun _ => ⟨rfl, h⟩, fun y => by omega⟩)
    refine c_isPast (fun _ _ => ⟨fun z => by omega, fun _ => ?_⟩) (fun z => ⟨fun _ => ⟨rfl, h⟩, fun y => by omega⟩)
    refine c_isPast (fun _ _ => ⟨fun z => by omega, fun _ => ?_⟩) (fun z => ⟨fun _ => ⟨rfl, h⟩, fun y => by omega⟩)
    exact c_in (fun _ _ => absurd hb (by omega)) (fun z => ⟨fun y => by omega, fun _ => ⟨rfl, h⟩⟩)
  refine wp_X11_written _ _ _ _ (fun hs h1 h2 h3 h4 => ?_)
  unfold P_X11_written
  refine c_X6_has (by omega) (fun g1 g2 => ⟨fun z => by omega, fun _ => ?_⟩) (fun z => ⟨fun _ => BD (by omega), fun y => by omega⟩)
  refine c_X11_isPast (fun g3 g4 => ⟨fun z => by omega, fun _ => ?_⟩) (fun z => ⟨fun _ => BD (by omega), fun y => by omega⟩)
  refine c_X11_isPast (fun g5 g6 => ⟨fun z => by omega, fun _ => ?_⟩) (fun z => ⟨fun _ => BD (by omega), fun y => by omega⟩)
  refine c_within (fun g7 g8 => ⟨fun _ => ?_, fun z => by omega⟩) (fun z => ⟨fun y => by omega, fun _ => BD (by omega)⟩)
  have bWA := hr_wa_b hE a1 a2 a3 (σ 129 7).toNat (by omega)
  have FN : ∀ ρ : hh_S, (∀ r : Nat, r ≠ 125 → r ≠ 126 → ρ r = σ r) → hh_Sp 200 hm_X12_written [hh_R 128, hh_I a1, hh_I a2, hh_I a3, hh_I a4] ρ (fun r' σ2 => hr_wr (σ 129) a1 a2 a3 a4 = r' ∧ hr_R σ2) := by
    intro ρ w
    have CG : ∀ π : hh_S, (∀ r : Nat, r ≠ 125 → r ≠ 126 → r ≠ 131 → r ≠ 132 → π r = σ r) → hr_R π := by
      intro π v
      have e (r : Nat) (z : r ≠ 125 ∧ r ≠ 126 ∧ r ≠ 131 ∧ r ≠ 132) : π r = σ r := v r z.1 z.2.1 z.2.2.1 z.2.2.2
      exact ⟨h.1.cg (fun r r1 r2 => e r (by omega)) (fun k _ _ => by rw [e 129 (by omega)]), h.2.1.cg (by rw [e 0 (by omega)]) (by rw [e 128 (by omega)]) (fun r r1 r2 => e r (by omega)) (e 130 (by omega)), h.2.2.1.cg (e 123 (by omega)) (e 124 (by omega)) (e 145 (by omega)) (e 146 (by omega)), h.2.2.2.1.cg (by rw [e 0 (by omega)]) (by rw [e 128 (by omega)]) (e 122 (by omega)) (e 144 (by omega)), h.2.2.2.2.cg (by rw [e 109 (by omega)]) (by rw [e 128 (by omega)]) (e 110 (by omega)) (e 133 (by omega))⟩
    have hρ : hr_R ρ := CG ρ (fun r r1 r2 _ _ => w r r1 r2)
    have h1' := hρ.1
    rw [w 129 (by omega) (by omega)] at h1'
    refine c_X12_written (w 129 (by omega) (by omega)) h1'.2.2.2.2.1 h1'.2.2.2.2.2.1 (by omega) (by omega) (by omega) (fun π v => ?_)
    exact ⟨rfl, CG π (fun r r1 r2 r3 r4 => by rw [v r r3 r4, w r r1 r2])⟩
  refine c_fill0 (fun ρ r1 r2 => ?_)
  have hE' : hr_E ρ (σ 129) := hE.cg (fun r q1 q2 => r1 r (by omega)) (Int.le_refl _) (Int.le_refl _) (Int.le_refl _) (Int.le_refl _) (fun _ _ => rfl) (fun _ _ _ => rfl)
  refine c_X3_layOut hE' r2 (fun ρ2 w1 w2 => ?_)
  have w3 : ∀ r : Nat, r ≠ 125 → ρ2 r = σ r := fun r hr => by rw [w1 r hr, r1 r hr]
  have F2 := FN ρ2 (fun r r1 r2 => w3 r r1)
  have hD' : hr_D ρ2 (σ 129) := hD.cg (fun r q1 q2 => w3 r (by omega)) (Int.le_refl _) (fun _ _ => rfl)
  refine ⟨fun z => ?_, fun z => ?_, fun z => ?_, fun z => ?_⟩
  · refine c_partsBeyond hD' w2 (fun ρ3 w4 => ?_)
    have F3 := FN ρ3 (fun r r1 r2 => by rw [w4 r r2, w3 r r1])
    unfold hr_wr at F3
    rw [if_neg (by omega), if_neg (by omega), if_neg (by omega)] at F3
    exact F3
  · unfold hr_wr at F2
    rw [if_pos z] at F2
    exact F2
  · unfold hr_wr at F2
    rw [if_neg (by omega), if_pos z] at F2
    rw [w3 54 (by omega), u.2.1.1]
    exact ⟨by omega, F2⟩
  · unfold hr_wr at F2
    rw [if_neg (by omega), if_neg (by omega), if_pos z] at F2
    exact c_partsInTwo w2 F2
