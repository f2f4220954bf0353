/-- entry e of person p, on day d, is known on day k -/
abbrev hr_ent (s : Int → Int) (p d k e : Int) : Prop := s (250 + 12 * e) = p ∧ s (250 + 12 * e + 2) = d ∧ (s (250 + 12 * e + 6) ≤ k ∧ (s (250 + 12 * e + 7) < 0 ∨ k < s (250 + 12 * e + 7)))
def hr_we (s : Int → Int) (p d k i : Int) : Nat → Int
  | 0 => 0
  | n + 1 => hr_we s p d k i n + if hr_ent s p d k n ∧ s (250 + 12 * n + 3) ≤ i ∧ i < s (250 + 12 * n + 3) + s (250 + 12 * n + 4) then 1 else 0
def hr_wa (s : Int → Int) (p d k : Int) : Nat → Int
  | 0 => 0
  | n + 1 => hr_wa s p d k n + if hr_ent s p d k n then s (250 + 12 * n + 4) else 0
abbrev hr_dor (s : Int → Int) (p d k e : Int) : Prop := s (1330 + 5 * e) = p ∧ s (1330 + 5 * e + 1) = d ∧ s (1330 + 5 * e + 4) ≤ k
def hr_de (s : Int → Int) (p d k i : Int) : Nat → Int
  | 0 => 0
  | n + 1 => hr_de s p d k i n + if hr_dor s p d k n ∧ s (1330 + 5 * n + 2) ≤ i ∧ i < s (1330 + 5 * n + 2) + s (1330 + 5 * n + 3) then 1 else 0
def hr_dn (s : Int → Int) (p d k : Int) : Nat → Int
  | 0 => 0
  | n + 1 => hr_dn s p d k n + if hr_dor s p d k n then 1 else 0
def hr_t2 (f : Int → Int) : Nat → Int
  | 0 => 0
  | n + 1 => hr_t2 f n + if 1 < f n then 1 else 0
def hr_t3 (f g : Int → Int) : Nat → Int
  | 0 => 0
  | n + 1 => hr_t3 f g n + if 0 < f n ∧ g n = 0 then 1 else 0
theorem hr_we_b (s : Int → Int) (p d k i : Int) : ∀ n : Nat, 0 ≤ hr_we s p d k i n ∧ hr_we s p d k i n ≤ n
  | 0 => ⟨Int.le_refl _, Int.le_refl _⟩
  | n + 1 => by
    have h := hr_we_b s p d k i n
    unfold hr_we
    split <;> omega
theorem hr_de_b (s : Int → Int) (p d k i : Int) : ∀ n : Nat, 0 ≤ hr_de s p d k i n ∧ hr_de s p d k i n ≤ n
  | 0 => ⟨Int.le_refl _, Int.le_refl _⟩
  | n + 1 => by
    have h := hr_de_b s p d k i n
    unfold hr_de
    split <;> omega
theorem hr_dn_b (s : Int → Int) (p d k : Int) : ∀ n : Nat, 0 ≤ hr_dn s p d k n ∧ hr_dn s p d k n ≤ n
  | 0 => ⟨Int.le_refl _, Int.le_refl _⟩
  | n + 1 => by
    have h := hr_dn_b s p d k n
    unfold hr_dn
    split <;> omega
theorem hr_t2_b (f : Int → Int) : ∀ n : Nat, 0 ≤ hr_t2 f n ∧ hr_t2 f n ≤ n
  | 0 => ⟨Int.le_refl _, Int.le_refl _⟩
  | n + 1 => by
    have h := hr_t2_b f n
    unfold hr_t2
    split <;> omega
theorem hr_t3_b (f g : Int → Int) : ∀ n : Nat, 0 ≤ hr_t3 f g n ∧ hr_t3 f g n ≤ n
  | 0 => ⟨Int.le_refl _, Int.le_refl _⟩
  | n + 1 => by
    have h := hr_t3_b f g n
    unfold hr_t3
    split <;> omega
theorem hr_wa_b {σ : hh_S} {s : Int → Int} (hE : hr_E σ s) (p d k : Int) : ∀ n : Nat, (n : Int) ≤ s 7 → 0 ≤ hr_wa s p d k n ∧ hr_wa s p d k n ≤ 240 * n
  | 0, _ => ⟨Int.le_refl _, Int.le_refl _⟩
  | n + 1, hn => by
    have h := hr_wa_b hE p d k n (by omega)
    have e := (hE.2 n (by omega) (by omega)).1
    unfold hr_wa
    split <;> omega
theorem hr_kn_nn {x y t k : Int} (h : hr_nn x y) : hr_kn t x k ↔ hr_kn t y k := by
  unfold hr_nn at h
  unfold hr_kn
  omega
theorem c_fill0 {d : Nat} {σ : hh_S} {Q : Int → hh_S → Prop} (hq : ∀ ρ : hh_S, (∀ r : Nat, r ≠ 125 → ρ r = σ r) → (∀ i : Int, 0 ≤ i → i < 240 → ρ 125 i = 0) → Q 0 ρ) : hh_Sp (d + 1) hm_J7_fill_53178 [hh_R 125, hh_I 0] σ Q := by
  refine wp_J7_fill_53178_i0 _ (fun _ _ => ?_)
  refine hh_lp3_of (fun n x1 x2 x3 τ => (x1 = 0 ∧ x3 = 240 ∧ 0 ≤ x2 ∧ x2 ≤ 240 ∧ 240 - x2 ≤ n) ∧ (∀ r : Nat, r ≠ 125 → τ r = σ r) ∧ (∀ i : Int, 0 ≤ i → i < x2 → τ 125 i = 0)) ?_ 240 0 0 240 σ ⟨by omega, fun _ _ => rfl, fun i i1 i2 => by omega⟩
  rintro n x1 x2 x3 τ k ⟨⟨rfl, rfl, i1, i2, i3⟩, i4, i5⟩ hk
  unfold B_J7_fill_53178_i0_5
  refine ⟨fun c => hq τ i4 (fun i z1 z2 => i5 i z1 (by omega)), fun c => ⟨by omega, ?_⟩⟩
  repeat' (first | with_reducible refine And.intro ?_ ?_ | with_reducible refine hh_all_eq ?_ | simp (disch := omega) only [hh_up_ne, hh_up_at, hh_up_off, not_true_eq_false, not_false_eq_true, false_implies, true_implies, implies_true, and_true, true_and, Int.add_zero] | with_reducible intro _ | omega)
  refine hk (n - 1) _ _ _ _ (by omega) ⟨by omega, fun r hr => by rw [hh_up_ne hr]; exact i4 r hr, fun i z1 z2 => ?_⟩
  by_cases z : i = x2
  · rw [z, hh_up_at]
  · rw [hh_up_off z]; exact i5 i z1 (by omega)
theorem c_fill1 {d : Nat} {σ : hh_S} {Q : Int → hh_S → Prop} (hq : ∀ ρ : hh_S, (∀ r : Nat, r ≠ 126 → ρ r = σ r) → (∀ i : Int, 0 ≤ i → i < 240 → ρ 126 i = 0) → Q 0 ρ) : hh_Sp (d + 1) hm_J7_fill_53178 [hh_R 126, hh_I 0] σ Q := by
  refine wp_J7_fill_53178_i1 _ (fun _ _ => ?_)
  refine hh_lp3_of (fun n x1 x2 x3 τ => (x1 = 0 ∧ x3 = 240 ∧ 0 ≤ x2 ∧ x2 ≤ 240 ∧ 240 - x2 ≤ n) ∧ (∀ r : Nat, r ≠ 126 → τ r = σ r) ∧ (∀ i : Int, 0 ≤ i → i < x2 → τ 126 i = 0)) ?_ 240 0 0 240 σ ⟨by omega, fun _ _ => rfl, fun i i1 i2 => by omega⟩
  rintro n x1 x2 x3 τ k ⟨⟨rfl, rfl, i1, i2, i3⟩, i4, i5⟩ hk
  unfold B_J7_fill_53178_i1_5
  refine ⟨fun c => hq τ i4 (fun i z1 z2 => i5 i z1 (by omega)), fun c => ⟨by omega, ?_⟩⟩
  repeat' (first | with_reducible refine And.intro ?_ ?_ | with_reducible refine hh_all_eq ?_ | simp (disch := omega) only [hh_up_ne, hh_up_at, hh_up_off, not_true_eq_false, not_false_eq_true, false_implies, true_implies, implies_true, and_true, true_and, Int.add_zero] | with_reducible intro _ | omega)
  refine hk (n - 1) _ _ _ _ (by omega) ⟨by omega, fun r hr => by rw [hh_up_ne hr]; exact i4 r hr, fun i z1 z2 => ?_⟩
  by_cases z : i = x2
  · rw [z, hh_up_at]
  · rw [hh_up_off z]; exact i5 i z1 (by omega)
set_option maxHeartbeats 2000000 in
theorem c_X3_layOut {d : Nat} {σ : hh_S} {s : Int → Int} {p dd k : Int} {Q : Int → hh_S → Prop} (hE : hr_E σ s) (h0 : ∀ i : Int, 0 ≤ i → i < 240 → σ 125 i = 0) (hq : ∀ ρ : hh_S, (∀ r : Nat, r ≠ 125 → ρ r = σ r) → (∀ i : Int, 0 ≤ i → i < 240 → ρ 125 i = hr_we s p dd k i (s 7).toNat) → Q (hr_wa s p dd k (s 7).toNat) ρ) : hh_Sp (d + 2) hm_X3_layOut [hh_R 24, hh_I p, hh_I dd, hh_I k, hh_R 125] σ Q := by
  have e1 := hE.1
  refine wp_X3_layOut _ _ _ (fun _ _ _ _ => ?_)
  refine hh_lp5_of (fun n x1 x2 x3 x5 x6 τ => (x1 = p ∧ x2 = dd ∧ x3 = k) ∧ ∃ e : Nat, (x6 = e ∧ (e : Int) ≤ s 7 ∧ s 7 - e ≤ n ∧ x5 = hr_wa s p dd k e) ∧ (∀ r : Nat, r ≠ 125 → τ r = σ r) ∧ ∀ i : Int, 0 ≤ i → i < 240 → τ 125 i = hr_we s p dd k i e) ?_ 90 p dd k 0 0 σ ⟨⟨rfl, rfl, rfl⟩, 0, ⟨rfl, by omega, by omega, rfl⟩, fun _ _ => rfl, h0⟩
  rintro n x1 x2 x3 x5 x6 τ kk ⟨⟨rfl, rfl, rfl⟩, e, ⟨rfl, f1, f2, rfl⟩, g1, g2⟩ hk
  have bA := hr_wa_b hE x1 x2 x3 e f1
  have NX : ∀ τ' : hh_S, ∀ y5 : Int, (e : Int) < s 7 → (∀ r : Nat, r ≠ 125 → τ' r = σ r) → y5 = hr_wa s x1 x2 x3 (e + 1) → (∀ i : Int, 0 ≤ i → i < 240 → τ' 125 i = hr_we s x1 x2 x3 i (e + 1)) → B_X3_layOut_115 d.succ Q kk x1 x2 x3 y5 e τ' := by
    intro τ' y5 l r1 r2 r3
    unfold B_X3_layOut_115
    exact ⟨by omega, hk (n - 1) _ _ _ _ _ _ (by omega) ⟨⟨rfl, rfl, rfl⟩, e + 1, ⟨by omega, by omega, by omega, r2⟩, r1, r3⟩⟩
  have NO : (e : Int) < s 7 → ¬ hr_ent s x1 x2 x3 e → B_X3_layOut_115 d.succ Q kk x1 x2 x3 (hr_wa s x1 x2 x3 e) e τ := by
    intro l z
    refine NX τ _ l g1 ?_ (fun i i1 i2 => ?_)
    · show _ = hr_wa s x1 x2 x3 e + _
      rw [if_neg z, Int.add_zero]
    · show _ = hr_we s x1 x2 x3 i e + _
      rw [if_neg (fun y => z y.1), Int.add_zero]
      exact g2 i i1 i2
  unfold B_X3_layOut_6
  rw [g1 24 (by omega), g1 25 (by omega), g1 27 (by omega), e1.1]
  refine ⟨fun c => ?_, fun c => ⟨by omega, ?_⟩⟩
  · have ee : e = (s 7).toNat := by omega
    rw [ee]
    exact hq τ g1 (fun i i1 i2 => by rw [← ee]; exact g2 i i1 i2)
  have he := hE.2 e (by omega) (by omega)
  obtain ⟨⟨v1, v2, v3, v4, v5, v6, v7⟩, ⟨v8, v9⟩, v10⟩ := he
  have kn := hr_kn_nn (t := s (250 + 12 * (e : Int) + 6)) (k := x3) v8.1
  rw [v1.1, v3.1]
  refine ⟨fun z => NO (by omega) (fun y => z y.1), fun z1 => ⟨by omega, fun z => NO (by omega) (fun y => z y.2.1), fun z2 => ?_⟩⟩
  refine c_X3_isKnown (by omega) ?_ ?_ (by rw [g1 32 (by omega)]; have := v8.1; unfold hr_nn at this; omega) <;> rw [g1 31 (by omega), g1 32 (by omega), v7.1, kn]
  · intro z3
    refine ⟨fun y => by omega, fun _ => ?_⟩
    have hent : hr_ent s x1 x2 x3 e := ⟨z1, z2, z3⟩
    rw [g1 28 (by omega), g1 29 (by omega), v4.1, v5.1]
    refine ⟨by omega, ?_⟩
    refine hh_lp7_of (fun m y1 y2 y3 y5 y6 y7 y8 τ' => (y1 = x1 ∧ y2 = x2 ∧ y3 = x3 ∧ y5 = hr_wa s x1 x2 x3 e ∧ y6 = e ∧ y7 = s (250 + 12 * (e : Int) + 3) + s (250 + 12 * (e : Int) + 4)) ∧ (s (250 + 12 * (e : Int) + 3) ≤ y8 ∧ y8 ≤ y7 ∧ y7 - y8 ≤ m) ∧ (∀ r : Nat, r ≠ 125 → τ' r = σ r) ∧ ∀ i : Int, 0 ≤ i → i < 240 → τ' 125 i = hr_we s x1 x2 x3 i e + if s (250 + 12 * (e : Int) + 3) ≤ i ∧ i < y8 then 1 else 0) ?_ 240 x1 x2 x3 _ e _ (s (250 + 12 * (e : Int) + 3)) τ ⟨⟨rfl, rfl, rfl, rfl, rfl, rfl⟩, by omega, g1, fun i i1 i2 => by rw [if_neg (by omega), Int.add_zero]; exact g2 i i1 i2⟩
    rintro m y1 y2 y3 y5 y6 y7 y8 τ' k' ⟨⟨rfl, rfl, rfl, rfl, rfl, rfl⟩, j1, j2, j3⟩ hk'
    have FIN : s (250 + 12 * (e : Int) + 3) + s (250 + 12 * (e : Int) + 4) ≤ y8 → B_X3_layOut_103 d.succ Q kk y1 y2 y3 (hr_wa s y1 y2 y3 e) e τ' := by
      intro c8
      unfold B_X3_layOut_103
      rw [j2 29 (by omega), v5.1]
      refine ⟨by omega, ?_⟩
      refine NX τ' _ (by omega) j2 ?_ (fun i i1 i2 => ?_)
      · show _ = hr_wa s y1 y2 y3 e + _
        rw [if_pos hent]
      · show _ = hr_we s y1 y2 y3 i e + _
        rw [j3 i i1 i2]
        by_cases w : s (250 + 12 * (e : Int) + 3) ≤ i ∧ i < y8
        · rw [if_pos w, if_pos ⟨hent, by omega⟩]
        · rw [if_neg w, if_neg (fun y => w (by omega))]
    unfold B_X3_layOut_73
    refine ⟨fun c8 => FIN c8, fun c8 => ⟨fun c9 => by omega, fun c9 => ?_⟩⟩
    have b8 := j3 y8 (by omega) (by omega)
    have bw := hr_we_b s y1 y2 y3 y8 e
    rw [if_neg (by omega)] at b8
    refine ⟨by omega, ?_⟩
    refine hk' (m - 1) _ _ _ _ _ _ _ _ (by omega) ⟨⟨rfl, rfl, rfl, rfl, rfl, rfl⟩, by omega, fun r hr => by rw [hh_up_ne hr]; exact j2 r hr, fun i i1 i2 => ?_⟩
    by_cases w : i = y8
    · rw [w, hh_up_at, if_pos (by omega)]; omega
    · rw [hh_up_off w, j3 i i1 i2]
      by_cases w2 : s (250 + 12 * (e : Int) + 3) ≤ i ∧ i < y8
      · rw [if_pos w2, if_pos (by omega)]
      · rw [if_neg w2, if_neg (by omega)]
  · intro z3
    exact ⟨fun _ => NO (by omega) (fun y => z3 y.2.2), fun y => by omega⟩
set_option maxHeartbeats 2000000 in
theorem c_X2_layOut {d : Nat} {σ : hh_S} {s : Int → Int} {p dd k : Int} {Q : Int → hh_S → Prop} (hD : hr_D σ s) (h0 : ∀ i : Int, 0 ≤ i → i < 240 → σ 126 i = 0) (hq : ∀ ρ : hh_S, (∀ r : Nat, r ≠ 126 → ρ r = σ r) → (∀ i : Int, 0 ≤ i → i < 240 → ρ 126 i = hr_de s p dd k i (s 8).toNat) → Q (hr_dn s p dd k (s 8).toNat) ρ) : hh_Sp (d + 1) hm_X2_layOut [hh_R 36, hh_I p, hh_I dd, hh_I k, hh_R 126] σ Q := by
  have e1 := hD.1
  refine wp_X2_layOut _ _ _ (fun _ _ _ _ => ?_)
  refine hh_lp5_of (fun n x1 x2 x3 x5 x6 τ => (x1 = p ∧ x2 = dd ∧ x3 = k) ∧ ∃ e : Nat, (x6 = e ∧ (e : Int) ≤ s 8 ∧ s 8 - e ≤ n ∧ x5 = hr_dn s p dd k e) ∧ (∀ r : Nat, r ≠ 126 → τ r = σ r) ∧ ∀ i : Int, 0 ≤ i → i < 240 → τ 126 i = hr_de s p dd k i e) ?_ 60 p dd k 0 0 σ ⟨⟨rfl, rfl, rfl⟩, 0, ⟨rfl, by omega, by omega, rfl⟩, fun _ _ => rfl, h0⟩
  rintro n x1 x2 x3 x5 x6 τ kk ⟨⟨rfl, rfl, rfl⟩, e, ⟨rfl, f1, f2, rfl⟩, g1, g2⟩ hk
  have bA := hr_dn_b s x1 x2 x3 e
  have NX : ∀ τ' : hh_S, ∀ y5 : Int, (e : Int) < s 8 → (∀ r : Nat, r ≠ 126 → τ' r = σ r) → y5 = hr_dn s x1 x2 x3 (e + 1) → (∀ i : Int, 0 ≤ i → i < 240 → τ' 126 i = hr_de s x1 x2 x3 i (e + 1)) → B_X2_layOut_107 d Q kk x1 x2 x3 y5 e τ' := by
    intro τ' y5 l r1 r2 r3
    unfold B_X2_layOut_107
    exact ⟨by omega, hk (n - 1) _ _ _ _ _ _ (by omega) ⟨⟨rfl, rfl, rfl⟩, e + 1, ⟨by omega, by omega, by omega, r2⟩, r1, r3⟩⟩
  have NO : (e : Int) < s 8 → ¬ hr_dor s x1 x2 x3 e → B_X2_layOut_107 d Q kk x1 x2 x3 (hr_dn s x1 x2 x3 e) e τ := by
    intro l z
    refine NX τ _ l g1 ?_ (fun i i1 i2 => ?_)
    · show _ = hr_dn s x1 x2 x3 e + _
      rw [if_neg z, Int.add_zero]
    · show _ = hr_de s x1 x2 x3 i e + _
      rw [if_neg (fun y => z y.1), Int.add_zero]
      exact g2 i i1 i2
  unfold B_X2_layOut_6
  rw [g1 36 (by omega), g1 37 (by omega), g1 38 (by omega), g1 39 (by omega), g1 40 (by omega), g1 41 (by omega), e1.1]
  refine ⟨fun c => ?_, fun c => ⟨by omega, ?_⟩⟩
  · have ee : e = (s 8).toNat := by omega
    rw [ee]
    exact hq τ g1 (fun i i1 i2 => by rw [← ee]; exact g2 i i1 i2)
  have he := hD.2 e (by omega) (by omega)
  obtain ⟨v1, v2, v3, v4, v5⟩ := he
  rw [v1.1, v2, v5, v3.1, v4.1]
  refine ⟨fun z => NO (by omega) (fun y => z y.1), fun z1 => ⟨by omega, fun z => NO (by omega) (fun y => z y.2.1), fun z2 => ⟨by omega, fun z => NO (by omega) (fun y => by have := y.2.2; omega), fun z3 => ⟨by omega, ?_⟩⟩⟩⟩
  have hent : hr_dor s x1 x2 x3 e := ⟨z1, z2, by omega⟩
  refine hh_lp7_of (fun m y1 y2 y3 y5 y6 y7 y8 τ' => (y1 = x1 ∧ y2 = x2 ∧ y3 = x3 ∧ y5 = hr_dn s x1 x2 x3 e ∧ y6 = e ∧ y7 = s (1330 + 5 * (e : Int) + 2) + s (1330 + 5 * (e : Int) + 3)) ∧ (s (1330 + 5 * (e : Int) + 2) ≤ y8 ∧ y8 ≤ y7 ∧ y7 - y8 ≤ m) ∧ (∀ r : Nat, r ≠ 126 → τ' r = σ r) ∧ ∀ i : Int, 0 ≤ i → i < 240 → τ' 126 i = hr_de s x1 x2 x3 i e + if s (1330 + 5 * (e : Int) + 2) ≤ i ∧ i < y8 then 1 else 0) ?_ 240 x1 x2 x3 _ e _ (s (1330 + 5 * (e : Int) + 2)) τ ⟨⟨rfl, rfl, rfl, rfl, rfl, rfl⟩, by omega, g1, fun i i1 i2 => by rw [if_neg (by omega), Int.add_zero]; exact g2 i i1 i2⟩
  rintro m y1 y2 y3 y5 y6 y7 y8 τ' k' ⟨⟨rfl, rfl, rfl, rfl, rfl, rfl⟩, j1, j2, j3⟩ hk'
  have FIN : s (1330 + 5 * (e : Int) + 2) + s (1330 + 5 * (e : Int) + 3) ≤ y8 → B_X2_layOut_104 d Q kk y1 y2 y3 (hr_dn s y1 y2 y3 e) e τ' := by
    intro c8
    unfold B_X2_layOut_104
    refine ⟨by omega, ?_⟩
    refine NX τ' _ (by omega) j2 ?_ (fun i i1 i2 => ?_)
    · show _ = hr_dn s y1 y2 y3 e + _
      rw [if_pos hent]
    · show _ = hr_de s y1 y2 y3 i e + _
      rw [j3 i i1 i2]
      by_cases w : s (1330 + 5 * (e : Int) + 2) ≤ i ∧ i < y8
      · rw [if_pos w, if_pos ⟨hent, by omega⟩]
      · rw [if_neg w, if_neg (fun y => w (by omega))]
  unfold B_X2_layOut_74
  refine ⟨fun c8 => FIN c8, fun c8 => ⟨fun c9 => by omega, fun c9 => ?_⟩⟩
  have b8 := j3 y8 (by omega) (by omega)
  have bw := hr_de_b s y1 y2 y3 y8 e
  rw [if_neg (by omega)] at b8
  refine ⟨by omega, ?_⟩
  refine hk' (m - 1) _ _ _ _ _ _ _ _ (by omega) ⟨⟨rfl, rfl, rfl, rfl, rfl, rfl⟩, by omega, fun r hr => by rw [hh_up_ne hr]; exact j2 r hr, fun i i1 i2 => ?_⟩
  by_cases w : i = y8
  · rw [w, hh_up_at, if_pos (by omega)]; omega
  · rw [hh_up_off w, j3 i i1 i2]
    by_cases w2 : s (1330 + 5 * (e : Int) + 2) ≤ i ∧ i < y8
    · rw [if_pos w2, if_pos (by omega)]
    · rw [if_neg w2, if_neg (by omega)]
theorem c_partsInTwo {d : Nat} {σ : hh_S} {f : Int → Int} {Q : Int → hh_S → Prop} (hf : ∀ i : Int, 0 ≤ i → i < 240 → σ 125 i = f i) (hq : Q (hr_t2 f 240) σ) : hh_Sp (d + 1) hm_X11_partsInTwo [hh_R 0] σ Q := by
  refine wp_X11_partsInTwo (fun _ => ?_)
  refine hh_lp2_of (fun n x1 x2 τ => τ = σ ∧ ∃ j : Nat, x2 = j ∧ j ≤ 240 ∧ 240 - j ≤ n ∧ x1 = hr_t2 f j) ?_ 240 0 0 σ ⟨rfl, 0, rfl, by omega, by omega, rfl⟩
  rintro n x1 x2 τ k ⟨rfl, j, rfl, j1, j2, rfl⟩ hk
  have b := hr_t2_b f j
  unfold B_X11_partsInTwo_4 B_X11_partsInTwo_24
  refine ⟨fun c => by rw [show j = 240 by omega]; exact hq, fun c => ⟨by omega, ?_⟩⟩
  rw [hf j (by omega) (by omega)]
  refine ⟨fun z => ⟨by omega, hk (n - 1) _ _ _ (by omega) ⟨rfl, j + 1, by omega, by omega, by omega, ?_⟩⟩, fun z => ⟨by omega, by omega, hk (n - 1) _ _ _ (by omega) ⟨rfl, j + 1, by omega, by omega, by omega, ?_⟩⟩⟩
  · show _ = hr_t2 f j + _
    rw [if_neg (by omega), Int.add_zero]
  · show _ = hr_t2 f j + _
    rw [if_pos (by omega)]
theorem c_partsBeyond {d : Nat} {σ : hh_S} {s : Int → Int} {p dd k : Int} {f : Int → Int} {Q : Int → hh_S → Prop} (hD : hr_D σ s) (hf : ∀ i : Int, 0 ≤ i → i < 240 → σ 125 i = f i) (hq : ∀ ρ : hh_S, (∀ r : Nat, r ≠ 126 → ρ r = σ r) → Q (if hr_dn s p dd k (s 8).toNat = 0 then 0 else hr_t3 f (fun i => hr_de s p dd k i (s 8).toNat) 240) ρ) : hh_Sp (d + 2) hm_X11_partsBeyond [hh_R 0, hh_I p, hh_I dd, hh_I k] σ Q := by
  refine wp_X11_partsBeyond _ _ _ (fun _ _ _ _ => ?_)
  unfold P_X11_partsBeyond
  refine c_fill1 (fun ρ r1 r2 => ?_)
  refine c_X2_layOut (s := s) ⟨by rw [r1 36 (by omega)]; exact hD.1, fun b b1 b2 => by have := hD.2 b b1 b2; unfold hr_D1 at this ⊢; rw [r1 37 (by omega), r1 38 (by omega), r1 39 (by omega), r1 40 (by omega), r1 41 (by omega)]; exact this⟩ r2 (fun ρ2 w1 w2 => ⟨fun z => ?_, fun z => ?_⟩)
  · have hq2 := hq ρ2 (fun r hr => by rw [w1 r hr, r1 r hr])
    rw [if_neg z] at hq2
    refine hh_lp2_of (fun n x1 x2 τ => τ = ρ2 ∧ ∃ j : Nat, x2 = j ∧ j ≤ 240 ∧ 240 - j ≤ n ∧ x1 = hr_t3 f (fun i => hr_de s p dd k i (s 8).toNat) j) ?_ 240 0 0 ρ2 ⟨rfl, 0, rfl, by omega, by omega, rfl⟩
    rintro n x1 x2 τ k' ⟨rfl, j, rfl, j1, j2, rfl⟩ hk
    have b := hr_t3_b f (fun i => hr_de s p dd k i (s 8).toNat) j
    unfold B_X11_partsBeyond_36 B_X11_partsBeyond_67
    refine ⟨fun c => by rw [show j = 240 by omega]; exact hq2, fun c => ⟨by omega, ?_⟩⟩
    rw [w1 125 (by omega), r1 125 (by omega), hf j (by omega) (by omega), w2 j (by omega) (by omega)]
    refine ⟨fun z => ⟨by omega, hk (n - 1) _ _ _ (by omega) ⟨rfl, j + 1, by omega, by omega, by omega, ?_⟩⟩, fun z => ⟨by omega, fun z2 => ⟨by omega, hk (n - 1) _ _ _ (by omega) ⟨rfl, j + 1, by omega, by omega, by omega, ?_⟩⟩, fun z2 => ⟨by omega, by omega, hk (n - 1) _ _ _ (by omega) ⟨rfl, j + 1, by omega, by omega, by omega, ?_⟩⟩⟩⟩
    · show _ = hr_t3 f _ j + _
      rw [if_neg (by omega), Int.add_zero]
    · show _ = hr_t3 f _ j + _
      rw [if_neg (fun y => z2 y.2), Int.add_zero]
    · show _ = hr_t3 f _ j + _
      rw [if_pos ⟨by omega, z2⟩]
  · have hq2 := hq ρ2 (fun r hr => by rw [w1 r hr, r1 r hr])
    rw [if_pos z] at hq2
    exact hq2
