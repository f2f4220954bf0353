def hr_sa (S : Int → Int) : Nat → Int
  | 0 => 0
  | n + 1 => hr_sa S n + S n
def hr_pz (S : Int → Int) (n : Nat) (c k : Int) : Int := c * S k / hr_sa S n
def hr_sl (S : Int → Int) (n : Nat) (c : Int) : Nat → Int
  | 0 => c
  | j + 1 => hr_sl S n c j - hr_pz S n c j
/-- the piece of payer k -/
def hr_pp (S : Int → Int) (n : Nat) (c k : Int) : Int := hr_pz S n c k + if k < hr_sl S n c n then 1 else 0
theorem hr_sa_b {S : Int → Int} {n : Nat} (hS : ∀ k : Int, 0 ≤ k → k < n → 1 ≤ S k ∧ S k ≤ 99) : ∀ j : Nat, j ≤ n → (j : Int) ≤ hr_sa S j ∧ hr_sa S j ≤ 99 * j
  | 0, _ => by unfold hr_sa; omega
  | j + 1, hj => by
    have i := hr_sa_b hS j (by omega)
    have g := hS j (by omega) (by omega)
    show _ ≤ hr_sa S j + S j ∧ hr_sa S j + S j ≤ _
    omega
theorem hr_sa_ge {S : Int → Int} {n : Nat} (hS : ∀ k : Int, 0 ≤ k → k < n → 1 ≤ S k ∧ S k ≤ 99) {k : Int} (hk : 0 ≤ k) : ∀ j : Nat, j ≤ n → k < j → S k ≤ hr_sa S j
  | 0, _, h => by omega
  | j + 1, hj, h => by
    have g := hS j (by omega) (by omega)
    show _ ≤ hr_sa S j + S j
    by_cases z : k = j
    · rw [z]
      have := (hr_sa_b hS j (by omega)).1
      omega
    · have := hr_sa_ge hS hk j (by omega) (by omega)
      omega
theorem hr_mul99 {a b : Int} (ha : 0 ≤ a ∧ a ≤ 30000000) (hb : 0 ≤ b ∧ b ≤ 99) : 0 ≤ a * b ∧ a * b ≤ 2970000000 := by
  have h1 : 0 ≤ a * b := Int.mul_nonneg ha.1 hb.1
  have h2 : a * b ≤ 30000000 * 99 := Int.mul_le_mul ha.2 hb.2 hb.1 (by decide)
  omega
theorem hr_pz_b {S : Int → Int} {n : Nat} {c k : Int} (hS : ∀ k : Int, 0 ≤ k → k < n → 1 ≤ S k ∧ S k ≤ 99) (hc : 0 ≤ c ∧ c ≤ 30000000) (hk : 0 ≤ k ∧ k < n) : (0 ≤ c * S k ∧ c * S k ≤ 2970000000) ∧ 0 ≤ hr_pz S n c k ∧ hr_pz S n c k ≤ c := by
  have g := hS k hk.1 hk.2
  have a := hr_sa_b hS n (Nat.le_refl _)
  have ge := hr_sa_ge hS hk.1 n (Nat.le_refl _) hk.2
  have m := hr_mul99 hc ⟨by omega, g.2⟩
  refine ⟨m, ?_⟩
  unfold hr_pz
  exact ⟨Int.ediv_nonneg m.1 (by omega), Int.ediv_le_of_le_mul (by omega) (Int.mul_le_mul_of_nonneg_left ge hc.1)⟩
theorem hr_sl_b {S : Int → Int} {n : Nat} {c : Int} (hS : ∀ k : Int, 0 ≤ k → k < n → 1 ≤ S k ∧ S k ≤ 99) (hc : 0 ≤ c ∧ c ≤ 30000000) : ∀ j : Nat, j ≤ n → c - 30000000 * j ≤ hr_sl S n c j ∧ hr_sl S n c j ≤ c
  | 0, _ => by unfold hr_sl; omega
  | j + 1, hj => by
    have i := hr_sl_b hS hc j (by omega)
    have p := (hr_pz_b hS hc (k := j) (by omega)).2
    show _ ≤ hr_sl S n c j - hr_pz S n c j ∧ hr_sl S n c j - hr_pz S n c j ≤ c
    omega
theorem hr_pp_b {S : Int → Int} {n : Nat} {c k : Int} (hS : ∀ k : Int, 0 ≤ k → k < n → 1 ≤ S k ∧ S k ≤ 99) (hc : 0 ≤ c ∧ c ≤ 30000000) (hk : 0 ≤ k ∧ k < n) : 0 ≤ hr_pp S n c k ∧ hr_pp S n c k ≤ c + 1 := by
  have p := (hr_pz_b hS hc hk).2
  unfold hr_pp
  split <;> omega
theorem c_fill2 {d : Nat} {σ : hh_S} {Q : Int → hh_S → Prop} (hq : ∀ ρ : hh_S, (∀ r : Nat, r ≠ 127 → ρ r = σ r) → (∀ i : Int, 0 ≤ i → i < 3 → ρ 127 i = 0) → Q 0 ρ) : hh_Sp (d + 1) hm_J7_fill_53178 [hh_R 127, hh_I 0] σ Q := by
  refine wp_J7_fill_53178_i2 _ (fun _ _ => ?_)
  refine hh_lp3_of (fun n x1 x2 x3 τ => (x1 = 0 ∧ x3 = 3 ∧ 0 ≤ x2 ∧ x2 ≤ 3 ∧ 3 - x2 ≤ n) ∧ (∀ r : Nat, r ≠ 127 → τ r = σ r) ∧ (∀ i : Int, 0 ≤ i → i < x2 → τ 127 i = 0)) ?_ 3 0 0 3 σ ⟨by omega, fun _ _ => rfl, fun i i1 i2 => by omega⟩
  rintro n x1 x2 x3 τ k ⟨⟨rfl, rfl, i1, i2, i3⟩, i4, i5⟩ hk
  unfold B_J7_fill_53178_i2_5
  refine ⟨fun c => hq τ i4 (fun i z1 z2 => i5 i z1 (by omega)), fun c => ⟨by omega, ?_⟩⟩
  repeat' (first | with_reducible refine And.intro ?_ ?_ | with_reducible refine hh_all_eq ?_ | simp (disch := omega) only [hh_up_ne, hh_up_at, hh_up_off, not_true_eq_false, not_false_eq_true, false_implies, true_implies, implies_true, and_true, true_and, Int.add_zero] | with_reducible intro _ | omega)
  refine hk (n - 1) _ _ _ _ (by omega) ⟨by omega, fun r hr => by rw [hh_up_ne hr]; exact i4 r hr, fun i z1 z2 => ?_⟩
  by_cases z : i = x2
  · rw [z, hh_up_at]
  · rw [hh_up_off z]; exact i5 i z1 (by omega)
set_option maxHeartbeats 2000000 in
theorem c_X5_split {d : Nat} {σ : hh_S} {S : Int → Int} {n : Nat} {m c : Int} {Q : Int → hh_S → Prop} (hm : 0 ≤ m ∧ m < 10) (hn : σ 17 m = n ∧ 1 ≤ n ∧ n ≤ 3) (hS : ∀ k : Int, 0 ≤ k → k < n → 1 ≤ S k ∧ S k ≤ 99) (hσ : ∀ k : Int, 0 ≤ k → k < n → σ 19 (m * 3 + k) = S k) (hc : 0 ≤ c ∧ c ≤ 30000000) (hq : ∀ ρ : hh_S, (∀ r : Nat, r ≠ 127 → ρ r = σ r) → (∀ k : Int, 0 ≤ k → k < n → ρ 127 k = hr_pp S n c k) → (∀ k : Int, n ≤ k → k < 3 → ρ 127 k = 0) → Q 0 ρ) : hh_Sp (d + 2) hm_X5_split [hh_R 13, hh_I m, hh_I c, hh_R 127] σ Q := by
  refine wp_X5_split _ _ (fun _ _ _ => ?_)
  unfold P_X5_split
  refine ⟨by omega, ?_⟩
  rw [hn.1]
  have sN := hr_sa_b hS n (Nat.le_refl _)
  have L3 : ∀ τ0 : hh_S, (∀ r : Nat, r ≠ 127 → τ0 r = σ r) → (∀ k : Int, 0 ≤ k → k < n → τ0 127 k = hr_pz S n c k) → (∀ k : Int, n ≤ k → k < 3 → τ0 127 k = 0) → B_X5_split_115 (d + 1) Q n (hr_sl S n c n) τ0 := by
    intro τ0 r0 v0 w0
    have lb := hr_sl_b hS hc n (Nat.le_refl _)
    unfold B_X5_split_115
    refine hh_lp3_of (fun i x4 x7 x8 τ => x4 = n ∧ (∀ r : Nat, r ≠ 127 → τ r = σ r) ∧ ∃ j : Nat, (x8 = j ∧ j ≤ n ∧ n - j ≤ i ∧ x7 = hr_sl S n c n - j ∧ (j = 0 ∨ (j : Int) ≤ hr_sl S n c n)) ∧ (∀ k : Int, 0 ≤ k → k < j → τ 127 k = hr_pz S n c k + 1) ∧ (∀ k : Int, (j : Int) ≤ k → k < n → τ 127 k = hr_pz S n c k) ∧ (∀ k : Int, n ≤ k → k < 3 → τ 127 k = 0)) ?_ n n (hr_sl S n c n) 0 τ0 ⟨rfl, r0, 0, ⟨rfl, by omega, by omega, by omega, Or.inl rfl⟩, fun k k1 k2 => by omega, fun k k1 k2 => v0 k (by omega) k2, w0⟩
    rintro i x4 x7 x8 τ kk ⟨rfl, r1, j, ⟨rfl, j1, j2, rfl, j3⟩, v1, v2, v3⟩ hk
    have FIN : (j = n ∨ hr_sl S n c n ≤ j) → Q 0 τ := by
      intro hj
      refine hq τ r1 (fun k k1 k2 => ?_) v3
      unfold hr_pp
      by_cases z : k < j
      · rw [v1 k k1 z, if_pos (by omega)]
      · rw [v2 k (by omega) k2, if_neg (by omega), Int.add_zero]
    unfold B_X5_split_118
    refine ⟨fun z => FIN (Or.inl (by omega)), fun z => ⟨fun z2 => by omega, fun z2 => ⟨fun z3 => FIN (Or.inr (by omega)), fun z3 => ?_⟩⟩⟩
    have pj := (hr_pz_b hS hc (k := j) (by omega)).2
    have vj := v2 j (by omega) (by omega)
    refine ⟨by omega, hk (i - 1) _ _ _ _ (by omega) ⟨rfl, fun r hr => by rw [hh_up_ne hr]; exact r1 r hr, j + 1, ⟨by omega, by omega, by omega, by omega, Or.inr (by omega)⟩, fun k k1 k2 => ?_, fun k k1 k2 => ?_, fun k k1 k2 => ?_⟩⟩
    · by_cases y : k = j
      · rw [y, hh_up_at, vj]
      · rw [hh_up_off y]; exact v1 k k1 (by omega)
    · rw [hh_up_off (by omega)]; exact v2 k (by omega) k2
    · rw [hh_up_off (by omega)]; exact v3 k k1 k2
  have L2 : B_X5_split_47 (d + 1) Q c n (m * 3) (hr_sa S n) σ := by
    unfold B_X5_split_47
    refine c_fill2 (fun π r0 w0 => ?_)
    refine hh_lp6_of (fun i x2 x4 x5 x6 x7 x8 τ => (x2 = c ∧ x4 = n ∧ x5 = m * 3 ∧ x6 = hr_sa S n) ∧ (∀ r : Nat, r ≠ 127 → τ r = σ r) ∧ ∃ j : Nat, (x8 = j ∧ j ≤ n ∧ n - j ≤ i ∧ x7 = hr_sl S n c j) ∧ (∀ k : Int, 0 ≤ k → k < j → τ 127 k = hr_pz S n c k) ∧ (∀ k : Int, (j : Int) ≤ k → k < 3 → τ 127 k = 0)) ?_ n c n (m * 3) (hr_sa S n) c 0 π ⟨⟨rfl, rfl, rfl, rfl⟩, r0, 0, ⟨rfl, by omega, by omega, rfl⟩, fun k k1 k2 => by omega, fun k k1 k2 => w0 k (by omega) k2⟩
    rintro i x2 x4 x5 x6 x7 x8 τ kk ⟨⟨rfl, rfl, rfl, rfl⟩, r1, j, ⟨rfl, j1, j2, rfl⟩, v1, v2⟩ hk
    have lb := hr_sl_b hS hc j j1
    unfold B_X5_split_58
    refine ⟨fun z => ?_, fun z => ⟨fun z2 => by omega, fun z2 => ⟨fun z3 => by omega, fun z3 => ?_⟩⟩⟩
    · have ej : j = n := by omega
      rw [ej] at v1 v2 ⊢
      exact L3 τ r1 v1 v2
    have pj := hr_pz_b hS hc (k := j) (by omega)
    rw [r1 19 (by omega), hσ j (by omega) (by omega)]
    rw [show x2 * S j / hr_sa S n = hr_pz S n x2 j from rfl]
    refine ⟨by omega, hk (i - 1) _ _ _ _ _ _ _ (by omega) ⟨⟨rfl, rfl, rfl, rfl⟩, fun r hr => by rw [hh_up_ne hr]; exact r1 r hr, j + 1, ⟨by omega, by omega, by omega, rfl⟩, fun k k1 k2 => ?_, fun k k1 k2 => ?_⟩⟩
    · by_cases y : k = j
      · rw [y, hh_up_at]
      · rw [hh_up_off y]; exact v1 k k1 (by omega)
    · rw [hh_up_off (by omega)]; exact v2 k (by omega) k2
  refine hh_lp5_of (fun i x2 x4 x5 x6 x7 τ => τ = σ ∧ (x2 = c ∧ x4 = n ∧ x5 = m * 3) ∧ ∃ j : Nat, x7 = j ∧ j ≤ n ∧ n - j ≤ i ∧ x6 = hr_sa S j) ?_ n c n (m * 3) 0 0 σ ⟨rfl, ⟨rfl, rfl, rfl⟩, 0, rfl, by omega, by omega, rfl⟩
  rintro i x2 x4 x5 x6 x7 τ kk ⟨rfl, ⟨rfl, rfl, rfl⟩, j, rfl, j1, j2, rfl⟩ hk
  unfold B_X5_split_19
  refine ⟨fun z => by rw [show j = n by omega]; exact L2, fun z => ?_⟩
  have sj := hr_sa_b hS j j1
  have Sj := hS j (by omega) (by omega)
  rw [hσ j (by omega) (by omega)]
  exact ⟨by omega, hk (i - 1) _ _ _ _ _ _ (by omega) ⟨rfl, ⟨rfl, rfl, rfl⟩, j + 1, by omega, by omega, by omega, rfl⟩⟩
set_option maxHeartbeats 2000000 in
theorem c_X12_split {d : Nat} {σ : hh_S} {s S : Int → Int} {n : Nat} {m c : Int} {Q : Int → hh_S → Prop} (hs : σ 129 = s) (hm : 0 ≤ m ∧ m < 10) (hn : s (50 + 20 * m + 10) = n ∧ 1 ≤ n ∧ n ≤ 3) (hS : ∀ k : Int, 0 ≤ k → k < n → 1 ≤ S k ∧ S k ≤ 99) (hσ : ∀ k : Int, 0 ≤ k → k < n → s (50 + 20 * m + 14 + k) = S k) (hc : 0 ≤ c ∧ c ≤ 30000000) (hq : ∀ ρ : hh_S, (∀ r : Nat, r ≠ 138 → ρ r = σ r) → (∀ k : Int, 0 ≤ k → k < n → ρ 138 k = hr_pp S n c k) → Q 0 ρ) : hh_Sp (d + 2) hm_X12_split [hh_R 128, hh_I m, hh_I c] σ Q := by
  refine wp_X12_split _ _ (fun _ _ _ => ?_)
  unfold P_X12_split
  rw [hs]
  refine ⟨by omega, ?_⟩
  rw [hn.1]
  have sN := hr_sa_b hS n (Nat.le_refl _)
  have L3 : ∀ τ0 : hh_S, (∀ r : Nat, r ≠ 138 → τ0 r = σ r) → (∀ k : Int, 0 ≤ k → k < n → τ0 138 k = hr_pz S n c k) → B_X12_split_114 (d + 1) Q n (hr_sl S n c n) τ0 := by
    intro τ0 r0 v0
    have lb := hr_sl_b hS hc n (Nat.le_refl _)
    unfold B_X12_split_114
    refine hh_lp3_of (fun i x4 x7 x8 τ => x4 = n ∧ (∀ r : Nat, r ≠ 138 → τ r = σ r) ∧ ∃ j : Nat, (x8 = j ∧ j ≤ n ∧ n - j ≤ i ∧ x7 = hr_sl S n c n - j ∧ (j = 0 ∨ (j : Int) ≤ hr_sl S n c n)) ∧ (∀ k : Int, 0 ≤ k → k < j → τ 138 k = hr_pz S n c k + 1) ∧ (∀ k : Int, (j : Int) ≤ k → k < n → τ 138 k = hr_pz S n c k)) ?_ n n (hr_sl S n c n) 0 τ0 ⟨rfl, r0, 0, ⟨rfl, by omega, by omega, by omega, Or.inl rfl⟩, fun k k1 k2 => by omega, fun k k1 k2 => v0 k (by omega) k2⟩
    rintro i x4 x7 x8 τ kk ⟨rfl, r1, j, ⟨rfl, j1, j2, rfl, j3⟩, v1, v2⟩ hk
    have FIN : (j = n ∨ hr_sl S n c n ≤ j) → Q 0 τ := by
      intro hj
      refine hq τ r1 (fun k k1 k2 => ?_)
      unfold hr_pp
      by_cases z : k < j
      · rw [v1 k k1 z, if_pos (by omega)]
      · rw [v2 k (by omega) k2, if_neg (by omega), Int.add_zero]
    unfold B_X12_split_117
    refine ⟨fun z => FIN (Or.inl (by omega)), fun z => ⟨fun z3 => FIN (Or.inr (by omega)), fun z3 => ?_⟩⟩
    have pj := (hr_pz_b hS hc (k := j) (by omega)).2
    have vj := v2 j (by omega) (by omega)
    refine ⟨by omega, hk (i - 1) _ _ _ _ (by omega) ⟨rfl, fun r hr => by rw [hh_up_ne hr]; exact r1 r hr, j + 1, ⟨by omega, by omega, by omega, by omega, Or.inr (by omega)⟩, fun k k1 k2 => ?_, fun k k1 k2 => ?_⟩⟩
    · by_cases y : k = j
      · rw [y, hh_up_at, vj]
      · rw [hh_up_off y]; exact v1 k k1 (by omega)
    · rw [hh_up_off (by omega)]; exact v2 k (by omega) k2
  have L2 : B_X12_split_55 (d + 1) Q c (50 + 20 * m) n (hr_sa S n) σ := by
    unfold B_X12_split_55
    refine hh_lp6_of (fun i x2 x3 x4 x5 x6 x7 τ => (x2 = c ∧ x3 = 50 + 20 * m ∧ x4 = n ∧ x5 = hr_sa S n) ∧ (∀ r : Nat, r ≠ 138 → τ r = σ r) ∧ ∃ j : Nat, (x7 = j ∧ j ≤ n ∧ n - j ≤ i ∧ x6 = hr_sl S n c j) ∧ (∀ k : Int, 0 ≤ k → k < j → τ 138 k = hr_pz S n c k)) ?_ n c (50 + 20 * m) n (hr_sa S n) c 0 σ ⟨⟨rfl, rfl, rfl, rfl⟩, fun _ _ => rfl, 0, ⟨rfl, by omega, by omega, rfl⟩, fun k k1 k2 => by omega⟩
    rintro i x2 x3 x4 x5 x6 x7 τ kk ⟨⟨rfl, rfl, rfl, rfl⟩, r1, j, ⟨rfl, j1, j2, rfl⟩, v1⟩ hk
    have lb := hr_sl_b hS hc j j1
    unfold B_X12_split_61
    refine ⟨fun z => ?_, fun z => ?_⟩
    · have ej : j = n := by omega
      rw [ej] at v1 ⊢
      exact L3 τ r1 v1
    have pj := hr_pz_b hS hc (k := j) (by omega)
    rw [r1 129 (by omega), hs, hσ j (by omega) (by omega)]
    rw [show x2 * S j / hr_sa S n = hr_pz S n x2 j from rfl]
    refine ⟨by omega, hk (i - 1) _ _ _ _ _ _ _ (by omega) ⟨⟨rfl, rfl, rfl, rfl⟩, fun r hr => by rw [hh_up_ne hr]; exact r1 r hr, j + 1, ⟨by omega, by omega, by omega, rfl⟩, fun k k1 k2 => ?_⟩⟩
    by_cases y : k = j
    · rw [y, hh_up_at]
    · rw [hh_up_off y]; exact v1 k k1 (by omega)
  refine hh_lp5_of (fun i x2 x3 x4 x5 x6 τ => τ = σ ∧ (x2 = c ∧ x3 = 50 + 20 * m ∧ x4 = n) ∧ ∃ j : Nat, x6 = j ∧ j ≤ n ∧ n - j ≤ i ∧ x5 = hr_sa S j) ?_ n c (50 + 20 * m) n 0 0 σ ⟨rfl, ⟨rfl, rfl, rfl⟩, 0, rfl, by omega, by omega, rfl⟩
  rintro i x2 x3 x4 x5 x6 τ kk ⟨rfl, ⟨rfl, rfl, rfl⟩, j, rfl, j1, j2, rfl⟩ hk
  unfold B_X12_split_25
  refine ⟨fun z => by rw [show j = n by omega]; exact L2, fun z => ?_⟩
  have sj := hr_sa_b hS j j1
  have Sj := hS j (by omega) (by omega)
  rw [hs, hσ j (by omega) (by omega)]
  exact ⟨by omega, hk (i - 1) _ _ _ _ _ _ (by omega) ⟨rfl, ⟨rfl, rfl, rfl⟩, j + 1, by omega, by omega, by omega, rfl⟩⟩
