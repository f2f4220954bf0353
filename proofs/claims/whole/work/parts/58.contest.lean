set_option maxHeartbeats 2000000 in
theorem c_canGiveBack {d : Nat} {σ : hh_S} {b m : Int} {Q : Int → hh_S → Prop} (hb : 0 ≤ b ∧ b < 16) (hm : σ 43 b = m ∧ 0 ≤ m ∧ m < 10) (hn : 1 ≤ σ 17 m ∧ σ 17 m ≤ 3) (hc : ∀ i : Int, 0 ≤ i → i < σ 17 m → 0 ≤ σ 18 (m * 3 + i) ∧ σ 18 (m * 3 + i) < 5) (hv : ∀ i : Int, 0 ≤ i → i < σ 17 m → (0 ≤ σ 127 i ∧ σ 127 i ≤ 30000000) ∧ (0 ≤ σ 49 (b * 3 + i) ∧ σ 49 (b * 3 + i) ≤ 30000000) ∧ 0 ≤ σ 7 (σ 18 (m * 3 + i)) ∧ σ 7 (σ 18 (m * 3 + i)) ≤ 9999999) (h1 : (∀ i : Int, 0 ≤ i → i < σ 17 m → σ 7 (σ 18 (m * 3 + i)) + (σ 127 i - hh_min (σ 127 i) (σ 49 (b * 3 + i))) ≤ 9999999) → Q 1 σ) (h0 : ∀ i : Int, 0 ≤ i → i < σ 17 m → ¬ σ 7 (σ 18 (m * 3 + i)) + (σ 127 i - hh_min (σ 127 i) (σ 49 (b * 3 + i))) ≤ 9999999 → Q 0 σ) : hh_Sp (d + 1) hm_X11_canGiveBack [hh_R 0, hh_I b] σ Q := by
  refine wp_X11_canGiveBack _ (fun _ _ => ?_)
  unfold P_X11_canGiveBack
  rw [hm.1]
  refine ⟨by omega, ?_⟩
  refine hh_lp3_of (fun n x1 x2 x3 τ => τ = σ ∧ (x1 = b ∧ x2 = m) ∧ (0 ≤ x3 ∧ x3 ≤ σ 17 m ∧ 3 - x3 ≤ n) ∧ ∀ i : Int, 0 ≤ i → i < x3 → σ 7 (σ 18 (m * 3 + i)) + (σ 127 i - hh_min (σ 127 i) (σ 49 (b * 3 + i))) ≤ 9999999) ?_ 3 b m 0 σ ⟨rfl, ⟨rfl, rfl⟩, by omega, fun i i1 i2 => by omega⟩
  rintro n x1 x2 x3 τ kk ⟨rfl, ⟨rfl, rfl⟩, f1, f2⟩ hk
  unfold B_X11_canGiveBack_15
  refine ⟨by omega, fun z => h1 (fun i i1 i2 => f2 i i1 (by omega)), fun z => ?_⟩
  have c3 := hc x3 (by omega) (by omega)
  have v3 := hv x3 (by omega) (by omega)
  have H1 := h0 x3 (by omega) (by omega)
  have e : hh_max 0 (τ 127 x3 - τ 49 (x1 * 3 + x3)) = τ 127 x3 - hh_min (τ 127 x3) (τ 49 (x1 * 3 + x3)) := by
    unfold hh_max hh_min
    repeat' split
    all_goals omega
  have mb : 0 ≤ hh_min (τ 127 x3) (τ 49 (x1 * 3 + x3)) ∧ hh_min (τ 127 x3) (τ 49 (x1 * 3 + x3)) ≤ τ 127 x3 := by
    unfold hh_min
    split <;> omega
  rw [e]
  refine ⟨by omega, fun y => ⟨by omega, hk (n - 1) _ _ _ _ (by omega) ⟨rfl, ⟨rfl, rfl⟩, by omega, fun i i1 i2 => ?_⟩⟩, fun y => H1 y⟩
  by_cases x : i = x3
  · rw [x]; exact y
  · exact f2 i i1 (by omega)
set_option maxHeartbeats 2000000 in
theorem c_giveBack {d : Nat} {σ ω : hh_S} {b m : Int} {P : Int → Int} {N : Nat} {Q : Int → hh_S → Prop} (hb : 0 ≤ b ∧ b < 16) (hm : σ 43 b = m ∧ 0 ≤ m ∧ m < 10) (hn : σ 17 m = N ∧ 1 ≤ N ∧ N ≤ 3) (hω : ∀ r : Nat, r = 7 ∨ r = 17 ∨ r = 18 ∨ r = 43 ∨ r = 49 → σ r = ω r) (hc : ∀ i : Int, 0 ≤ i → i < N → 0 ≤ ω 18 (m * 3 + i) ∧ ω 18 (m * 3 + i) < 5) (hP : ∀ i : Int, 0 ≤ i → i < N → σ 127 i = P i) (hv : ∀ i : Nat, i < N → (0 ≤ P i ∧ P i ≤ 30000000) ∧ (0 ≤ hr_gv ω b m P i 49 (b * 3 + i) ∧ hr_gv ω b m P i 49 (b * 3 + i) ≤ 30000000) ∧ 0 ≤ hr_gv ω b m P i 7 (ω 18 (m * 3 + i)) ∧ hr_gv ω b m P i 7 (ω 18 (m * 3 + i)) ≤ 9999999) (hq : ∀ ρ : hh_S, (∀ r : Nat, r ≠ 7 → r ≠ 49 → ρ r = σ r) → ρ 7 = hr_gv ω b m P N 7 → ρ 49 = hr_gv ω b m P N 49 → Q 0 ρ) : hh_Sp (d + 1) hm_X11_giveBack [hh_R 0, hh_I b] σ Q := by
  refine wp_X11_giveBack _ (fun _ _ => ?_)
  unfold P_X11_giveBack
  rw [hm.1]
  refine ⟨by omega, ?_⟩
  refine hh_lp3_of (fun n x1 x2 x3 τ => (x1 = b ∧ x2 = m) ∧ (∀ r : Nat, r ≠ 7 → r ≠ 49 → τ r = σ r) ∧ ∃ j : Nat, (x3 = j ∧ j ≤ N ∧ N - j ≤ n) ∧ τ 7 = hr_gv ω b m P j 7 ∧ τ 49 = hr_gv ω b m P j 49) ?_ 3 b m 0 σ ⟨⟨rfl, rfl⟩, fun _ _ _ => rfl, 0, ⟨rfl, by omega, by omega⟩, hω 7 (by omega), hω 49 (by omega)⟩
  rintro n x1 x2 x3 τ kk ⟨⟨rfl, rfl⟩, r1, j, ⟨rfl, f1, f2⟩, g1, g2⟩ hk
  unfold B_X11_giveBack_15
  rw [r1 17 (by omega) (by omega), hn.1]
  refine ⟨by omega, fun z => ?_, fun z => ?_⟩
  · have ej : j = N := by omega
    rw [ej] at g1 g2
    exact hq τ r1 g1 g2
  have cj := hc j (by omega) (by omega)
  have vj := hv j (by omega)
  rw [r1 127 (by omega) (by omega), hP j (by omega) (by omega), r1 18 (by omega) (by omega), hω 18 (by omega), g1, g2]
  have mb : 0 ≤ hh_min (P j) (hr_gv ω x1 x2 P j 49 (x1 * 3 + j)) ∧ hh_min (P j) (hr_gv ω x1 x2 P j 49 (x1 * 3 + j)) ≤ P j ∧ hh_min (P j) (hr_gv ω x1 x2 P j 49 (x1 * 3 + j)) ≤ hr_gv ω x1 x2 P j 49 (x1 * 3 + j) := by
    unfold hh_min
    split <;> omega
  refine ⟨by omega, hk (n - 1) _ _ _ _ (by omega) ⟨⟨rfl, rfl⟩, fun r q1 q2 => by rw [hh_up_ne q1, hh_up_ne q2]; exact r1 r q1 q2, j + 1, ⟨by omega, by omega, by omega⟩, ?_, ?_⟩⟩
  · show _ = hh_up _ _ _ _ 7
    rw [hh_up_eq, hh_up_ne (by omega), g1, hh_up_ne (by omega), hh_up_ne (by omega), hh_up_eq, hh_up_ne (by omega)]
  · show _ = hh_up _ _ _ _ 49
    rw [hh_up_ne (by omega), hh_up_eq, g2, hh_up_ne (by omega), hh_up_ne (by omega), hh_up_ne (by omega), hh_up_eq]
