/-- what is left of tries, the best cost (-1: none), the best plan -/
abbrev hr_St : Type := Int × Int × (Int → Int)
def hr_fq (F : Int → hr_St → Int × hr_St) (g : Int → Bool) : Nat → Int → hr_St → Int × hr_St
  | 0, _, st => (1, st)
  | r + 1, m, st => if g m = false then hr_fq F g r (m + 1) st else if st.1 = 0 then (0, st) else if (F m (st.1 - 1, st.2)).1 = 0 then (0, (F m (st.1 - 1, st.2)).2) else hr_fq F g r (m + 1) (F m (st.1 - 1, st.2)).2
abbrev hr_my (s : Int → Int) (t p : Int) : Prop := (s (1822 + 3 * t + 2) = 0 ∨ (s (1822 + 3 * t + 2) = 1 ∧ 1 ≤ s (20 + 3 * p) ∧ s (20 + 3 * p) ≤ 2) ∨ (¬ s (1822 + 3 * t + 2) = 0 ∧ ¬ s (1822 + 3 * t + 2) = 1 ∧ s (20 + 3 * p) = 2)) ∧ hr_bit (s (50 + 20 * s (1822 + 3 * t) + 17)) p = 0
def hr_co (s : Int → Int) (t p : Int) : Int := s (1822 + 3 * t + 1) * s (20 + 3 * p + 1) / 10
def hr_ud (f : Int → Int) (i v : Int) : Int → Int := fun j => if j = i then v else f j
def hr_sk (s : Int → Int) (T N : Nat) : Nat → (Int → Int) → (Int → Int) → Int → hr_St → Int × hr_St
  | 0, _, ch, cost, st => (1, if st.2.1 = -1 ∨ cost < st.2.1 then (st.1, cost, ch) else st)
  | k + 1, left, ch, cost, st => hr_fq (fun p st => hr_sk s T N k (hr_ud left p (left p - s (1822 + 3 * ((T : Int) - ((k : Int) + 1)) + 1))) (hr_ud ch ((T : Int) - ((k : Int) + 1)) p) (cost + hr_co s ((T : Int) - ((k : Int) + 1)) p) st) (fun p => decide (hr_my s ((T : Int) - ((k : Int) + 1)) p ∧ s (1822 + 3 * ((T : Int) - ((k : Int) + 1)) + 1) ≤ left p)) N 0 st
def hr_en (b : Int) : Int := if b = -1 then -1000000002 else b
/-- the planner's numbers stand so -/
def hr_ps1 (σ : hh_S) (T : Nat) (st : hr_St) : Prop := σ 117 6 = st.1 ∧ σ 117 5 = hr_en st.2.1 ∧ (st.2.1 ≠ -1 → ∀ i : Int, 0 ≤ i → i < T → σ 121 i = st.2.2 i)
theorem hr_mulc {a b : Int} (ha : 0 ≤ a ∧ a ≤ 999) (hb : 0 ≤ b ∧ b ≤ 999) : (0 ≤ a * b ∧ a * b ≤ 998001) ∧ 0 ≤ a * b / 10 ∧ a * b / 10 ≤ 99800 := by
  have h1 : 0 ≤ a * b := Int.mul_nonneg ha.1 hb.1
  have h2 : a * b ≤ 999 * 999 := Int.mul_le_mul ha.2 hb.2 hb.1 (by decide)
  omega
theorem c_X7_costOf {d : Nat} {σ : hh_S} {s : Int → Int} {t p : Int} {Q : Int → hh_S → Prop} (hP : hr_P σ s) (hK : hr_K σ s) (ht : 0 ≤ t ∧ t < s 11) (hp : 0 ≤ p ∧ p < s 4) (hq : (0 ≤ hr_co s t p ∧ hr_co s t p ≤ 99800) → Q (hr_co s t p) σ) : hh_Sp (d + 1) hm_X7_costOf [hh_R 117, hh_I t, hh_I p] σ Q := by
  have p1 := hP.1
  have k1 := hK.1
  have x := hP.2 p hp.1 hp.2
  have y := hK.2 t ht.1 ht.2
  refine wp_X7_costOf _ _ (fun _ _ _ => ?_)
  unfold P_X7_costOf
  rw [y.2.1.1, x.1.2.1]
  have b := hr_mulc (a := s (1822 + 3 * t + 1)) (b := s (20 + 3 * p + 1)) (by omega) (by omega)
  exact ⟨by omega, hq b.2⟩
theorem c_X12_costOf {d : Nat} {σ π : hh_S} {s : Int → Int} {t p : Int} {Q : Int → hh_S → Prop} (hs : σ 129 = s) (hP : hr_P π s) (hK : hr_K π s) (ht : 0 ≤ t ∧ t < s 11) (hp : 0 ≤ p ∧ p < s 4) (hq : (0 ≤ hr_co s t p ∧ hr_co s t p ≤ 99800) → Q (hr_co s t p) σ) : hh_Sp (d + 1) hm_X12_costOf [hh_R 128, hh_I t, hh_I p] σ Q := by
  have p1 := hP.1
  have k1 := hK.1
  have x := hP.2 p hp.1 hp.2
  have y := hK.2 t ht.1 ht.2
  refine wp_X12_costOf _ _ (fun _ _ _ => ?_)
  unfold P_X12_costOf
  rw [hs]
  have b := hr_mulc (a := s (1822 + 3 * t + 1)) (b := s (20 + 3 * p + 1)) (by omega) (by omega)
  exact ⟨by omega, hq b.2⟩
theorem c_X12_may {d : Nat} {σ π : hh_S} {s : Int → Int} {t p : Int} {Q : Int → hh_S → Prop} (hs : σ 129 = s) (hP : hr_P π s) (hM : hr_M π s) (hK : hr_K π s) (ht : 0 ≤ t ∧ t < s 11) (hp : 0 ≤ p ∧ p < s 4) (h1 : hr_my s t p ∧ s (1822 + 3 * t + 1) ≤ σ 143 p → Q 1 σ) (h0 : ¬ (hr_my s t p ∧ s (1822 + 3 * t + 1) ≤ σ 143 p) → Q 0 σ) : hh_Sp (d + 2) hm_X12_may [hh_R 128, hh_I t, hh_I p] σ Q := by
  have p1 := hP.1
  have k1 := hK.1
  have m1 := hM.1
  have x := hP.2 p hp.1 hp.2
  have y := hK.2 t ht.1 ht.2
  refine wp_X12_may _ _ (fun _ _ _ => ?_)
  have A : (s (1822 + 3 * t + 2) = 0 ∨ (s (1822 + 3 * t + 2) = 1 ∧ 1 ≤ s (20 + 3 * p) ∧ s (20 + 3 * p) ≤ 2) ∨ (¬ s (1822 + 3 * t + 2) = 0 ∧ ¬ s (1822 + 3 * t + 2) = 1 ∧ s (20 + 3 * p) = 2)) → B_X12_may_56 (d + 1) Q t p σ := by
    intro a
    unfold B_X12_may_56 B_X12_may_61
    rw [hs]
    exact ⟨fun z => by omega, fun _ => ⟨by omega, fun z => h0 (fun w => z w.1.2), fun z => ⟨by omega, fun z2 => h0 (fun w => by have := w.2; omega), fun z2 => h1 ⟨⟨a, z⟩, by omega⟩⟩⟩⟩
  have B : ¬ (s (1822 + 3 * t + 2) = 0 ∨ (s (1822 + 3 * t + 2) = 1 ∧ 1 ≤ s (20 + 3 * p) ∧ s (20 + 3 * p) ≤ 2) ∨ (¬ s (1822 + 3 * t + 2) = 0 ∧ ¬ s (1822 + 3 * t + 2) = 1 ∧ s (20 + 3 * p) = 2)) → B_X12_may_60 (d + 1) Q t p σ := by
    intro a
    unfold B_X12_may_60 B_X12_may_61
    exact ⟨fun _ => h0 (fun w => a w.1.1), fun z => by omega⟩
  unfold P_X12_may
  rw [hs]
  refine ⟨by omega, fun z => A (Or.inl z), fun z => ⟨fun z2 => ⟨fun z3 => B (by omega), fun z3 => A (Or.inr (Or.inr ⟨z, z2, z3⟩))⟩, fun z2 => ?_⟩⟩
  exact c_in (fun y1 y2 => ⟨fun w => by omega, fun _ => A (Or.inr (Or.inl ⟨z2, y1, y2⟩))⟩) (fun w => ⟨fun _ => B (by omega), fun w2 => by omega⟩)
