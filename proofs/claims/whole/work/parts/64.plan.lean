def hr_Fl (s : Int → Int) (T N j : Nat) (left ch : Int → Int) (cost : Int) : Int → hr_St → Int × hr_St := fun p st => hr_sk s T N (T - 1 - j) (hr_ud left p (left p - s (1822 + 3 * (j : Int) + 1))) (hr_ud ch j p) (cost + hr_co s j p) st
def hr_gl (s : Int → Int) (j : Nat) (left : Int → Int) : Int → Bool := fun p => decide (hr_my s j p ∧ s (1822 + 3 * (j : Int) + 1) ≤ left p)
def hr_th (r : Int × hr_St) (K : hr_St → Int × hr_St) : Int × hr_St := if r.1 = 0 then r else K r.2
def hr_sta (s : Int → Int) (T N : Nat) (tr cs L0 : Int → Int) : Nat → (Int → Int) → (Int → Int) → Int → (hr_St → Int × hr_St) → Prop
  | 0, left, ch, cost, K => left = L0 ∧ ch = (fun _ => 0) ∧ cost = 0 ∧ K = fun st => (1, st)
  | j + 1, left', ch', cost', K' => ∃ (left ch : Int → Int) (cost : Int) (K : hr_St → Int × hr_St) (p : Int) (m : Nat), hr_sta s T N tr cs L0 j left ch cost K ∧ (cs j = p ∧ 0 ≤ p ∧ p < N) ∧ (tr j = m ∧ m ≤ N) ∧ (∀ q : Int, 0 ≤ q → q < N → 0 ≤ left q ∧ left q ≤ 9999) ∧ left' = hr_ud left p (left p - s (1822 + 3 * (j : Int) + 1)) ∧ ch' = hr_ud ch j p ∧ cost' = cost + hr_co s j p ∧ K' = fun st => hr_th (hr_fq (hr_Fl s T N j left ch cost) (hr_gl s j left) (N - m) m st) K
theorem hr_sta.cg {s : Int → Int} {T N : Nat} {tr cs tr' cs' L0 : Int → Int} : ∀ (t : Nat) {left ch : Int → Int} {cost : Int} {K : hr_St → Int × hr_St}, hr_sta s T N tr cs L0 t left ch cost K → (∀ i : Int, 0 ≤ i → i < t → tr' i = tr i ∧ cs' i = cs i) → hr_sta s T N tr' cs' L0 t left ch cost K
  | 0, _, _, _, _, h, _ => h
  | t + 1, _, _, _, _, ⟨left, ch, cost, K, p, m, h, a, b, c, d⟩, e => by
    have e0 := e t (by omega) (by omega)
    exact ⟨left, ch, cost, K, p, m, hr_sta.cg t h (fun i i1 i2 => e i i1 (by omega)), by rw [e0.2]; exact a, by rw [e0.1]; exact b, c, d⟩
/-- what the chosen ones cost -/
def hr_sc (s cs : Int → Int) : Nat → Int
  | 0 => 0
  | t + 1 => hr_sc s cs t + hr_co s t (cs t)
theorem hr_sta.f {s : Int → Int} {T N : Nat} {tr cs L0 : Int → Int} : ∀ (t : Nat) {left ch : Int → Int} {cost : Int} {K : hr_St → Int × hr_St}, hr_sta s T N tr cs L0 t left ch cost K → cost = hr_sc s cs t ∧ (∀ i : Int, 0 ≤ i → i < t → ch i = cs i ∧ 0 ≤ cs i ∧ cs i < N)
  | 0, _, _, _, _, h => ⟨h.2.2.1, fun i i1 i2 => by omega⟩
  | t + 1, _, _, _, _, ⟨left, ch, cost, K, p, m, h, a, b, c, d1, d2, d3, d4⟩ => by
    have i := hr_sta.f t h
    refine ⟨?_, fun j j1 j2 => ?_⟩
    · rw [d3, i.1, ← a.1]
      rfl
    · rw [d2]
      unfold hr_ud
      by_cases z : j = t
      · rw [if_pos z, z, a.1]
        exact ⟨rfl, a.2⟩
      · rw [if_neg z]
        exact i.2 j j1 (by omega)
/-- how many are still to be tried below level t -/
def hr_mz (tr : Int → Int) (N : Int) : Nat → Int
  | 0 => 0
  | t + 1 => hr_mz tr N t + (N - tr t)
theorem hr_mz.cg {tr tr' : Int → Int} {N : Int} : ∀ t : Nat, (∀ i : Int, 0 ≤ i → i < t → tr' i = tr i) → hr_mz tr' N t = hr_mz tr N t
  | 0, _ => rfl
  | t + 1, h => by
    show hr_mz tr' N t + (N - tr' t) = hr_mz tr N t + (N - tr t)
    rw [hr_mz.cg t (fun i i1 i2 => h i i1 (by omega)), h t (by omega) (by omega)]
