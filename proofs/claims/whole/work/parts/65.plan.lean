theorem hr_step {F : Int → hr_St → Int × hr_St} {g : Int → Bool} {N m : Nat} {st : hr_St} {K : hr_St → Int × hr_St} (hm : m < N) (h : ¬ g m = false) (h2 : ¬ st.1 = 0) : hr_th (hr_fq F g (N - m) m st) K = hr_th (F m (st.1 - 1, st.2)) (fun st => hr_th (hr_fq F g (N - (m + 1)) ((m + 1 : Nat) : Int) st) K) := by
  obtain ⟨r, hr⟩ : ∃ r : Nat, N - m = r + 1 := ⟨N - m - 1, by omega⟩
  rw [hr, hr_fq_s h h2, show N - (m + 1) = r by omega, show ((m + 1 : Nat) : Int) = (m : Int) + 1 by omega]
  generalize F m (st.1 - 1, st.2) = X
  unfold hr_th
  by_cases z : X.1 = 0
  · rw [if_pos z, if_pos z, if_pos rfl]
    rw [← z]
  · rw [if_neg z, if_neg z]
def hr_lf2 (st : hr_St) (cost : Int) (ch : Int → Int) : hr_St := if st.2.1 = -1 ∨ cost < st.2.1 then (st.1, cost, ch) else st
theorem hr_sk_0 {s : Int → Int} {T N : Nat} {left ch : Int → Int} {cost : Int} {st : hr_St} : hr_sk s T N 0 left ch cost st = (1, hr_lf2 st cost ch) := rfl
theorem hr_sk_s {s : Int → Int} {T N t : Nat} (ht : t < T) {left ch : Int → Int} {cost : Int} {st : hr_St} : hr_sk s T N (T - t) left ch cost st = hr_fq (hr_Fl s T N t left ch cost) (hr_gl s t left) N 0 st := by
  obtain ⟨k, hk⟩ : ∃ k : Nat, T - t = k + 1 := ⟨T - t - 1, by omega⟩
  have e : (T : Int) - ((k : Int) + 1) = (t : Int) := by omega
  have e2 : T - 1 - t = k := by omega
  rw [hk]
  unfold hr_Fl hr_gl
  rw [e2]
  show hr_fq _ _ N 0 st = _
  rw [e]
/-- the search, at the head of the reference's loop -/
def hr_hd (s : Int → Int) (T N : Nat) (L0 : Int → Int) (R : Int × hr_St) (t : Int) (st : hr_St) (τ : hh_S) (M : Nat) : Prop :=
  (t = -1 ∧ R = (1, st)) ∨ ∃ (j : Nat) (left ch : Int → Int) (cost : Int) (K : hr_St → Int × hr_St), (t = j ∧ j ≤ T) ∧ hr_sta s T N (τ 141) (τ 140) L0 j left ch cost K ∧ (∀ q : Int, 0 ≤ q → q < N → τ 143 q = left q ∧ 0 ≤ left q ∧ left q ≤ 9999) ∧
    ((j = T ∧ R = K (hr_lf2 st cost ch) ∧ st.1 * 10 + hr_mz (τ 141) N j + j + 1 ≤ M) ∨ (j < T ∧ ∃ m : Nat, (τ 141 j = m ∧ m ≤ N) ∧ R = hr_th (hr_fq (hr_Fl s T N j left ch cost) (hr_gl s j left) (N - m) m st) K ∧ st.1 * 10 + hr_mz (τ 141) N j + (N - m) + j + 1 ≤ M))
def hr_fs (σ τ : hh_S) (T : Nat) (st : hr_St) : Prop := (∀ r : Nat, r ≠ 128 → r ≠ 140 → r ≠ 141 → r ≠ 142 → r ≠ 143 → τ r = σ r) ∧ (∀ f : Int, f ≠ 29 → τ 128 f = σ 128 f) ∧ (τ 128 29 = st.2.1 ∧ -1 ≤ st.2.1) ∧ (st.2.1 ≠ -1 → ∀ i : Int, 0 ≤ i → i < T → τ 142 i = st.2.2 i)
