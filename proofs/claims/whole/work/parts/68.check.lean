def hr_okb (T N : Nat) (st : hr_St) : Prop := st.2.1 ≠ -1 → ∀ i : Int, 0 ≤ i → i < T → 0 ≤ st.2.2 i ∧ st.2.2 i < N
theorem hr_fq_ok {F : Int → hr_St → Int × hr_St} {g : Int → Bool} {T N : Nat} (hF : ∀ (m : Int) (st : hr_St), 0 ≤ m → m < N → hr_okb T N st → hr_okb T N (F m st).2) : ∀ (r : Nat) (m : Int) (st : hr_St), 0 ≤ m → m + r ≤ N → hr_okb T N st → hr_okb T N (hr_fq F g r m st).2
  | 0, _, _, _, _, h => h
  | r + 1, m, st, h0, h1, h => by
    have f := hF m (st.1 - 1, st.2) h0 (by omega) h
    unfold hr_fq
    split
    · exact hr_fq_ok hF r _ _ (by omega) (by omega) h
    · split
      · exact h
      · split
        · exact f
        · exact hr_fq_ok hF r _ _ (by omega) (by omega) f
theorem hr_sk_ok {s : Int → Int} {T N : Nat} : ∀ (k : Nat), k ≤ T → ∀ (left ch : Int → Int) (cost : Int) (st : hr_St), (∀ i : Int, 0 ≤ i → i < (T : Int) - k → 0 ≤ ch i ∧ ch i < N) → hr_okb T N st → hr_okb T N (hr_sk s T N k left ch cost st).2
  | 0, _, left, ch, cost, st, hc, h => by
    show hr_okb T N (if _ then _ else _)
    split
    · exact fun _ i i1 i2 => hc i i1 (by omega)
    · exact h
  | k + 1, hk, left, ch, cost, st, hc, h => by
    refine hr_fq_ok (fun m st' m1 m2 h' => ?_) N 0 st (by omega) (by omega) h
    refine hr_sk_ok k (by omega) _ _ _ st' (fun i i1 i2 => ?_) h'
    unfold hr_ud
    by_cases z : i = (T : Int) - ((k : Int) + 1)
    · rw [if_pos z]; omega
    · rw [if_neg z]; exact hc i i1 (by omega)
theorem hr_R0_ok (s : Int → Int) (tries : Int) : hr_okb (s 11).toNat (s 4).toNat (hr_R0 s tries).2 :=
  hr_sk_ok _ (Nat.le_refl _) _ _ _ _ (fun i i1 i2 => by omega) (fun ne => absurd rfl ne)
def hr_ex (s be : Int → Int) (i : Int) : Int := if i % 2 = 1 then hr_sc s be (i / 2 + 1).toNat else be (i / 2)
/-- the answer of check -/
def hr_ck (s be told : Int → Int) (n m r : Int) : Prop := (r = 0 ∧ n = m ∧ ∀ j : Int, 0 ≤ j → j < n → told j = hr_ex s be j) ∨ ∃ i : Int, (r = 1 + i ∧ 0 ≤ i) ∧ (∀ j : Int, 0 ≤ j → j < i → (j < n ∧ j < m) ∧ told j = hr_ex s be j) ∧ ¬ ((i < n ∧ i < m) ∧ told i = hr_ex s be i) ∧ ¬ (i = n ∧ i = m)
theorem hr_ck.un {s be told : Int → Int} {n m r r' : Int} (hn : 0 ≤ n) (h : hr_ck s be told n m r) (h' : hr_ck s be told n m r') : r = r' := by
  rcases h with ⟨a, b, c⟩ | ⟨i, ⟨a, a0⟩, b, c, d⟩
  · rcases h' with ⟨a', b', c'⟩ | ⟨i', ⟨a', a0'⟩, b', c', d'⟩
    · omega
    · exfalso
      by_cases z : i' < n
      · exact c' ⟨by omega, c i' a0' z⟩
      · by_cases y : i' = n
        · omega
        · have := (b' n hn (by omega)).1; omega
  · rcases h' with ⟨a', b', c'⟩ | ⟨i', ⟨a', a0'⟩, b', c', d'⟩
    · exfalso
      by_cases z : i < n
      · exact c ⟨by omega, c' i a0 z⟩
      · by_cases y : i = n
        · omega
        · have := (b n hn (by omega)).1; omega
    · rcases (show i < i' ∨ i = i' ∨ i' < i by omega) with z | z | z
      · exact absurd (b' i a0 z) c
      · omega
      · exact absurd (b i' a0' z) c'
