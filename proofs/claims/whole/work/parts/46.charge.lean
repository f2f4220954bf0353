def hr_so (O g : Int → Int) : Nat → Int
  | 0 => 0
  | n + 1 => hr_so O g n + g (O n)
theorem hr_so_cg {O A g g' : Int → Int} : ∀ n : Nat, (∀ i : Int, 0 ≤ i → i < n → g' (A i) = g (O i)) → hr_so A g' n = hr_so O g n
  | 0, _ => rfl
  | n + 1, h => by
    show hr_so A g' n + g' (A n) = hr_so O g n + g (O n)
    rw [hr_so_cg n (fun i i1 i2 => h i i1 (by omega)), h n (by omega) (by omega)]
theorem hr_so_ins {O A g : Int → Int} {e : Int} : ∀ (m p : Nat), p ≤ m → (∀ i : Int, 0 ≤ i → i < p → A i = O i) → A p = e → (∀ i : Int, (p : Int) < i → i ≤ m → A i = O (i - 1)) → hr_so A g (m + 1) = hr_so O g m + g e
  | 0, p, h, h1, h2, h3 => by
    have hp : p = 0 := by omega
    subst hp
    show 0 + g (A ((0 : Nat) : Int)) = 0 + g e
    rw [h2]
  | m + 1, p, h, h1, h2, h3 => by
    show hr_so A g (m + 1) + g (A ((m + 1 : Nat) : Int)) = hr_so O g m + g (O m) + g e
    by_cases z : p = m + 1
    · subst z
      rw [h2, hr_so_cg (O := O) (g := g) (m + 1) (fun i i1 i2 => by rw [h1 i i1 i2])]
      show hr_so O g m + g (O m) + g e = _
      rfl
    · rw [hr_so_ins m p (by omega) h1 h2 (fun i i1 i2 => h3 i i1 (by omega)), h3 ((m + 1 : Nat) : Int) (by omega) (by omega), show ((m + 1 : Nat) : Int) - 1 = (m : Int) by omega]
      omega
theorem hr_so_tail {O g : Int → Int} {i : Nat} : ∀ m : Nat, i ≤ m → (∀ j : Int, (i : Int) ≤ j → j < m → g (O j) = 0) → hr_so O g m = hr_so O g i
  | 0, h, _ => by rw [show i = 0 by omega]
  | m + 1, h, hz => by
    by_cases z : i = m + 1
    · rw [z]
    · show hr_so O g m + g (O m) = _
      rw [hz m (by omega) (by omega), hr_so_tail m (by omega) (fun j j1 j2 => hz j j1 (by omega)), Int.add_zero]
theorem hr_so_b {O g : Int → Int} {c : Int} : ∀ n : Nat, (∀ i : Int, 0 ≤ i → i < n → 0 ≤ g (O i) ∧ g (O i) ≤ c) → 0 ≤ hr_so O g n ∧ hr_so O g n ≤ c * n
  | 0, _ => by unfold hr_so; omega
  | n + 1, h => by
    have i := hr_so_b n (fun i i1 i2 => h i i1 (by omega))
    have g0 := h n (by omega) (by omega)
    have e : c * ((n + 1 : Nat) : Int) = c * n + c := by rw [show ((n + 1 : Nat) : Int) = (n : Int) + 1 by omega, Int.mul_add, Int.mul_one]
    rw [e]
    show 0 ≤ hr_so O g n + _ ∧ hr_so O g n + _ ≤ _
    omega
abbrev hr_lt (s : Int → Int) (a b : Int) : Prop := s (250 + 12 * a + 2) < s (250 + 12 * b + 2) ∨ (s (250 + 12 * a + 2) = s (250 + 12 * b + 2) ∧ a < b)
/-- the first M places of O: the known entries of a matter among the first n, by day -/
def hr_ord (s : Int → Int) (m k : Int) (O : Int → Int) (M n : Nat) : Prop := M ≤ n ∧ (∀ i : Int, 0 ≤ i → i < M → (0 ≤ O i ∧ O i < n) ∧ hr_q s m k (O i)) ∧ (∀ i j : Int, 0 ≤ i → i < j → j < M → hr_lt s (O i) (O j)) ∧ ∀ g : Int → Int, hr_so O g M = hr_se s m k g n
theorem hr_ord.no {s : Int → Int} {m k : Int} {O : Int → Int} {M n : Nat} (h : hr_ord s m k O M n) (z : ¬ hr_q s m k n) : hr_ord s m k O M (n + 1) := by
  obtain ⟨h1, h2, h3, h4⟩ := h
  refine ⟨by omega, fun i i1 i2 => ?_, h3, fun g => ?_⟩
  · have := h2 i i1 i2
    exact ⟨⟨this.1.1, by omega⟩, this.2⟩
  · rw [h4 g]
    show _ = hr_se s m k g n + _
    rw [if_neg z, Int.add_zero]
theorem hr_ord.cg {s : Int → Int} {m k : Int} {O A : Int → Int} {M n : Nat} (h : hr_ord s m k O M n) (z : ∀ i : Int, 0 ≤ i → i < M → A i = O i) : hr_ord s m k A M n := by
  obtain ⟨h1, h2, h3, h4⟩ := h
  refine ⟨h1, fun i i1 i2 => by rw [z i i1 i2]; exact h2 i i1 i2, fun i j i1 i2 i3 => by rw [z i i1 (by omega), z j (by omega) i3]; exact h3 i j i1 i2 i3, fun g => ?_⟩
  rw [← h4 g]
  exact hr_so_cg M (fun i i1 i2 => by rw [z i i1 i2])
set_option maxHeartbeats 2000000 in
theorem hr_ord.ins {s : Int → Int} {m k : Int} {O A : Int → Int} {M n p : Nat} (h : hr_ord s m k O M n) (z : hr_q s m k n) (hp : p ≤ M) (ha : ∀ i : Int, 0 ≤ i → i < p → A i = O i) (hb : A p = n) (hc : ∀ i : Int, (p : Int) < i → i ≤ M → A i = O (i - 1)) (hl : p = 0 ∨ s (250 + 12 * O ((p : Int) - 1) + 2) ≤ s (250 + 12 * (n : Int) + 2)) (hg : ∀ i : Int, (p : Int) ≤ i → i < M → s (250 + 12 * (n : Int) + 2) < s (250 + 12 * O i + 2)) : hr_ord s m k A (M + 1) (n + 1) := by
  obtain ⟨h1, h2, h3, h4⟩ := h
  have ll : ∀ i : Int, 0 ≤ i → i < p → hr_lt s (O i) n := by
    intro i i1 i2
    have l0 : s (250 + 12 * O ((p : Int) - 1) + 2) ≤ s (250 + 12 * (n : Int) + 2) := hl.resolve_left (by omega)
    have b := (h2 i i1 (by omega)).1.2
    by_cases y : i = (p : Int) - 1
    · rw [y] at b ⊢
      show _ ∨ _
      omega
    · have l1 := h3 i ((p : Int) - 1) i1 (by omega) (by omega)
      show _ ∨ _
      omega
  refine ⟨by omega, fun i i1 i2 => ?_, fun i j i1 i2 i3 => ?_, fun g => ?_⟩
  · rcases (show i < p ∨ i = p ∨ (p : Int) < i by omega) with y | y | y
    · rw [ha i i1 y]
      have := h2 i i1 (by omega)
      exact ⟨⟨this.1.1, by omega⟩, this.2⟩
    · rw [y, hb]
      exact ⟨⟨by omega, by omega⟩, z⟩
    · rw [hc i y (by omega)]
      have := h2 (i - 1) (by omega) (by omega)
      exact ⟨⟨this.1.1, by omega⟩, this.2⟩
  · rcases (show j < p ∨ j = p ∨ (p : Int) < j by omega) with y | y | y
    · rw [ha i i1 (by omega), ha j (by omega) y]
      exact h3 i j i1 i2 (by omega)
    · rw [y, hb, ha i i1 (by omega)]
      exact ll i i1 (by omega)
    · rw [hc j y (by omega)]
      rcases (show i < p ∨ i = p ∨ (p : Int) < i by omega) with x | x | x
      · rw [ha i i1 x]
        exact h3 i (j - 1) i1 (by omega) (by omega)
      · rw [x, hb]
        exact Or.inl (hg (j - 1) (by omega) (by omega))
      · rw [hc i x (by omega)]
        exact h3 (i - 1) (j - 1) (by omega) (by omega) (by omega)
  · rw [hr_so_ins M p hp ha hb hc, h4 g]
    show _ = hr_se s m k g n + _
    rw [if_pos z]
set_option maxHeartbeats 2000000 in
theorem c_putInOrder {d : Nat} {σ : hh_S} {s : Int → Int} {m k : Int} {Q : Int → hh_S → Prop} (hE : hr_E σ s) (hq : ∀ (ρ : hh_S) (M : Nat), (∀ r : Nat, r ≠ 114 → ρ r = σ r) → hr_ord s m k (ρ 114) M (s 7).toNat → Q M ρ) : hh_Sp (d + 2) hm_X10_putInOrder [hh_R 112, hh_I m, hh_I k] σ Q := by
  have e1 := hE.1
  refine wp_X10_putInOrder _ _ (fun _ _ _ => ?_)
  refine hh_lp4_of (fun n x1 x2 x4 x5 τ => (x1 = m ∧ x2 = k) ∧ (∀ r : Nat, r ≠ 114 → τ r = σ r) ∧ ∃ o M : Nat, (x5 = o ∧ (o : Int) ≤ s 7 ∧ s 7 - o ≤ n ∧ x4 = M) ∧ hr_ord s m k (τ 114) M o) ?_ 90 m k 0 0 σ ⟨⟨rfl, rfl⟩, fun _ _ => rfl, 0, 0, ⟨rfl, by omega, by omega, rfl⟩, by omega, fun i i1 i2 => by omega, fun i j i1 i2 i3 => by omega, fun g => rfl⟩
  rintro n x1 x2 x4 x5 τ kk ⟨⟨rfl, rfl⟩, r1, o, M, ⟨rfl, f1, f2, rfl⟩, ho⟩ hk
  have hM := ho.1
  unfold B_X10_putInOrder_14
  rw [r1 24 (by omega), r1 26 (by omega), e1.1]
  refine ⟨fun c => hq τ M r1 (by rw [← show o = (s 7).toNat by omega]; exact ho), fun c => ⟨by omega, ?_⟩⟩
  obtain ⟨⟨w1, w2, w3, w4, w5, w6, w7⟩, ⟨w8, w9⟩, w10⟩ := hE.2 o (by omega) (by omega)
  have kn := hr_kn_nn (t := s (250 + 12 * (o : Int) + 6)) (k := x2) w8.1
  have w8' := w8.1
  unfold hr_nn at w8'
  rw [w2.1]
  have NO : ¬ hr_q s x1 x2 o → B_X10_putInOrder_111 (d + 1) Q kk x1 x2 M o τ := by
    intro z
    unfold B_X10_putInOrder_111
    exact ⟨by omega, hk (n - 1) _ _ _ _ _ (by omega) ⟨⟨rfl, rfl⟩, r1, o + 1, M, ⟨by omega, by omega, by omega, rfl⟩, ho.no z⟩⟩
  refine ⟨fun z => NO (fun y => z y.1), fun z => ?_⟩
  refine c_X3_isKnown (by omega) ?_ ?_ (by rw [r1 32 (by omega)]; omega) <;> rw [r1 31 (by omega), r1 32 (by omega), w7.1, kn]
  · intro z5
    have zq : hr_q s x1 x2 o := ⟨z, z5⟩
    refine ⟨fun y => by omega, fun _ => ?_⟩
    obtain ⟨O, hO⟩ : ∃ O : Int → Int, O = τ 114 := ⟨_, rfl⟩
    rw [← hO] at ho
    have day : ∀ i : Int, 0 ≤ i → i < M → (0 ≤ O i ∧ O i < 90) ∧ σ 27 (O i) = s (250 + 12 * O i + 2) := by
      intro i i1 i2
      have := ho.2.1 i i1 i2
      exact ⟨by omega, (hE.2 (O i) (by omega) (by omega)).1.2.2.1.1⟩
    refine hh_lp5_of (fun n' y1 y2 y4 y5 y6 τ' => (y1 = x1 ∧ y2 = x2 ∧ y4 = M ∧ y5 = o) ∧ (∀ r : Nat, r ≠ 114 → τ' r = σ r) ∧ ∃ p : Nat, (y6 = p ∧ p ≤ M ∧ p ≤ n') ∧ (∀ i : Int, 0 ≤ i → i < p → τ' 114 i = O i) ∧ (∀ i : Int, (p : Int) < i → i ≤ M → τ' 114 i = O (i - 1)) ∧ ∀ i : Int, (p : Int) ≤ i → i < M → s (250 + 12 * (o : Int) + 2) < s (250 + 12 * O i + 2)) ?_ M x1 x2 M o M τ ⟨⟨rfl, rfl, rfl, rfl⟩, r1, M, ⟨rfl, by omega, by omega⟩, fun i _ _ => by rw [hO], fun i i1 i2 => by omega, fun i i1 i2 => by omega⟩
    rintro n' y1 y2 y4 y5 y6 τ' k' ⟨⟨rfl, rfl, rfl, rfl⟩, q1, p, ⟨rfl, p1, p2⟩, g1, g2, g3⟩ hk'
    have INS : (p = 0 ∨ s (250 + 12 * O ((p : Int) - 1) + 2) ≤ s (250 + 12 * (o : Int) + 2)) → B_X10_putInOrder_99 (d + 1) Q kk y1 y2 M o p τ' := by
      intro hl
      unfold B_X10_putInOrder_99 B_X10_putInOrder_111
      refine ⟨by omega, by omega, hk (n - 1) _ _ _ _ _ (by omega) ⟨⟨rfl, rfl⟩, fun r hr => by rw [hh_up_ne hr]; exact q1 r hr, o + 1, M + 1, ⟨by omega, by omega, by omega, by omega⟩, ?_⟩⟩
      exact ho.ins zq p1 (fun i i1 i2 => by rw [hh_up_off (by omega)]; exact g1 i i1 i2) (by rw [hh_up_at]) (fun i i1 i2 => by rw [hh_up_off (by omega)]; exact g2 i i1 i2) hl g3
    unfold B_X10_putInOrder_48
    refine ⟨fun c1 => INS (Or.inl (by omega)), fun c1 => ?_⟩
    have dp := day ((p : Int) - 1) (by omega) (by omega)
    rw [g1 ((p : Int) - 1) (by omega) (by omega), q1 27 (by omega), dp.2, w3.1]
    refine ⟨by omega, fun c2 => INS (Or.inr c2), fun c2 => ⟨by omega, ?_⟩⟩
    refine hk' (n' - 1) _ _ _ _ _ _ (by omega) ⟨⟨rfl, rfl, rfl, rfl⟩, fun r hr => by rw [hh_up_ne hr]; exact q1 r hr, p - 1, ⟨by omega, by omega, by omega⟩, fun i i1 i2 => by rw [hh_up_off (by omega)]; exact g1 i i1 (by omega), fun i i1 i2 => ?_, fun i i1 i2 => ?_⟩
    · by_cases y : i = p
      · rw [y, hh_up_at]
      · rw [hh_up_off y]; exact g2 i (by omega) i2
    · by_cases y : i = (p : Int) - 1
      · rw [y]; omega
      · exact g3 i (by omega) i2
  · intro z5
    exact ⟨fun _ => NO (fun y => z5 y.2), fun y => by omega⟩
