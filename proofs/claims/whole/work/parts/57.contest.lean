set_option maxHeartbeats 2000000 in
theorem hr_R.cut {σ : hh_S} {e c : Int} (h : hr_R σ) (he : 0 ≤ e ∧ e < σ 129 7) (hc : 0 ≤ c ∧ c ≤ 239976) : hr_R (hh_up (hh_up σ 35 e c) 129 (250 + 12 * e + 10) c) := by
  obtain ⟨hU, hP, hC, hM, hE, hD, hB, hK, hT⟩ := h.1
  have u := hU
  unfold hr_U at u
  have p1 := hP.1
  have c1 := hC.1
  have m1 := hM.1
  have e1 := hE.1
  have d1 := hD.1
  have b1 := hB.1
  have k1 := hK.1
  have t1 := hT.1
  refine hh_name (P := hr_R) (fun ρ hρ => ?_)
  have es : ∀ k : Int, k ≠ 250 + 12 * e + 10 → ρ 129 k = σ 129 k := fun k hk => by rw [hρ, hh_up_off hk, hh_up_ne (by omega)]
  have f1 : ρ 129 (250 + 12 * e + 10) = c := by rw [hρ, hh_up_at]
  have f2 : ∀ k : Int, ρ 35 k = if k = e then c else σ 35 k := fun k => by rw [hρ, hh_up_ne (by omega), hh_up_eq]
  have fr : ∀ r : Nat, r ≠ 35 → r ≠ 129 → ρ r = σ r := fun r r1 r2 => by rw [hρ, hh_up_ne r2, hh_up_ne r1]
  refine h.nw (fun r r1 r2 => by rw [hρ]; simp (disch := omega) only [hh_up_ne, hh_cpy_ne]) (by rw [hρ]; rfl) (by rw [hρ]; rfl) (by rw [hρ]; rfl) (by rw [hρ]; rfl) (by rw [hρ]; rfl) (by rw [hρ]; rfl) (by rw [hρ]; rfl) (by rw [hρ]; rfl) (by rw [hρ]; rfl) (by rw [hρ]; rfl) (by rw [hρ]; rfl) (by rw [hρ]; rfl) (by rw [hρ]; rfl) (by rw [hρ]; rfl) ?_
  refine ⟨hU.cg (by rw [hρ]; rfl) (by rw [hρ]; rfl) (fun k k1 k2 => es k (by omega)), hP.cg (by rw [hρ]; rfl) (by rw [hρ]; rfl) (by rw [hρ]; rfl) (by rw [hρ]; rfl) (fun k hk => es k (by omega)), hC.cg (by rw [hρ]; rfl) (by rw [hρ]; rfl) (fun k hk => es k (by omega)), hM.cg (by rw [hρ]; rfl) (by rw [hρ]; rfl) (by rw [hρ]; rfl) (by rw [hρ]; rfl) (by rw [hρ]; rfl) (by rw [hρ]; rfl) (by rw [hρ]; rfl) (by rw [hρ]; rfl) (by rw [hρ]; rfl) (by rw [hρ]; rfl) (by rw [hρ]; rfl) (by first | (rw [es 5 (by omega)]; exact Int.le_refl _) | omega) (fun k hk => es k (by omega)), ⟨by rw [fr 24 (by omega) (by omega), es 7 (by omega)]; exact e1, fun p z1 z2 => ?_⟩, hD.cg (fun r r1 r2 => by rw [hρ]; simp (disch := omega) only [hh_up_ne, hh_cpy_ne]) (by first | (rw [es 4 (by omega)]; exact Int.le_refl _) | omega) (fun k hk => es k (by omega)), hB.cg hC hM (fun r r1 r2 => by rw [hρ]; simp (disch := omega) only [hh_up_ne, hh_cpy_ne]) (by first | (rw [es 6 (by omega)]; exact Int.le_refl _) | omega) (by first | (rw [es 0 (by omega)]; exact Int.le_refl _) | omega) (fun k hk => es k (by omega)) (fun m m1 m2 m3 k k1 k2 => es k (by omega)), hK.cg (by rw [hρ]; rfl) (by rw [hρ]; rfl) (by rw [hρ]; rfl) (by rw [hρ]; rfl) (by first | (rw [es 6 (by omega)]; exact Int.le_refl _) | omega) (fun k hk => es k (by omega)), hT.cg (by rw [hρ]; rfl) (by rw [hρ]; rfl) (by rw [hρ]; rfl) (by rw [hρ]; rfl) (by rw [hρ]; rfl) (es 5 (by omega)) (fun k hk => es k (by omega))⟩
  rw [es 7 (by omega)] at z2
  have x := hE.2 p z1 z2
  by_cases z : p = e
  · subst z
    obtain ⟨v1, ⟨v8, v9, v10, v11⟩, v12⟩ := x
    have v9' := v9
    unfold hr_nn at v9'
    unfold hr_E1
    rw [f1, f2, if_pos rfl, fr 25 (by omega) (by omega), fr 26 (by omega) (by omega), fr 27 (by omega) (by omega), fr 28 (by omega) (by omega), fr 29 (by omega) (by omega), fr 30 (by omega) (by omega), fr 31 (by omega) (by omega), fr 32 (by omega) (by omega), fr 33 (by omega) (by omega), fr 34 (by omega) (by omega), es 0 (by omega), es 4 (by omega), es 6 (by omega), es 10 (by omega), es (250 + 12 * p) (by omega), es (250 + 12 * p + 1) (by omega), es (250 + 12 * p + 2) (by omega), es (250 + 12 * p + 3) (by omega), es (250 + 12 * p + 4) (by omega), es (250 + 12 * p + 5) (by omega), es (250 + 12 * p + 6) (by omega), es (250 + 12 * p + 7) (by omega), es (250 + 12 * p + 8) (by omega), es (250 + 12 * p + 9) (by omega)]
    refine ⟨v1, ⟨v8, v9, v10, ⟨Or.inr ⟨hc.1, rfl⟩, hc.2⟩⟩, fun y => ?_⟩
    rw [es _ (by omega)]
    exact v12 y
  · exact x.cg (fun r r1 r2 => by
      by_cases y : r = 35
      · subst y; rw [f2, if_neg z]
      · rw [fr r y (by omega)]) (by rw [es 4 (by omega)]; exact Int.le_refl _) (by rw [es 6 (by omega)]; exact Int.le_refl _) (by rw [es 0 (by omega)]; exact Int.le_refl _) (by rw [es 10 (by omega)]; exact Int.le_refl _) (fun k k1 k2 => es k (by omega)) (fun b1 b2 => es _ (by omega))
/-- what is given back to the first j payers of bill b of matter m -/
def hr_gv (σ : hh_S) (b m : Int) (P : Int → Int) : Nat → hh_S
  | 0 => σ
  | j + 1 => hh_up (hh_up (hh_up (hh_up (hr_gv σ b m P j) 49 (b * 3 + j) (hr_gv σ b m P j 49 (b * 3 + j) - hh_min (P j) (hr_gv σ b m P j 49 (b * 3 + j)))) 7 (σ 18 (m * 3 + j)) (hr_gv σ b m P j 7 (σ 18 (m * 3 + j)) + (P j - hh_min (P j) (hr_gv σ b m P j 49 (b * 3 + j))))) 129 (1630 + 12 * b + 6 + σ 18 (m * 3 + j)) (hr_gv σ b m P j 49 (b * 3 + j) - hh_min (P j) (hr_gv σ b m P j 49 (b * 3 + j)))) 129 (44 + σ 18 (m * 3 + j)) (hr_gv σ b m P j 7 (σ 18 (m * 3 + j)) + (P j - hh_min (P j) (hr_gv σ b m P j 49 (b * 3 + j))))
theorem hr_gv_r (σ : hh_S) (b m : Int) (P : Int → Int) {r : Nat} (h1 : r ≠ 7) (h2 : r ≠ 49) (h3 : r ≠ 129) : ∀ j : Nat, hr_gv σ b m P j r = σ r
  | 0 => rfl
  | j + 1 => by
    unfold hr_gv
    rw [hh_up_ne h3, hh_up_ne h3, hh_up_ne h1, hh_up_ne h2]
    exact hr_gv_r σ b m P h1 h2 h3 j
theorem hr_gv_49 (σ : hh_S) (b m : Int) (P : Int → Int) {k : Int} : ∀ j : Nat, (b * 3 + j ≤ k) → hr_gv σ b m P j 49 k = σ 49 k
  | 0, _ => rfl
  | j + 1, h => by
    unfold hr_gv
    rw [hh_up_ne (by omega), hh_up_ne (by omega), hh_up_ne (by omega), hh_up_off (by omega)]
    exact hr_gv_49 σ b m P j (by omega)
theorem hr_gv_7 (σ : hh_S) (b m : Int) (P : Int → Int) {c : Int} : ∀ j : Nat, (∀ i : Int, 0 ≤ i → i < j → σ 18 (m * 3 + i) ≠ c) → hr_gv σ b m P j 7 c = σ 7 c
  | 0, _ => rfl
  | j + 1, h => by
    have := h j (by omega) (by omega)
    unfold hr_gv
    rw [hh_up_ne (by omega), hh_up_ne (by omega), hh_up_off (Ne.symm this), hh_up_ne (by omega)]
    exact hr_gv_7 σ b m P j (fun i i1 i2 => h i i1 (by omega))
theorem hr_gv_s (σ : hh_S) (b m : Int) (P : Int → Int) {k : Int} : ∀ j : Nat, (∀ i : Int, 0 ≤ i → i < j → 1630 + 12 * b + 6 + σ 18 (m * 3 + i) ≠ k ∧ 44 + σ 18 (m * 3 + i) ≠ k) → hr_gv σ b m P j 129 k = σ 129 k
  | 0, _ => rfl
  | j + 1, h => by
    have := h j (by omega) (by omega)
    unfold hr_gv
    rw [hh_up_off (Ne.symm this.2), hh_up_off (Ne.symm this.1), hh_up_ne (by omega), hh_up_ne (by omega)]
    exact hr_gv_s σ b m P j (fun i i1 i2 => h i i1 (by omega))
set_option maxHeartbeats 2000000 in
theorem hr_gv_R {σ : hh_S} {b m : Int} {P : Int → Int} (h : hr_R σ) (hb : 0 ≤ b ∧ b < σ 129 10) (hm : σ 43 b = m) (hP : ∀ i : Int, 0 ≤ i → i < σ 17 m → 0 ≤ P i ∧ P i ≤ 30000000) (hok : ∀ i : Int, 0 ≤ i → i < σ 17 m → σ 7 (σ 18 (m * 3 + i)) + (P i - hh_min (P i) (σ 49 (b * 3 + i))) ≤ 9999999) : ∀ j : Nat, (j : Int) ≤ σ 17 m → hr_R (hr_gv σ b m P j)
  | 0, _ => h
  | j + 1, hj => by
    have i := hr_gv_R h hb hm hP hok j (by omega)
    have o0 := hr_owed h (b := b) (c := 0) hb (by omega)
    rw [hm] at o0
    have hM0 := h.1.2.2.2.1
    have hC0 := h.1.2.2.1
    have c1 := hC0.1
    obtain ⟨⟨v1, v2, v3, v4, v5, v6⟩, v7, v8, v9⟩ := hM0.2 m o0.1.1.1 o0.1.2.2.1
    have pj := v7 j (by omega) (by omega)
    have cc : 0 ≤ σ 18 (m * 3 + j) ∧ σ 18 (m * 3 + j) < σ 129 5 := by rw [pj.1.1]; exact pj.1.2
    have dst : ∀ i : Int, 0 ≤ i → i < j → σ 18 (m * 3 + i) ≠ σ 18 (m * 3 + j) := by
      intro i i1 i2
      rw [pj.1.1, (v7 i i1 (by omega)).1.1]
      exact v8 i j i1 i2 (by omega)
    have o1 := hr_owed h (b := b) (c := σ 18 (m * 3 + j)) hb (by omega)
    rw [hm] at o1
    have ow := o1.2.2.1 j (by omega) (by omega) rfl
    have tr := hC0.2 _ cc.1 cc.2
    have Pj := hP j (by omega) (by omega)
    have ok := hok j (by omega) (by omega)
    have V49 : hr_gv σ b m P j 49 (b * 3 + j) = σ 49 (b * 3 + j) := hr_gv_49 σ b m P j (by omega)
    have V7 : hr_gv σ b m P j 7 (σ 18 (m * 3 + j)) = σ 7 (σ 18 (m * 3 + j)) := hr_gv_7 σ b m P j dst
    have R (r : Nat) (z : r ≠ 7 ∧ r ≠ 49 ∧ r ≠ 129) : hr_gv σ b m P j r = σ r := hr_gv_r σ b m P z.1 z.2.1 z.2.2 j
    have S5 : hr_gv σ b m P j 129 5 = σ 129 5 := hr_gv_s σ b m P j (fun i i1 i2 => by have := (v7 i i1 (by omega)).1; omega)
    have S10 : hr_gv σ b m P j 129 10 = σ 129 10 := hr_gv_s σ b m P j (fun i i1 i2 => by have := (v7 i i1 (by omega)).1; omega)
    have mb : 0 ≤ hh_min (P j) (σ 49 (b * 3 + j)) ∧ hh_min (P j) (σ 49 (b * 3 + j)) ≤ P j ∧ hh_min (P j) (σ 49 (b * 3 + j)) ≤ σ 49 (b * 3 + j) := by
      rw [ow]
      unfold hh_min
      split <;> omega
    have ow2 := o1.2.2.2.2
    show hr_R (hh_up _ _ _ _)
    refine i.owe (b := b) (i := j) (c := σ 18 (m * 3 + j)) (v := σ 49 (b * 3 + j) - hh_min (P j) (σ 49 (b * 3 + j))) (t := σ 7 (σ 18 (m * 3 + j)) + (P j - hh_min (P j) (σ 49 (b * 3 + j)))) (by rw [S10]; exact hb) (by rw [S5]; exact cc) ?_ ?_ ⟨by omega, by omega⟩ ⟨by omega, ok⟩ (fun r q1 q2 q3 q4 => ?_) (fun k => ?_) (fun k => ?_) (fun k k1 k2 => ?_) ?_ ?_
    · rw [R 43 (by omega), R 17 (by omega), hm]; omega
    · rw [R 43 (by omega), R 18 (by omega), hm]
    · rw [hh_up_ne q3, hh_up_ne q3, hh_up_ne q1, hh_up_ne q2]
    · rw [hh_up_ne (by omega), hh_up_ne (by omega), hh_up_eq, hh_up_ne (by omega), V7, V49]
    · rw [hh_up_ne (by omega), hh_up_ne (by omega), hh_up_ne (by omega), hh_up_eq, V49]
    · rw [hh_up_off k2, hh_up_off k1, hh_up_ne (by omega), hh_up_ne (by omega)]
    · rw [hh_up_off (by omega), hh_up_at, V49]
    · rw [hh_up_at, V7, V49]
