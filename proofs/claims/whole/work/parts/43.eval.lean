/-- what a name gives for entry e, as known on day k -/
def hr_nm (s : Int → Int) (e k v : Int) : Int := if v = 99 then s (250 + 12 * e + 5) else if v = 103 then s (50 + 20 * s (250 + 12 * e + 1)) else if v = 107 then s (20 + 3 * s (250 + 12 * e)) else if v = 110 then s (250 + 12 * e + 4) else if v = 114 then s (20 + 3 * s (250 + 12 * e) + 1) else if v = 119 then s (250 + 12 * e + 2) % 7 else hr_bs s e k
theorem c_nameOf {d : Nat} {σ : hh_S} {s : Int → Int} {e k v : Int} {Q : Int → hh_S → Prop} (h : hr_N σ s) (he : 0 ≤ e ∧ e < s 7) (hq : Q (hr_nm s e k v) σ) : hh_Sp (d + 3) hm_X10_nameOf [hh_R 112, hh_I v, hh_I e, hh_I k] σ Q := by
  obtain ⟨hU, hP, hC, hM, hE, hD, hB, hK, hT⟩ := h
  have e1 := hE.1
  have p1 := hP.1
  have m1 := hM.1
  obtain ⟨⟨v1, v2, v3, v4, v5, v6, v7⟩, v8, v10⟩ := hE.2 e he.1 he.2
  have hp := hP.2 _ v1.2.1 v1.2.2
  have hm := (hM.2 _ v2.2.1 v2.2.2).1.1
  refine wp_X10_nameOf _ _ _ (fun _ _ _ _ => ?_)
  unfold P_X10_nameOf
  unfold hr_nm at hq
  rw [v1.1, v2.1, v3.1, v5.1, v6.1, hp.1.1, hp.1.2.1, hm.1]
  refine ⟨fun z => ⟨by omega, ?_⟩, fun z => ⟨by omega, ?_⟩, fun z => ⟨by omega, ?_⟩, fun z => ⟨by omega, ?_⟩, fun z => ⟨by omega, ?_⟩, fun z => ⟨by omega, ?_⟩, fun z => ?_⟩
  · rw [if_pos z] at hq; exact hq
  · rw [if_neg (by omega), if_pos z] at hq; exact hq
  · rw [if_neg (by omega), if_neg (by omega), if_pos z] at hq; exact hq
  · rw [if_neg (by omega), if_neg (by omega), if_neg (by omega), if_pos z] at hq; exact hq
  · rw [if_neg (by omega), if_neg (by omega), if_neg (by omega), if_neg (by omega), if_pos z] at hq; exact hq
  · rw [if_neg (by omega), if_neg (by omega), if_neg (by omega), if_neg (by omega), if_neg (by omega), if_pos z] at hq; exact hq
  · rw [if_neg (by omega), if_neg (by omega), if_neg (by omega), if_neg (by omega), if_neg (by omega), if_neg (by omega)] at hq
    exact c_othersMet hE p1.2.2 he hq
def hr_cd (w v : Int) : Int := if w = 1 then v else if w = 2 then 100000 + v else if w = 3 then -33 else hr_op w
theorem hr_wd.cd {c w v : Int} (h : hr_wd c w v) : c = hr_cd w v := by
  unfold hr_cd
  rcases h with ⟨rfl, h, _⟩ | ⟨rfl, h, _⟩ | ⟨rfl, h⟩ | ⟨h1, h⟩
  · exact h
  · exact h
  · exact h
  · unfold hr_isop at h1
    rw [if_neg (by omega), if_neg (by omega), if_neg (by omega)]
    exact h
theorem hr_wd.b {c w v : Int} (h : hr_wd c w v) : -200 ≤ c ∧ c ≤ 200000 := by
  rcases h with ⟨rfl, h, h2⟩ | ⟨rfl, h, h2⟩ | ⟨rfl, h⟩ | ⟨h1, h⟩
  · omega
  · unfold hr_isnm at h2; omega
  · omega
  · rw [h]
    unfold hr_isop at h1
    rcases h1 with rfl | rfl | rfl | rfl | rfl | rfl | rfl | rfl | rfl <;> decide
/-- what stands on the pile behind the first k words -/
def hr_stk (f nm : Int → Int) : Nat → Int → Int
  | 0 => fun _ => 0
  | k + 1 => fun i => if 0 ≤ f k then (if i = hr_dp f k then (if f k < 100000 then f k else nm (f k - 100000)) else hr_stk f nm k i) else if f k = -33 then (if i = hr_dp f k - 1 then (if hr_stk f nm k (hr_dp f k - 1) = 0 then 1 else 0) else hr_stk f nm k i) else (if i = hr_dp f k - 2 then hr_cb (-(f k)) (hr_stk f nm k (hr_dp f k - 2)) (hr_stk f nm k (hr_dp f k - 1)) else hr_stk f nm k i)
theorem hr_stk_n {f nm : Int → Int} {k : Nat} (h : 0 ≤ f k) (i : Int) : hr_stk f nm (k + 1) i = if i = hr_dp f k then (if f k < 100000 then f k else nm (f k - 100000)) else hr_stk f nm k i := by
  show (if 0 ≤ f k then _ else _) = _
  rw [if_pos h]
theorem hr_stk_t {f nm : Int → Int} {k : Nat} (h : f k = -33) (i : Int) : hr_stk f nm (k + 1) i = if i = hr_dp f k - 1 then (if hr_stk f nm k (hr_dp f k - 1) = 0 then 1 else 0) else hr_stk f nm k i := by
  show (if 0 ≤ f k then _ else _) = _
  rw [if_neg (by omega), if_pos h]
theorem hr_stk_b {f nm : Int → Int} {k : Nat} (h : f k < 0) (h2 : f k ≠ -33) (i : Int) : hr_stk f nm (k + 1) i = if i = hr_dp f k - 2 then hr_cb (-(f k)) (hr_stk f nm k (hr_dp f k - 2)) (hr_stk f nm k (hr_dp f k - 1)) else hr_stk f nm k i := by
  show (if 0 ≤ f k then _ else _) = _
  rw [if_neg (by omega), if_neg h2]
theorem hr_dp_s (f : Int → Int) (k : Nat) : hr_dp f (k + 1) = hr_dp f k + (if 0 ≤ f k then 1 else if f k = -33 then 0 else -1) := rfl
theorem hr_dp_b {f : Int → Int} {n : Int} (h : hr_wf f n) : ∀ k : Nat, (k : Int) ≤ n → 0 ≤ hr_dp f k ∧ hr_dp f k ≤ k
  | 0, _ => by unfold hr_dp; omega
  | k + 1, hk => by
    have b := hr_dp_b h k (by omega)
    have w := h.1 k (by omega)
    rw [hr_dp_s]
    by_cases z : 0 ≤ f k
    · rw [if_pos z]; omega
    · rw [if_neg z]
      by_cases z2 : f k = -33
      · rw [if_pos z2]; omega
      · rw [if_neg z2]
        have := w.2 (by omega) z2
        omega
def hr_ev (f nm : Int → Int) (n : Int) : Int := hr_stk f nm n.toNat 0
set_option maxHeartbeats 2000000 in
theorem c_workOut {d : Nat} {σ : hh_S} {s : Int → Int} {a n e k t : Int} {f : Int → Int} {Q : Int → hh_S → Prop} (h : hr_N σ s) (he : 0 ≤ e ∧ e < s 7) (ha : 0 ≤ a ∧ a + n ≤ 1800 ∧ 0 ≤ n ∧ n ≤ 120) (ht : t = a + n) (hf : ∀ i : Int, 0 ≤ i → i < n → σ 12 (a + i) = f i) (hfb : ∀ i : Int, 0 ≤ i → i < n → -200 ≤ f i ∧ f i ≤ 200000) (hw : hr_wf f n) (hq : ∀ ρ : hh_S, (∀ r : Nat, r ≠ 113 → ρ r = σ r) → Q (hr_ev f (hr_nm s e k) n) ρ) : hh_Sp (d + 4) hm_X10_workOut [hh_R 112, hh_I a, hh_I t, hh_I e, hh_I k] σ Q := by
  refine wp_X10_workOut _ _ _ _ (fun _ _ _ _ _ => ?_)
  refine hh_lp5_of (fun m x2 x3 x4 x6 x7 τ => (x2 = t ∧ x3 = e ∧ x4 = k) ∧ ∃ j : Nat, (x7 = a + j ∧ (j : Int) ≤ n ∧ n - j ≤ m ∧ x6 = hr_dp f j) ∧ (∀ r : Nat, r ≠ 113 → τ r = σ r) ∧ ∀ i : Int, 0 ≤ i → i < hr_dp f j → τ 113 i = hr_stk f (hr_nm s e k) j i) ?_ 120 t e k 0 a σ ⟨⟨rfl, rfl, rfl⟩, 0, ⟨by omega, by omega, by omega, rfl⟩, fun _ _ => rfl, fun i i1 i2 => by unfold hr_dp at i2; omega⟩
  rintro m x2 x3 x4 x6 x7 τ kk ⟨⟨rfl, rfl, rfl⟩, j, ⟨rfl, f1, f2, rfl⟩, g1, g2⟩ hk
  have bd := hr_dp_b hw j f1
  unfold B_X10_workOut_18
  have END : n ≤ (j : Int) → B_X10_workOut_178 (d + 3) Q (hr_dp f j) τ := by
    intro c
    unfold B_X10_workOut_178
    have hj : j = n.toNat := by omega
    have h1 := hw.2
    rw [← hj] at h1
    rw [h1]
    refine ⟨fun z => by omega, fun _ => ⟨by omega, ?_⟩⟩
    rw [show (1 : Int) - 1 = 0 by omega, g2 0 (by omega) (by omega)]
    have := hq τ g1
    unfold hr_ev at this
    rw [← hj] at this
    exact this
  refine ⟨fun c => END (by omega), fun c => ⟨fun c2 => by omega, fun c2 => ⟨by omega, ?_⟩⟩⟩
  rw [g1 12 (by omega), hf j (by omega) (by omega)]
  have w := hw.1 j (by omega)
  have fb := hfb j (by omega) (by omega)
  have NX : ∀ (τ' : hh_S) (y : Int), (∀ r : Nat, r ≠ 113 → τ' r = σ r) → y = hr_dp f (j + 1) → (∀ i : Int, 0 ≤ i → i < y → τ' 113 i = hr_stk f (hr_nm s x3 x4) (j + 1) i) → B_X10_workOut_172 (d + 3) Q kk x2 x3 x4 y (a + j) τ' := by
    intro τ' y r1 r2 r3
    unfold B_X10_workOut_172
    exact ⟨by omega, hk (m - 1) _ _ _ _ _ _ (by omega) ⟨⟨rfl, rfl, rfl⟩, j + 1, ⟨by omega, by omega, by omega, r2⟩, r1, fun i i1 i2 => r3 i i1 (by omega)⟩⟩
  have fr : ∀ (i v : Int) (r : Nat), r ≠ 113 → hh_up τ 113 i v r = σ r := fun i v r hr => by rw [hh_up_ne hr]; exact g1 r hr
  refine ⟨fun c3 => ⟨fun c4 => ?_, fun c4 => ?_⟩, fun c3 => ⟨fun c4 => by omega, fun c4 => ?_⟩⟩
  · have w2 := w.2 c3 c4
    refine ⟨fun z => by omega, fun _ => ⟨by omega, c_combine ⟨by omega, ?_⟩⟩⟩
    rw [show hr_dp f j + -1 - 1 = hr_dp f j - 2 by omega, show hr_dp f j + -1 = hr_dp f j - 1 by omega, g2 _ (by omega) (by omega), g2 _ (by omega) (by omega)]
    refine NX _ _ (fr _ _) ?_ (fun i i1 i2 => ?_)
    · rw [hr_dp_s, if_neg (by omega), if_neg c4]; omega
    · rw [hr_stk_b c3 c4]
      by_cases z : i = hr_dp f j - 2
      · rw [if_pos z, z, hh_up_at]
      · rw [if_neg z, hh_up_off z]; exact g2 i i1 (by omega)
  · have w1 := w.1 c4
    refine ⟨fun z => by omega, fun _ => ⟨by omega, ?_⟩⟩
    have G : ∀ v : Int, (v = if hr_stk f (hr_nm s x3 x4) j (hr_dp f j - 1) = 0 then 1 else 0) → B_X10_workOut_128 (d + 3) Q kk x2 x3 x4 (hr_dp f j) (a + j) (hr_dp f j - 1) v τ := by
      intro v hv
      unfold B_X10_workOut_128
      refine ⟨by omega, NX _ _ (fr _ _) (by rw [hr_dp_s, if_neg (by omega), if_pos c4]; omega) (fun i i1 i2 => ?_)⟩
      rw [hr_stk_t c4]
      by_cases z : i = hr_dp f j - 1
      · rw [if_pos z, z, hh_up_at, hv]
      · rw [if_neg z, hh_up_off z]; exact g2 i i1 (by omega)
    rw [g2 _ (by omega) (by omega)]
    exact ⟨fun z => G 0 (by rw [if_neg z]), fun z => G 1 (by rw [if_pos z])⟩
  · have G : ∀ (v : Int), (v = if f j < 100000 then f j else hr_nm s x3 x4 (f j - 100000)) → B_X10_workOut_84 (d + 3) Q kk x2 x3 x4 (hr_dp f j) (a + j) (hr_dp f j) v τ := by
      intro v hv
      unfold B_X10_workOut_84
      refine ⟨by omega, NX _ _ (fr _ _) (by rw [hr_dp_s, if_pos (by omega)]) (fun i i1 i2 => ?_)⟩
      rw [hr_stk_n (by omega)]
      by_cases z : i = hr_dp f j
      · rw [if_pos z, z, hh_up_at, hv]
      · rw [if_neg z, hh_up_off z]; exact g2 i i1 (by omega)
    refine ⟨fun c5 => ⟨by omega, ?_⟩, fun c5 => G _ (by rw [if_pos (by omega)])⟩
    refine c_nameOf (s := s) (h.cg (fun r r1 r2 => g1 r (by omega)) (fun _ _ _ => rfl)) he ?_
    exact G _ (by rw [if_neg (by omega)])
set_option maxHeartbeats 2000000 in
theorem c_worked {d : Nat} {σ : hh_S} {s : Int → Int} {b n : Int} {f nm : Int → Int} {Q : Int → hh_S → Prop} (hs : σ 129 = s) (hb : 0 ≤ b ∧ b + 241 ≤ 9100) (hn : s b = n ∧ 0 ≤ n ∧ n ≤ 120) (hf : ∀ k : Int, 0 ≤ k → k < n → hr_wd (f k) (s (b + 1 + 2 * k)) (s (b + 2 + 2 * k))) (hw : hr_wf f n) (hm : ∀ v : Int, hr_isnm v → σ 137 v = nm v) (hq : ∀ ρ : hh_S, (∀ r : Nat, r ≠ 136 → ρ r = σ r) → Q (hr_ev f nm n) ρ) : hh_Sp (d + 2) hm_X12_worked [hh_R 128, hh_I b] σ Q := by
  refine wp_X12_worked _ (fun _ _ => ?_)
  refine hh_lp3_of (fun m x1 x2 x3 τ => x1 = b ∧ ∃ j : Nat, (x3 = j ∧ (j : Int) ≤ n ∧ n - j ≤ m ∧ x2 = hr_dp f j) ∧ (∀ r : Nat, r ≠ 136 → τ r = σ r) ∧ ∀ i : Int, 0 ≤ i → i < hr_dp f j → τ 136 i = hr_stk f nm j i) ?_ 120 b 0 0 σ ⟨rfl, 0, ⟨by omega, by omega, by omega, rfl⟩, fun _ _ => rfl, fun i i1 i2 => by unfold hr_dp at i2; omega⟩
  rintro m x1 x2 x3 τ kk ⟨rfl, j, ⟨rfl, f1, f2, rfl⟩, g1, g2⟩ hk
  have bd := hr_dp_b hw j f1
  unfold B_X12_worked_4
  rw [g1 129 (by omega), hs, hn.1]
  refine ⟨by omega, fun c => ?_, fun c => ⟨by omega, ?_⟩⟩
  · unfold B_X12_worked_153
    have hj : j = n.toNat := by omega
    have h1 := hw.2
    rw [← hj] at h1
    rw [g2 0 (by omega) (by omega)]
    have := hq τ g1
    unfold hr_ev at this
    rw [← hj] at this
    exact this
  have w := hw.1 j (by omega)
  have NX : ∀ (τ' : hh_S) (y : Int), (∀ r : Nat, r ≠ 136 → τ' r = σ r) → y = hr_dp f (j + 1) → (∀ i : Int, 0 ≤ i → i < y → τ' 136 i = hr_stk f nm (j + 1) i) → B_X12_worked_147 (d + 1) Q kk x1 y j τ' := by
    intro τ' y r1 r2 r3
    unfold B_X12_worked_147
    exact ⟨by omega, hk (m - 1) _ _ _ _ (by omega) ⟨rfl, j + 1, ⟨by omega, by omega, by omega, r2⟩, r1, fun i i1 i2 => r3 i i1 (by omega)⟩⟩
  have fr : ∀ (i v : Int) (r : Nat), r ≠ 136 → hh_up τ 136 i v r = σ r := fun i v r hr => by rw [hh_up_ne hr]; exact g1 r hr
  have PU : ∀ (v : Int), 0 ≤ f j → (v = if f j < 100000 then f j else nm (f j - 100000)) → B_X12_worked_77 (d + 1) Q kk x1 (hr_dp f j) j (hr_dp f j) v τ := by
    intro v c3 hv
    unfold B_X12_worked_77
    refine ⟨by omega, NX _ _ (fr _ _) (by rw [hr_dp_s, if_pos (by omega)]) (fun i i1 i2 => ?_)⟩
    rw [hr_stk_n c3]
    by_cases z : i = hr_dp f j
    · rw [if_pos z, z, hh_up_at, hv]
    · rw [if_neg z, hh_up_off z]; exact g2 i i1 (by omega)
  have hwd := hf j (by omega) (by omega)
  generalize s (x1 + 1 + 2 * (j : Int)) = W at hwd ⊢
  generalize s (x1 + 2 + 2 * (j : Int)) = V at hwd ⊢
  rcases hwd with ⟨rfl, h1, h2, h3⟩ | ⟨rfl, h1, h2⟩ | ⟨rfl, h1⟩ | ⟨h1, h2⟩
  · refine ⟨fun _ => ?_, fun z => absurd rfl z⟩
    unfold B_X12_worked_54
    exact ⟨fun z => absurd rfl z, fun _ => PU V (by omega) (by rw [if_pos (by omega), h1])⟩
  · refine ⟨fun z => absurd z (by decide), fun _ => ⟨fun z => absurd rfl z, fun _ => ?_⟩⟩
    unfold B_X12_worked_54
    have h2' := h2
    unfold hr_isnm at h2'
    refine ⟨fun _ => ⟨by omega, PU _ (by omega) ?_⟩, fun z => absurd z (by decide)⟩
    rw [if_neg (by omega), g1 137 (by omega), hm V h2, h1]
    congr 1
    omega
  · refine ⟨fun z => absurd z (by decide), fun _ => ⟨fun _ => ⟨fun z => absurd rfl z, fun _ => ?_⟩, fun z => absurd z (by decide)⟩⟩
    have w1 := w.1 h1
    have G : ∀ v : Int, (v = if hr_stk f nm j (hr_dp f j - 1) = 0 then 1 else 0) → B_X12_worked_113 (d + 1) Q kk x1 (hr_dp f j) j (hr_dp f j - 1) v τ := by
      intro v hv
      unfold B_X12_worked_113
      refine ⟨by omega, NX _ _ (fr _ _) (by rw [hr_dp_s, if_neg (by omega), if_pos h1]; omega) (fun i i1 i2 => ?_)⟩
      rw [hr_stk_t h1]
      by_cases z : i = hr_dp f j - 1
      · rw [if_pos z, z, hh_up_at, hv]
      · rw [if_neg z, hh_up_off z]; exact g2 i i1 (by omega)
    refine ⟨by omega, ?_⟩
    rw [g2 _ (by omega) (by omega)]
    exact ⟨fun z => G 0 (by rw [if_neg z]), fun z => G 1 (by rw [if_pos z])⟩
  · have hne : f j < 0 ∧ f j ≠ -33 := by
      rw [h2]
      have h1' := h1
      unfold hr_isop at h1'
      rcases h1' with rfl | rfl | rfl | rfl | rfl | rfl | rfl | rfl | rfl <;> decide
    have w2 := w.2 hne.1 hne.2
    have h1' := h1
    unfold hr_isop at h1'
    refine ⟨fun z => by omega, fun _ => ⟨fun _ => ⟨fun _ => ⟨by omega, c_both h1 ⟨by omega, ?_⟩⟩, fun z => by omega⟩, fun z => by omega⟩⟩
    rw [show hr_dp f j + -1 - 1 = hr_dp f j - 2 by omega, show hr_dp f j + -1 = hr_dp f j - 1 by omega, g2 _ (by omega) (by omega), g2 _ (by omega) (by omega), ← h2]
    refine NX _ _ (fr _ _) ?_ (fun i i1 i2 => ?_)
    · rw [hr_dp_s, if_neg (by omega), if_neg hne.2]; omega
    · rw [hr_stk_b hne.1 hne.2]
      by_cases z : i = hr_dp f j - 2
      · rw [if_pos z, z, hh_up_at]
      · rw [if_neg z, hh_up_off z]; exact g2 i i1 (by omega)
