/-- where v goes among the first n of A -/
def hr_ps (A : Int → Int) (v : Int) : Nat → Nat
  | 0 => 0
  | n + 1 => if v < A n then hr_ps A v n else n + 1
def hr_in (A : Int → Int) (n p : Nat) (v : Int) : Int → Int := fun i => if i < p then A i else if i = p then v else if i ≤ n then A (i - 1) else A i
theorem hr_ps_b (A : Int → Int) (v : Int) : ∀ n : Nat, hr_ps A v n ≤ n
  | 0 => Nat.le_refl _
  | n + 1 => by
    have := hr_ps_b A v n
    unfold hr_ps
    split <;> omega
abbrev hr_lk (s : Int → Int) (e o : Int) : Prop := (s (250 + 12 * o + 8) ≠ -1 ∧ s (250 + 12 * o + 8) ≠ s (250 + 12 * e + 8)) ∧ (s (250 + 12 * o + 5) = s (250 + 12 * e + 5) ∧ s (20 + 3 * s (250 + 12 * o)) = s (20 + 3 * s (250 + 12 * e))) ∧ s (250 + 12 * o + 10) = -1
def hr_lv (s : Int → Int) (e o : Int) : Int := if hr_lk s e o then hr_val s o (s 0) 0 else 0
def hr_mc (s : Int → Int) (e : Int) : Nat → Nat
  | 0 => 0
  | n + 1 => if hr_lv s e n = 0 then hr_mc s e n else hr_mc s e n + 1
def hr_ma (s : Int → Int) (e : Int) : Nat → Int → Int
  | 0 => fun _ => 0
  | n + 1 => if hr_lv s e n = 0 then hr_ma s e n else hr_in (hr_ma s e n) (hr_mc s e n) (hr_ps (hr_ma s e n) (hr_lv s e n) (hr_mc s e n)) (hr_lv s e n)
theorem hr_lv_b {σ : hh_S} {s : Int → Int} (h : hr_N σ s) (e : Int) {o : Int} (ho : 0 ≤ o ∧ o < s 7) : 0 ≤ hr_lv s e o ∧ hr_lv s e o ≤ 240 := by
  have b := hr_val_b (k := s 0) (w := 0) h ho
  rw [if_pos rfl] at b
  unfold hr_lv
  split <;> omega
theorem hr_ma_b {σ : hh_S} {s : Int → Int} (h : hr_N σ s) (e : Int) : ∀ n : Nat, (n : Int) ≤ s 7 → hr_mc s e n ≤ n ∧ ∀ i : Int, 0 ≤ i → i < hr_mc s e n → 1 ≤ hr_ma s e n i ∧ hr_ma s e n i ≤ 240
  | 0, _ => ⟨Nat.le_refl _, fun i i1 i2 => by unfold hr_mc at i2; omega⟩
  | n + 1, hn => by
    have b := hr_ma_b h e n (by omega)
    have l := hr_lv_b h e (o := n) (by omega)
    have p := hr_ps_b (hr_ma s e n) (hr_lv s e n) (hr_mc s e n)
    unfold hr_mc hr_ma
    by_cases z : hr_lv s e n = 0
    · rw [if_pos z, if_pos z]
      exact ⟨by omega, b.2⟩
    · rw [if_neg z, if_neg z]
      refine ⟨by omega, fun i i1 i2 => ?_⟩
      unfold hr_in
      by_cases y : i < (hr_ps (hr_ma s e n) (hr_lv s e n) (hr_mc s e n) : Int)
      · rw [if_pos y]; exact b.2 i i1 (by omega)
      · rw [if_neg y]
        by_cases x : i = (hr_ps (hr_ma s e n) (hr_lv s e n) (hr_mc s e n) : Int)
        · rw [if_pos x]; omega
        · rw [if_neg x, if_pos (by omega)]
          exact b.2 (i - 1) (by omega) (by omega)
def hr_mid (s : Int → Int) (e no : Int) : Int := if hr_mc s e (s 7).toNat = 0 then no else hr_ma s e (s 7).toNat (((hr_mc s e (s 7).toNat : Int) - 1) / 2)
theorem c_isLike {d : Nat} {σ : hh_S} {s : Int → Int} {e o : Int} {Q : Int → hh_S → Prop} (h : hr_N σ s) (he : 0 ≤ e ∧ e < s 7) (ho : 0 ≤ o ∧ o < s 7) (h1 : hr_lk s e o → Q 1 σ) (h0 : ¬ hr_lk s e o → Q 0 σ) : hh_Sp (d + 1) hm_X10_isLike [hh_R 112, hh_I o, hh_I e] σ Q := by
  obtain ⟨hU, hP, hC, hM, hE, hD, hB, hK, hT⟩ := h
  have e1 := hE.1
  have p1 := hP.1
  obtain ⟨⟨v1, v2, v3, v4, v5, v6, v7⟩, ⟨v8, v9, v10, v11⟩, v12⟩ := hE.2 e he.1 he.2
  obtain ⟨⟨w1, w2, w3, w4, w5, w6, w7⟩, ⟨w8, w9, w10, w11⟩, w12⟩ := hE.2 o ho.1 ho.2
  have vp := (hP.2 _ v1.2.1 v1.2.2).1.1
  have wp := (hP.2 _ w1.2.1 w1.2.2).1.1
  have a := v9.1
  have b := w9.1
  have c := w11.1
  unfold hr_nn at a b c
  refine wp_X10_isLike _ _ (fun _ _ _ => ?_)
  unfold P_X10_isLike
  rw [v1.1, w1.1, v6.1, w6.1, vp, wp]
  refine ⟨by omega, fun z => h0 (fun y => y.1.1 (by omega)), fun z => ⟨by omega, fun z2 => h0 (fun y => y.1.2 (by omega)), fun z2 => ⟨by omega, fun z3 => h0 (fun y => z3 y.2.1.1), fun z3 => ⟨by omega, fun z4 => h0 (fun y => z4 y.2.1.2), fun z4 => ⟨by omega, fun z5 => h0 (fun y => z5 (by have := y.2.2; omega)), fun z5 => h1 ⟨⟨by omega, by omega⟩, ⟨z3, z4⟩, by omega⟩⟩⟩⟩⟩⟩
set_option maxHeartbeats 2000000 in
theorem c_middleFor {d : Nat} {σ : hh_S} {s : Int → Int} {e : Int} {Q : Int → hh_S → Prop} (h : hr_N σ s) (he : 0 ≤ e ∧ e < s 7) (hq : ∀ ρ : hh_S, (∀ r : Nat, r ≠ 113 → r ≠ 115 → ρ r = σ r) → Q (hr_mid s e (-1000000005)) ρ) : hh_Sp (d + 6) hm_X10_middleFor [hh_R 112, hh_I e] σ Q := by
  have h' := h
  obtain ⟨hU, hP, hC, hM, hE, hD, hB, hK, hT⟩ := h'
  have e1 := hE.1
  refine wp_X10_middleFor _ (fun _ _ => ?_)
  refine hh_lp3_of (fun n x1 x2 x3 τ => x1 = e ∧ (∀ r : Nat, r ≠ 113 → r ≠ 115 → τ r = σ r) ∧ ∃ o : Nat, (x3 = o ∧ (o : Int) ≤ s 7 ∧ s 7 - o ≤ n ∧ x2 = hr_mc s e o) ∧ ∀ i : Int, 0 ≤ i → i < hr_mc s e o → τ 115 i = hr_ma s e o i) ?_ 90 e 0 0 σ ⟨rfl, fun _ _ _ => rfl, 0, ⟨rfl, by omega, by omega, rfl⟩, fun i i1 i2 => by unfold hr_mc at i2; omega⟩
  rintro n x1 x2 x3 τ kk ⟨rfl, r1, o, ⟨rfl, f1, f2, rfl⟩, g1⟩ hk
  have mb := hr_ma_b h x1 o f1
  unfold B_X10_middleFor_4
  rw [r1 24 (by omega) (by omega), e1.1]
  refine ⟨fun c => ?_, fun c => ?_⟩
  · unfold B_X10_middleFor_112
    have eo : o = (s 7).toNat := by omega
    have hq2 := hq τ r1
    unfold hr_mid at hq2
    rw [← eo] at hq2
    refine ⟨fun z => ⟨by omega, ?_⟩, fun z => ?_⟩
    · rw [if_neg (by omega)] at hq2
      rw [g1 _ (by omega) (by omega)]
      exact hq2
    · rw [if_pos (by omega)] at hq2
      exact hq2
  have lb := hr_lv_b h x1 (o := o) (by omega)
  have hNt : hr_N τ s := h.cg (fun r q1 q2 => r1 r (by omega) (by omega)) (fun _ _ _ => rfl)
  have A43 : ∀ (τ1 : hh_S), (∀ r : Nat, r ≠ 113 → τ1 r = τ r) → B_X10_middleFor_43 (d + 5) Q kk x1 (hr_mc s x1 o) o (hr_lv s x1 o) τ1 := by
    intro τ1 t1
    unfold B_X10_middleFor_43
    refine ⟨fun z => ?_, fun z => ?_⟩
    · unfold B_X10_middleFor_106
      have z0 : hr_lv s x1 o = 0 := by omega
      refine ⟨by omega, hk (n - 1) _ _ _ _ (by omega) ⟨rfl, fun r q1 q2 => by rw [t1 r q1, r1 r q1 q2], o + 1, ⟨by omega, by omega, by omega, ?_⟩, ?_⟩⟩
      · rw [show hr_mc s x1 (o + 1) = hr_mc s x1 o by show (if _ then _ else _) = _; rw [if_pos z0]]
      · rw [show hr_mc s x1 (o + 1) = hr_mc s x1 o by show (if _ then _ else _) = _; rw [if_pos z0], show hr_ma s x1 (o + 1) = hr_ma s x1 o by show (if _ then _ else _) = _; rw [if_pos z0], t1 115 (by omega)]
        exact g1
    · have z0 : ¬ hr_lv s x1 o = 0 := by omega
      obtain ⟨A, hA⟩ : ∃ A : Int → Int, A = hr_ma s x1 o := ⟨_, rfl⟩
      obtain ⟨v, hv⟩ : ∃ v : Int, v = hr_lv s x1 o := ⟨_, rfl⟩
      obtain ⟨M, hM⟩ : ∃ M : Nat, M = hr_mc s x1 o := ⟨_, rfl⟩
      have s1 : hr_mc s x1 (o + 1) = M + 1 := by
        rw [hM]
        show (if _ then _ else _) = _
        rw [if_neg z0]
      have s2 : hr_ma s x1 (o + 1) = hr_in A M (hr_ps A v M) v := by
        rw [hA, hv, hM]
        show (if _ then _ else _) = _
        rw [if_neg z0]
      rw [← hA, ← hM] at g1
      rw [← hM] at mb
      rw [← hv] at lb
      rw [← hM, ← hv]
      refine hh_lp5_of (fun n' y1 y2 y3 y4 y5 τ' => (y1 = x1 ∧ y2 = M ∧ y3 = o ∧ y4 = v) ∧ (∀ r : Nat, r ≠ 113 → r ≠ 115 → τ' r = σ r) ∧ ∃ p : Nat, (y5 = p ∧ p ≤ M ∧ p ≤ n') ∧ (∀ i : Int, 0 ≤ i → i < p → τ' 115 i = A i) ∧ (∀ i : Int, (p : Int) < i → i ≤ M → τ' 115 i = A (i - 1)) ∧ hr_ps A v M = hr_ps A v p) ?_ M x1 M o v M τ1 ⟨⟨rfl, rfl, rfl, rfl⟩, fun r q1 q2 => by rw [t1 r q1, r1 r q1 q2], M, ⟨rfl, by omega, by omega⟩, fun i i1 i2 => by rw [t1 115 (by omega)]; exact g1 i i1 i2, fun i i1 i2 => by omega, rfl⟩
      rintro n' y1 y2 y3 y4 y5 τ' k' ⟨⟨rfl, rfl, rfl, rfl⟩, q1, p, ⟨rfl, p1, p2⟩, a1, a2, a3⟩ hk'
      have INS : hr_ps A y4 p = p → B_X10_middleFor_94 (d + 5) Q kk y1 M o y4 p τ' := by
        intro hp
        unfold B_X10_middleFor_94 B_X10_middleFor_106
        refine ⟨by omega, by omega, hk (n - 1) _ _ _ _ (by omega) ⟨rfl, fun r b1 b2 => by rw [hh_up_ne b2]; exact q1 r b1 b2, o + 1, ⟨by omega, by omega, by omega, by rw [s1]; omega⟩, fun i i1 i2 => ?_⟩⟩
        rw [s1] at i2
        rw [s2, a3, hp]
        unfold hr_in
        by_cases y : i < (p : Int)
        · rw [if_pos y, hh_up_off (by omega)]; exact a1 i i1 y
        · rw [if_neg y]
          by_cases x : i = (p : Int)
          · rw [if_pos x, x, hh_up_at]
          · rw [if_neg x, if_pos (by omega), hh_up_off x]
            exact a2 i (by omega) (by omega)
      unfold B_X10_middleFor_53
      refine ⟨fun c1 => INS (by rw [show p = 0 by omega]; rfl), fun c1 => ⟨by omega, ?_⟩⟩
      rw [a1 ((p : Int) - 1) (by omega) (by omega)]
      obtain ⟨q, rfl⟩ : ∃ q : Nat, p = q + 1 := ⟨p - 1, by omega⟩
      have eq : ((q + 1 : Nat) : Int) - 1 = (q : Int) := by omega
      rw [eq]
      refine ⟨fun c2 => INS ?_, fun c2 => ⟨by omega, ?_⟩⟩
      · show (if _ then _ else _) = _
        rw [if_neg (by omega)]
      · refine hk' (n' - 1) _ _ _ _ _ _ (by omega) ⟨⟨rfl, rfl, rfl, rfl⟩, fun r b1 b2 => by rw [hh_up_ne b2]; exact q1 r b1 b2, q, ⟨by omega, by omega, by omega⟩, fun i i1 i2 => by rw [hh_up_off (by omega)]; exact a1 i i1 (by omega), fun i i1 i2 => ?_, ?_⟩
        · by_cases y : i = ((q + 1 : Nat) : Int)
          · rw [y, hh_up_at, eq]
          · rw [hh_up_off y]; exact a2 i (by omega) i2
        · rw [a3]
          show (if _ then _ else _) = _
          rw [if_pos (by omega)]
  refine c_isLike hNt he (by omega) (fun z => ⟨fun y => by omega, fun _ => ?_⟩) (fun z => ⟨fun _ => ?_, fun y => by omega⟩)
  · have e18 : τ 1 8 = s 0 := by rw [r1 1 (by omega) (by omega)]; exact hU.1.1
    rw [e18]
    refine c_countedOf hNt (by omega) (fun ρ t1 => ?_)
    have := A43 ρ t1
    unfold hr_lv at this
    rw [if_pos z] at this
    exact this
  · have := A43 τ (fun _ _ => rfl)
    unfold hr_lv at this
    rw [if_neg z] at this
    exact this
set_option maxHeartbeats 2000000 in
theorem c_middleOf {d : Nat} {σ π : hh_S} {s : Int → Int} {e : Int} {Q : Int → hh_S → Prop} (hs : σ 129 = s) (h : hr_N π s) (he : 0 ≤ e ∧ e < s 7) (hq : ∀ ρ : hh_S, (∀ r : Nat, r ≠ 136 → r ≠ 137 → r ≠ 139 → ρ r = σ r) → Q (hr_mid s e (-1)) ρ) : hh_Sp (d + 4) hm_X12_middleOf [hh_R 128, hh_I e] σ Q := by
  have h' := h
  obtain ⟨hU, hP, hC, hM, hE, hD, hB, hK, hT⟩ := h'
  have e1 := hE.1
  have p1 := hP.1
  refine wp_X12_middleOf _ (fun _ _ => ?_)
  unfold P_X12_middleOf
  refine ⟨by omega, ?_⟩
  refine hh_lp3_of (fun n x2 x3 x4 τ => x2 = 250 + 12 * e ∧ (∀ r : Nat, r ≠ 136 → r ≠ 137 → r ≠ 139 → τ r = σ r) ∧ ∃ o : Nat, (x4 = o ∧ (o : Int) ≤ s 7 ∧ s 7 - o ≤ n ∧ x3 = hr_mc s e o) ∧ ∀ i : Int, 0 ≤ i → i < hr_mc s e o → τ 139 i = hr_ma s e o i) ?_ 90 (250 + 12 * e) 0 0 σ ⟨rfl, fun _ _ _ _ => rfl, 0, ⟨rfl, by omega, by omega, rfl⟩, fun i i1 i2 => by unfold hr_mc at i2; omega⟩
  rintro n x2 x3 x4 τ kk ⟨rfl, r1, o, ⟨rfl, f1, f2, rfl⟩, g1⟩ hk
  have mb := hr_ma_b h e o f1
  have t9 : τ 129 = s := by rw [r1 129 (by omega) (by omega) (by omega), hs]
  unfold B_X12_middleOf_14
  rw [t9]
  refine ⟨fun c => ?_, fun c => ⟨by omega, ?_⟩⟩
  · unfold B_X12_middleOf_244
    have eo : o = (s 7).toNat := by omega
    have hq2 := hq τ r1
    unfold hr_mid at hq2
    rw [← eo] at hq2
    refine ⟨fun z => ⟨by omega, ?_⟩, fun z => ?_⟩
    · rw [if_neg (by omega)] at hq2
      rw [g1 _ (by omega) (by omega)]
      exact hq2
    · rw [if_pos (by omega)] at hq2
      exact hq2
  have lb := hr_lv_b h e (o := o) (by omega)
  have A43 : ∀ (τ1 : hh_S), (∀ r : Nat, r ≠ 136 → r ≠ 137 → τ1 r = τ r) → B_X12_middleOf_172 (d + 3) Q kk (250 + 12 * e) (hr_mc s e o) o (hr_lv s e o) τ1 := by
    intro τ1 t1
    unfold B_X12_middleOf_172
    refine ⟨fun z => ?_, fun z0 => ?_⟩
    · have z0 : ¬ hr_lv s e o = 0 := by omega
      obtain ⟨A, hA⟩ : ∃ A : Int → Int, A = hr_ma s e o := ⟨_, rfl⟩
      obtain ⟨v, hv⟩ : ∃ v : Int, v = hr_lv s e o := ⟨_, rfl⟩
      obtain ⟨M, hM⟩ : ∃ M : Nat, M = hr_mc s e o := ⟨_, rfl⟩
      have s1 : hr_mc s e (o + 1) = M + 1 := by
        rw [hM]
        show (if _ then _ else _) = _
        rw [if_neg z0]
      have s2 : hr_ma s e (o + 1) = hr_in A M (hr_ps A v M) v := by
        rw [hA, hv, hM]
        show (if _ then _ else _) = _
        rw [if_neg z0]
      rw [← hA, ← hM] at g1
      rw [← hM] at mb
      rw [← hv] at lb
      rw [← hM, ← hv]
      refine hh_lp5_of (fun n' y1 y2 y3 y4 y5 τ' => (y1 = 250 + 12 * e ∧ y2 = M ∧ y3 = o ∧ y4 = v) ∧ (∀ r : Nat, r ≠ 136 → r ≠ 137 → r ≠ 139 → τ' r = σ r) ∧ ∃ p : Nat, (y5 = p ∧ p ≤ M ∧ p ≤ n') ∧ (∀ i : Int, 0 ≤ i → i < p → τ' 139 i = A i) ∧ (∀ i : Int, (p : Int) < i → i ≤ M → τ' 139 i = A (i - 1)) ∧ hr_ps A v M = hr_ps A v p) ?_ M (250 + 12 * e) M o v M τ1 ⟨⟨rfl, rfl, rfl, rfl⟩, fun r q1 q2 q3 => by rw [t1 r q1 q2, r1 r q1 q2 q3], M, ⟨rfl, by omega, by omega⟩, fun i i1 i2 => by rw [t1 139 (by omega) (by omega)]; exact g1 i i1 i2, fun i i1 i2 => by omega, rfl⟩
      rintro n' y1 y2 y3 y4 y5 τ' k' ⟨⟨rfl, rfl, rfl, rfl⟩, q1, p, ⟨rfl, p1, p2⟩, a1, a2, a3⟩ hk'
      have INS : hr_ps A y4 p = p → B_X12_middleOf_226 (d + 3) Q kk (250 + 12 * e) M o y4 p τ' := by
        intro hp
        unfold B_X12_middleOf_226 B_X12_middleOf_238
        refine ⟨by omega, by omega, hk (n - 1) _ _ _ _ (by omega) ⟨rfl, fun r b1 b2 b3 => by rw [hh_up_ne b3]; exact q1 r b1 b2 b3, o + 1, ⟨by omega, by omega, by omega, by rw [s1]; omega⟩, fun i i1 i2 => ?_⟩⟩
        rw [s1] at i2
        rw [s2, a3, hp]
        unfold hr_in
        by_cases y : i < (p : Int)
        · rw [if_pos y, hh_up_off (by omega)]; exact a1 i i1 y
        · rw [if_neg y]
          by_cases x : i = (p : Int)
          · rw [if_pos x, x, hh_up_at]
          · rw [if_neg x, if_pos (by omega), hh_up_off x]
            exact a2 i (by omega) (by omega)
      unfold B_X12_middleOf_185
      refine ⟨fun c1 => INS (by rw [show p = 0 by omega]; rfl), fun c1 => ⟨by omega, ?_⟩⟩
      rw [a1 ((p : Int) - 1) (by omega) (by omega)]
      obtain ⟨q, rfl⟩ : ∃ q : Nat, p = q + 1 := ⟨p - 1, by omega⟩
      have eq : ((q + 1 : Nat) : Int) - 1 = (q : Int) := by omega
      rw [eq]
      refine ⟨fun c2 => INS ?_, fun c2 => ⟨by omega, ?_⟩⟩
      · show (if _ then _ else _) = _
        rw [if_neg (by omega)]
      · refine hk' (n' - 1) _ _ _ _ _ _ (by omega) ⟨⟨rfl, rfl, rfl, rfl⟩, fun r b1 b2 b3 => by rw [hh_up_ne b3]; exact q1 r b1 b2 b3, q, ⟨by omega, by omega, by omega⟩, fun i i1 i2 => by rw [hh_up_off (by omega)]; exact a1 i i1 (by omega), fun i i1 i2 => ?_, ?_⟩
        · by_cases y : i = ((q + 1 : Nat) : Int)
          · rw [y, hh_up_at, eq]
          · rw [hh_up_off y]; exact a2 i (by omega) i2
        · rw [a3]
          show (if _ then _ else _) = _
          rw [if_pos (by omega)]
    · unfold B_X12_middleOf_238
      refine ⟨by omega, hk (n - 1) _ _ _ _ (by omega) ⟨rfl, fun r q1 q2 q3 => by rw [t1 r q1 q2, r1 r q1 q2 q3], o + 1, ⟨by omega, by omega, by omega, ?_⟩, ?_⟩⟩
      · rw [show hr_mc s e (o + 1) = hr_mc s e o by show (if _ then _ else _) = _; rw [if_pos z0]]
      · rw [show hr_mc s e (o + 1) = hr_mc s e o by show (if _ then _ else _) = _; rw [if_pos z0], show hr_ma s e (o + 1) = hr_ma s e o by show (if _ then _ else _) = _; rw [if_pos z0], t1 139 (by omega) (by omega)]
        exact g1
  have NO : ¬ hr_lk s e o → B_X12_middleOf_147 (d + 3) Q kk (250 + 12 * e) (hr_mc s e o) o τ := by
    intro z
    unfold B_X12_middleOf_147 B_X12_middleOf_148
    refine ⟨fun _ => ?_, fun y => by omega⟩
    have := A43 τ (fun _ _ _ => rfl)
    unfold hr_lv at this
    rw [if_neg z] at this
    exact this
  obtain ⟨⟨v1, v2, v3, v4, v5, v6, v7⟩, ⟨v8, v9, v10, v11⟩, v12⟩ := hE.2 e he.1 he.2
  obtain ⟨⟨w1, w2, w3, w4, w5, w6, w7⟩, ⟨w8, w9, w10, w11⟩, w12⟩ := hE.2 o (by omega) (by omega)
  refine ⟨fun z1 => NO (fun y => y.1.1 z1), fun z1 => ⟨by omega, fun z2 => NO (fun y => y.1.2 z2), fun z2 => ⟨by omega, fun z3 => NO (fun y => z3 y.2.1.1), fun z3 => ⟨by omega, fun z4 => NO (fun y => z4 y.2.1.2), fun z4 => ⟨by omega, fun z5 => NO (fun y => z5 y.2.2), fun z5 => ?_⟩⟩⟩⟩⟩
  unfold B_X12_middleOf_148
  rw [t9]
  refine ⟨fun y => by omega, fun _ => c_gives t9 h (by omega) (Or.inl rfl) (fun ρ t1 => ?_)⟩
  have := A43 ρ t1
  unfold hr_lv at this
  rw [if_pos ⟨⟨z1, z2⟩, ⟨z3, z4⟩, z5⟩] at this
  exact this
set_option maxHeartbeats 2000000 in
theorem o_middle {σ : hh_S} {a1 : Int} (h : hr_R σ) : hr_op2 hm_X11_middle hm_X12_middle [hh_I a1] σ := by
  obtain ⟨hU, hP, hC, hM, hE, hD, hB, hK, hT⟩ := h.1
  have u := hU
  unfold hr_U at u
  have p1 := hP.1
  have c1 := hC.1
  have m1 := hM.1
  have e1 := hE.1
  have d1 := hD.1
  have b1 := hB.1
  have k1 := hK.1
  have t1 := hT.1
  have hN := h.1
  have md : ∀ (ρ : hh_S) (r : Int), (∀ r : Nat, r ≠ 113 → r ≠ 115 → ρ r = σ r) → (¬ (0 ≤ a1 ∧ a1 < σ 129 7) → r = -1000000001) → ((0 ≤ a1 ∧ a1 < σ 129 7) → (σ 129 (250 + 12 * a1 + 8) = -1 → r = -1000000002) ∧ (σ 129 (250 + 12 * a1 + 8) ≠ -1 → r = hr_mid (σ 129) a1 (-1000000002))) → hh_Sp 200 hm_X12_middle [hh_R 128, hh_I a1] ρ (fun r' σ2 => r = r' ∧ hr_R σ2) := by
    intro ρ r w b1 b2
    have w9 : ρ 129 = σ 129 := w 129 (by omega) (by omega)
    have R' : ∀ π : hh_S, (∀ r : Nat, r ≠ 136 → r ≠ 137 → r ≠ 139 → π r = ρ r) → hr_R π := fun π q => h.fr (fun r hr => by rw [q r (by omega) (by omega) (by omega), w r (by omega) (by omega)])
    refine wp_X12_middle _ (fun _ _ => ?_)
    unfold P_X12_middle
    refine c_isEntry (by rw [w9]; omega) (fun y1 y2 => ⟨fun _ => ?_, fun z => by omega⟩) (fun z => ⟨fun y => by omega, fun _ => ⟨b1 (by rw [w9] at z; omega), R' ρ (fun _ _ _ _ => rfl)⟩⟩)
    rw [w9] at y2
    rw [w9]
    refine ⟨by omega, fun z => ?_, fun z => ⟨(b2 (by omega)).1 z, R' ρ (fun _ _ _ _ => rfl)⟩⟩
    refine c_middleOf w9 hN (by omega) (fun π q => ?_)
    have b3 := (b2 (by omega)).2 z
    have mb := (hr_ma_b hN a1 (σ 129 7).toNat (by omega))
    unfold hr_mid at b3 ⊢
    by_cases y : hr_mc (σ 129) a1 (σ 129 7).toNat = 0
    · rw [if_pos y] at b3 ⊢
      exact ⟨fun x => absurd rfl x, fun _ => ⟨b3, R' π q⟩⟩
    · rw [if_neg y] at b3 ⊢
      have := mb.2 (((hr_mc (σ 129) a1 (σ 129 7).toNat : Int) - 1) / 2) (by omega) (by omega)
      exact ⟨fun _ => ⟨b3, R' π q⟩, fun x => by omega⟩
  refine wp_X11_middle _ (fun _ _ => ?_)
  unfold P_X11_middle
  refine c_X3_has (by omega) (fun g1 g2 => ⟨fun _ => ⟨by omega, ?_⟩, fun z => by omega⟩) (fun z => ⟨fun y => by omega, fun _ => md σ _ (fun _ _ _ => rfl) (fun _ => rfl) (fun y => by omega)⟩)
  have w9 := (hE.2 a1 g1 (by omega)).2.1.2.1.1
  unfold hr_nn at w9
  refine ⟨fun z => ?_, fun z => md σ _ (fun _ _ _ => rfl) (fun y => by omega) (fun _ => ⟨fun _ => rfl, fun y => by omega⟩)⟩
  refine c_middleFor hN (by omega) (fun ρ q => ?_)
  have mb := (hr_ma_b hN a1 (σ 129 7).toNat (by omega))
  have MD := md ρ (hr_mid (σ 129) a1 (-1000000002)) q (fun y => by omega) (fun _ => ⟨fun y => by omega, fun _ => rfl⟩)
  unfold hr_mid at MD ⊢
  by_cases y : hr_mc (σ 129) a1 (σ 129 7).toNat = 0
  · rw [if_pos y] at MD ⊢
    exact ⟨fun x => absurd rfl x, fun _ => MD⟩
  · rw [if_neg y] at MD ⊢
    have := mb.2 (((hr_mc (σ 129) a1 (σ 129 7).toNat : Int) - 1) / 2) (by omega) (by omega)
    exact ⟨fun _ => MD, fun x => by omega⟩
