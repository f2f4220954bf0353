/-- entry e goes into a bill of matter m up to day w, as known on day k -/
abbrev hr_tk (s : Int → Int) (m w k e : Int) : Prop := (s (250 + 12 * e + 1) = m ∧ s (250 + 12 * e + 2) ≤ w) ∧ s (250 + 12 * e + 8) = -1 ∧ (s (250 + 12 * e + 6) ≤ k ∧ (s (250 + 12 * e + 7) < 0 ∨ k < s (250 + 12 * e + 7)))
def hr_tg (s : Int → Int) (m w k kd : Int) : Nat → Int
  | 0 => 0
  | n + 1 => hr_tg s m w k kd n + if hr_tk s m w k n then hr_ch s n k m kd else 0
def hr_tc (s : Int → Int) (m w k : Int) : Nat → Int
  | 0 => 0
  | n + 1 => hr_tc s m w k n + if hr_tk s m w k n then 1 else 0
theorem hr_tg_b {σ : hh_S} {s : Int → Int} (h : hr_N σ s) (m w k kd : Int) : ∀ n : Nat, (n : Int) ≤ s 7 → 0 ≤ hr_tg s m w k kd n ∧ hr_tg s m w k kd n ≤ 239976 * n
  | 0, _ => by unfold hr_tg; omega
  | n + 1, hn => by
    have i := hr_tg_b h m w k kd n (by omega)
    have c := hr_ch_b (k := k) (m := m) (kd := kd) h (e := n) (by omega)
    show 0 ≤ hr_tg s m w k kd n + _ ∧ hr_tg s m w k kd n + _ ≤ _
    split <;> omega
theorem hr_tg_1 (s : Int → Int) (m w k : Int) : ∀ n : Nat, hr_tg s m w k 1 n = 0
  | 0 => rfl
  | n + 1 => by
    show hr_tg s m w k 1 n + _ = 0
    rw [hr_tg_1 s m w k n]
    unfold hr_ch
    split <;> rfl
theorem hr_tc_b (s : Int → Int) (m w k : Int) : ∀ n : Nat, 0 ≤ hr_tc s m w k n ∧ hr_tc s m w k n ≤ n
  | 0 => by unfold hr_tc; omega
  | n + 1 => by
    have i := hr_tc_b s m w k n
    show 0 ≤ hr_tc s m w k n + _ ∧ hr_tc s m w k n + _ ≤ _
    split <;> omega
set_option maxHeartbeats 2000000 in
theorem c_takeEntries {d : Nat} {σ : hh_S} {s : Int → Int} {b m w kd : Int} {Q : Int → hh_S → Prop} (h : hr_N σ s) (hb : 0 ≤ b ∧ b < 16) (hc : ∀ e : Nat, (e : Int) < s 7 → hr_q s m (s 0) e → σ 116 e = hr_ch s e (s 0) m kd) (hq : ∀ ρ : hh_S, (∀ r : Nat, r ≠ 33 → r ≠ 34 → r ≠ 48 → ρ r = σ r) → (∀ e : Int, 0 ≤ e → e < s 7 → ρ 33 e = (if hr_tk s m w (s 0) e then b else σ 33 e) ∧ ρ 34 e = (if hr_tk s m w (s 0) e then hr_ch s e (s 0) m kd else σ 34 e)) → (∀ k : Int, ρ 48 k = if k = b then hr_tc s m w (s 0) (s 7).toNat else σ 48 k) → Q (hr_tg s m w (s 0) kd (s 7).toNat) ρ) : hh_Sp (d + 2) hm_X11_takeEntries [hh_R 0, hh_I b, hh_I m, hh_I w] σ Q := by
  have h' := h
  obtain ⟨hU, hP, hC, hM, hE, hD, hB, hK, hT⟩ := h'
  have e1 := hE.1
  have u1 := hU.1
  refine wp_X11_takeEntries _ _ _ (fun _ _ _ _ => ?_)
  refine hh_lp6_of (fun n x1 x2 x3 x5 x6 x7 τ => (x1 = b ∧ x2 = m ∧ x3 = w) ∧ (∀ r : Nat, r ≠ 33 → r ≠ 34 → τ r = σ r) ∧ ∃ o : Nat, (x7 = o ∧ (o : Int) ≤ s 7 ∧ s 7 - o ≤ n ∧ x5 = hr_tg s m w (s 0) kd o ∧ x6 = hr_tc s m w (s 0) o) ∧ (∀ e : Int, 0 ≤ e → e < o → τ 33 e = (if hr_tk s m w (s 0) e then b else σ 33 e) ∧ τ 34 e = (if hr_tk s m w (s 0) e then hr_ch s e (s 0) m kd else σ 34 e)) ∧ (∀ e : Int, (o : Int) ≤ e → τ 33 e = σ 33 e ∧ τ 34 e = σ 34 e)) ?_ 90 b m w 0 0 0 σ ⟨⟨rfl, rfl, rfl⟩, fun _ _ _ => rfl, 0, ⟨rfl, by omega, by omega, rfl, rfl⟩, fun e e1 e2 => by omega, fun e _ => ⟨rfl, rfl⟩⟩
  rintro n x1 x2 x3 x5 x6 x7 τ kk ⟨⟨rfl, rfl, rfl⟩, r1, o, ⟨rfl, f1, f2, rfl, rfl⟩, g1, g2⟩ hk
  have bg := hr_tg_b h x2 x3 (s 0) kd o f1
  have bc := hr_tc_b s x2 x3 (s 0) o
  unfold B_X11_takeEntries_18
  rw [r1 24 (by omega) (by omega), e1.1, r1 26 (by omega) (by omega), r1 27 (by omega) (by omega)]
  refine ⟨fun c => ?_, fun c => ⟨by omega, ?_⟩⟩
  · unfold B_X11_takeEntries_145
    have eo : o = (s 7).toNat := by omega
    rw [eo] at g1 ⊢
    refine ⟨by omega, hq _ (fun r q1 q2 q3 => by rw [hh_up_ne q3]; exact r1 r q1 q2) (fun e e1 e2 => ?_) (fun k => ?_)⟩
    · rw [hh_up_ne (by omega), hh_up_ne (by omega)]
      exact g1 e e1 (by omega)
    · rw [hh_up_eq, r1 48 (by omega) (by omega)]
  obtain ⟨⟨w1, w2, w3, w4, w5, w6, w7⟩, ⟨w8, w9, w10, w11⟩, w12⟩ := hE.2 o (by omega) (by omega)
  have kn := hr_kn_nn (t := s (250 + 12 * (o : Int) + 6)) (k := s 0) w8.1
  have w8' := w8.1
  have w9' := w9.1
  unfold hr_nn at w8' w9'
  have go := g2 o (by omega)
  rw [w2.1, w3.1, go.1]
  have NO : ¬ hr_tk s x2 x3 (s 0) o → B_X11_takeEntries_139 (d + 1) Q kk x1 x2 x3 (hr_tg s x2 x3 (s 0) kd o) (hr_tc s x2 x3 (s 0) o) o τ := by
    intro z
    unfold B_X11_takeEntries_139
    refine ⟨by omega, hk (n - 1) _ _ _ _ _ _ _ (by omega) ⟨⟨rfl, rfl, rfl⟩, r1, o + 1, ⟨by omega, by omega, by omega, ?_, ?_⟩, fun e q1 q2 => ?_, fun e q1 => g2 e (by omega)⟩⟩
    · show _ = hr_tg s x2 x3 (s 0) kd o + (if _ then _ else _)
      rw [if_neg z, Int.add_zero]
    · show _ = hr_tc s x2 x3 (s 0) o + (if _ then _ else _)
      rw [if_neg z, Int.add_zero]
    · by_cases y : e = o
      · rw [y, if_neg z, if_neg z]; exact go
      · exact g1 e q1 (by omega)
  have N0 : ¬ hr_tk s x2 x3 (s 0) o → B_X11_takeEntries_69 (d + 1) Q kk x1 x2 x3 (hr_tg s x2 x3 (s 0) kd o) (hr_tc s x2 x3 (s 0) o) o τ := by
    intro z
    unfold B_X11_takeEntries_69 B_X11_takeEntries_70
    exact ⟨fun _ => NO z, fun y => by omega⟩
  refine ⟨fun z => N0 (fun y => z y.1.1), fun z1 => ⟨by omega, fun z => N0 (fun y => by have := y.1.2; omega), fun z2 => ⟨by omega, fun z => N0 (fun y => by have := y.2.1; omega), fun z3 => ?_⟩⟩⟩
  unfold B_X11_takeEntries_70
  refine ⟨fun y => by omega, fun _ => ?_⟩
  rw [r1 1 (by omega) (by omega), u1.1]
  refine c_X3_isKnown (by omega) ?_ ?_ (by rw [r1 32 (by omega) (by omega)]; omega) <;> rw [r1 31 (by omega) (by omega), r1 32 (by omega) (by omega), w7.1, kn]
  · intro z5
    have tk : hr_tk s x2 x3 (s 0) o := ⟨⟨z1, by omega⟩, by omega, z5⟩
    refine ⟨fun y => by omega, fun _ => ?_⟩
    have co := hc o (by omega) ⟨z1, z5⟩
    have cb := hr_ch_b (k := s 0) (m := x2) (kd := kd) h (e := o) (by omega)
    rw [r1 116 (by omega) (by omega), co]
    unfold B_X11_takeEntries_139
    refine ⟨by omega, by omega, hk (n - 1) _ _ _ _ _ _ _ (by omega) ⟨⟨rfl, rfl, rfl⟩, fun r q1 q2 => by rw [hh_up_ne q2, hh_up_ne q1]; exact r1 r q1 q2, o + 1, ⟨by omega, by omega, by omega, ?_, ?_⟩, fun e q1 q2 => ?_, fun e q1 => ?_⟩⟩
    · show _ = hr_tg s x2 x3 (s 0) kd o + (if _ then _ else _)
      rw [if_pos tk]
    · show _ = hr_tc s x2 x3 (s 0) o + (if _ then _ else _)
      rw [if_pos tk]
    · by_cases y : e = o
      · rw [y, if_pos tk, if_pos tk, hh_up_ne (by omega), hh_up_at, hh_up_at]
        exact ⟨rfl, rfl⟩
      · rw [hh_up_ne (by omega), hh_up_off y, hh_up_off y, hh_up_ne (by omega)]
        exact g1 e q1 (by omega)
    · rw [hh_up_ne (by omega), hh_up_off (by omega), hh_up_off (by omega), hh_up_ne (by omega)]
      exact g2 e (by omega)
  · intro z5
    exact ⟨fun _ => NO (fun y => z5 y.2.2), fun y => by omega⟩

set_option maxHeartbeats 2000000 in
theorem hr_R.bill {σ ρ : hh_S} (h : hr_R σ) {m w G T R C : Int} {P : Int → Int} (hm : 0 ≤ m ∧ m < σ 129 6) (hb : σ 129 10 < 16) (hR : 0 ≤ R ∧ R ≤ 999999) (hP' : ∀ i : Int, 0 ≤ i → i < σ 129 (50 + 20 * m + 10) → 0 ≤ P i ∧ P i ≤ 30000000) (hP0 : ∀ i : Int, σ 129 (50 + 20 * m + 10) ≤ i → i < 3 → P i = 0)
    (er : ∀ r : Nat, (r < 111 ∨ (122 ≤ r ∧ r < 125) ∨ (128 ≤ r ∧ r < 131) ∨ r = 133 ∨ (144 ≤ r ∧ r < 147)) → r ≠ 21 → r ≠ 33 → r ≠ 34 → (r < 42 ∨ 49 < r) → r ≠ 129 → ρ r = σ r)
    (e21 : ∀ k : Int, ρ 21 k = if k = m then R else σ 21 k) (e42 : ρ 42 0 = σ 129 10 + 1) (e43 : ∀ k : Int, ρ 43 k = if k = σ 129 10 then m else σ 43 k) (e44 : ∀ k : Int, ρ 44 k = if k = σ 129 10 then σ 129 0 else σ 44 k) (e45 : ∀ k : Int, ρ 45 k = if k = σ 129 10 then G else σ 45 k) (e46 : ∀ k : Int, ρ 46 k = if k = σ 129 10 then T else σ 46 k) (e47 : ∀ k : Int, ρ 47 k = if k = σ 129 10 then w else σ 47 k) (e48 : ∀ k : Int, ρ 48 k = if k = σ 129 10 then C else σ 48 k)
    (e49 : ∀ k : Int, ρ 49 k = if σ 129 10 * 3 ≤ k ∧ k < σ 129 10 * 3 + 3 then P (k - σ 129 10 * 3) else σ 49 k)
    {up : Int} (e33 : ∀ e : Int, 0 ≤ e → e < σ 129 7 → ρ 33 e = (if hr_tk (σ 129) m up (σ 129 0) e then σ 129 10 else σ 33 e) ∧ ρ 34 e = (if hr_tk (σ 129) m up (σ 129 0) e then hr_ch (σ 129) e (σ 129 0) m (σ 129 (50 + 20 * m)) else σ 34 e))
    (es : ∀ j : Int, (j < 250 ∨ 1330 ≤ j) → (j < 1630 + 12 * σ 129 10 ∨ 1630 + 12 * σ 129 10 + 12 ≤ j) → j ≠ 10 → j ≠ 50 + 20 * m + 3 → ρ 129 j = σ 129 j) (eE : ∀ e : Int, 0 ≤ e → e < σ 129 7 → (∀ k : Int, 0 ≤ k → k < 12 → k ≠ 8 → k ≠ 9 → ρ 129 (250 + 12 * e + k) = σ 129 (250 + 12 * e + k)) ∧ ρ 129 (250 + 12 * e + 8) = (if hr_tk (σ 129) m up (σ 129 0) e then σ 129 10 else σ 129 (250 + 12 * e + 8)) ∧ ρ 129 (250 + 12 * e + 9) = (if hr_tk (σ 129) m up (σ 129 0) e then hr_ch (σ 129) e (σ 129 0) m (σ 129 (50 + 20 * m)) else σ 129 (250 + 12 * e + 9)))
    (f10 : ρ 129 10 = σ 129 10 + 1) (fR : ρ 129 (50 + 20 * m + 3) = R) (f0 : ρ 129 (1630 + 12 * σ 129 10) = m) (f1 : ρ 129 (1630 + 12 * σ 129 10 + 1) = σ 129 0) (f2 : ρ 129 (1630 + 12 * σ 129 10 + 2) = G) (f3 : ρ 129 (1630 + 12 * σ 129 10 + 3) = T) (f4 : ρ 129 (1630 + 12 * σ 129 10 + 4) = w) (f5 : ρ 129 (1630 + 12 * σ 129 10 + 5) = C)
    (fp : ∀ i : Int, 0 ≤ i → i < σ 129 (50 + 20 * m + 10) → ρ 129 (1630 + 12 * σ 129 10 + 6 + σ 129 (50 + 20 * m + 11 + i)) = P i) (fz : ∀ c : Int, 0 ≤ c → c < 5 → (∀ i : Int, 0 ≤ i → i < σ 129 (50 + 20 * m + 10) → σ 129 (50 + 20 * m + 11 + i) ≠ c) → ρ 129 (1630 + 12 * σ 129 10 + 6 + c) = 0) : hr_R ρ := by
  obtain ⟨hU, hP, hC, hM, hE, hD, hB, hK, hT⟩ := h.1
  have u := hU
  unfold hr_U at u
  have p1 := hP.1
  have c1 := hC.1
  have m1 := hM.1
  have e1 := hE.1
  have d1 := hD.1
  have b1 := hB.1
  have k1 := hK.1
  have t1 := hT.1
  have hN := h.1
  have e (r : Nat) (z : (r < 111 ∨ (122 ≤ r ∧ r < 125) ∨ (128 ≤ r ∧ r < 131) ∨ r = 133 ∨ (144 ≤ r ∧ r < 147)) ∧ r ≠ 21 ∧ r ≠ 33 ∧ r ≠ 34 ∧ (r < 42 ∨ 49 < r) ∧ r ≠ 129) : ρ r = σ r := er r z.1 z.2.1 z.2.2.1 z.2.2.2.1 z.2.2.2.2.1 z.2.2.2.2.2
  have es2 : ∀ j : Int, (j < 10 ∨ 11 ≤ j ∧ j < 50 ∨ 1330 ≤ j ∧ j < 1630 ∨ 1822 ≤ j) → ρ 129 j = σ 129 j := fun j hj => es j (by omega) (by omega) (by omega) (by omega)
  have L : ∀ k : Int, (k < 10) → σ 129 k ≤ ρ 129 k := fun k hk => by rw [es2 k (by omega)]; exact Int.le_refl _
  refine h.nw (fun r r1 r2 => e r (by omega)) (e 0 (by omega)) (by rw [e 109 (by omega)]) (e 110 (by omega)) (e 122 (by omega)) (e 123 (by omega)) (e 124 (by omega)) (by rw [e 128 (by omega)]) (by rw [e 128 (by omega)]) (by rw [e 128 (by omega)]) (e 130 (by omega)) (e 133 (by omega)) (e 144 (by omega)) (e 145 (by omega)) (e 146 (by omega)) ?_
  refine ⟨hU.cg (e 1 (by omega)) (e 54 (by omega)) (fun k k1 k2 => es2 k (by omega)), hP.cg (e 2 (by omega)) (e 3 (by omega)) (e 4 (by omega)) (e 5 (by omega)) (fun k hk => es2 k (by omega)), hC.cg (e 6 (by omega)) (e 7 (by omega)) (fun k hk => es2 k (by omega)), ⟨by rw [e 13 (by omega), es2 6 (by omega)]; exact m1, fun p z1 z2 => ?_⟩, ⟨by rw [e 24 (by omega), es2 7 (by omega)]; exact e1, fun p z1 z2 => ?_⟩, hD.cg (fun r r1 r2 => e r (by omega)) (L 4 (by omega)) (fun k hk => es2 k (by omega)), ⟨by rw [e42, f10]; omega, fun p z1 z2 => ?_⟩, hK.cg (e 50 (by omega)) (e 51 (by omega)) (e 52 (by omega)) (e 53 (by omega)) (L 6 (by omega)) (fun k hk => es2 k (by omega)), hT.cg (e 8 (by omega)) (e 9 (by omega)) (e 10 (by omega)) (e 11 (by omega)) (e 12 (by omega)) (es2 5 (by omega)) (fun k hk => es2 k (by omega))⟩
  · rw [es2 6 (by omega)] at z2
    by_cases z : p = m
    · subst z
      obtain ⟨⟨h1, h2, h3, h4, h5, h6⟩, h7, h8, h9, h10, h11, h12⟩ := hM.2 p z1 z2
      have q : ∀ k : Int, 0 ≤ k → k < 20 → k ≠ 3 → ρ 129 (50 + 20 * p + k) = σ 129 (50 + 20 * p + k) := fun k k1 k2 k3 => es _ (by omega) (by omega) (by omega) (by omega)
      have q0 : ρ 129 (50 + 20 * p) = σ 129 (50 + 20 * p) := es _ (by omega) (by omega) (by omega) (by omega)
      unfold hr_M1
      rw [e 14 (by omega), e 15 (by omega), e 16 (by omega), e 17 (by omega), e 18 (by omega), e 19 (by omega), e 20 (by omega), e 22 (by omega), e 23 (by omega), e21, if_pos rfl, fR, es2 5 (by omega), q0, q 1 (by omega) (by omega) (by omega), q 2 (by omega) (by omega) (by omega), q 4 (by omega) (by omega) (by omega), q 10 (by omega) (by omega) (by omega), q 17 (by omega) (by omega) (by omega)]
      refine ⟨⟨h1, h2, h3, h4, by omega, h6⟩, fun i i1 i2 => ?_, fun i j i1 i2 i3 => ?_, fun k k1 k2 => ?_, fun y => ?_, h11, h12⟩
      · rw [es _ (by omega) (by omega) (by omega) (by omega), es _ (by omega) (by omega) (by omega) (by omega)]
        exact h7 i i1 i2
      · rw [es _ (by omega) (by omega) (by omega) (by omega), es _ (by omega) (by omega) (by omega) (by omega)]
        exact h8 i j i1 i2 i3
      · rw [es _ (by omega) (by omega) (by omega) (by omega)]
        exact h9 k k1 k2
      · rw [es _ (by omega) (by omega) (by omega) (by omega)]
        exact h10 y
    · exact (hM.2 p z1 z2).cg (by rw [e 14 (by omega)]) (by rw [e 15 (by omega)]) (by rw [e 16 (by omega)]) (by rw [e 17 (by omega)]) (fun i _ _ => by rw [e 18 (by omega)]) (fun i _ _ => by rw [e 19 (by omega)]) (fun i _ _ => by rw [e 20 (by omega)]) (by rw [e21, if_neg z]) (by rw [e 22 (by omega)]) (fun i i1 i2 => by rw [e 23 (by omega)]) (L 5 (by omega)) (fun k k1 k2 => es k (by omega) (by omega) (by omega) (by omega))
  · rw [es2 7 (by omega)] at z2
    obtain ⟨⟨v1, v2, v3, v4, v5, v6, v7⟩, ⟨v8, v9, v10, v11⟩, v12⟩ := hE.2 p z1 z2
    have E := eE p z1 z2
    have F := e33 p z1 z2
    have cb := hr_ch_b (k := σ 129 0) (m := m) (kd := σ 129 (50 + 20 * m)) hN ⟨z1, z2⟩
    have q0 : ρ 129 (250 + 12 * p) = σ 129 (250 + 12 * p) := by
      have := E.1 0 (by omega) (by omega) (by omega) (by omega)
      rw [show 250 + 12 * p + 0 = 250 + 12 * p by omega] at this
      exact this
    have v9' := v9.1
    unfold hr_nn at v9'
    unfold hr_E1
    rw [e 25 (by omega), e 26 (by omega), e 27 (by omega), e 28 (by omega), e 29 (by omega), e 30 (by omega), e 31 (by omega), e 32 (by omega), e 35 (by omega), F.1, F.2, q0, E.1 1 (by omega) (by omega) (by omega) (by omega), E.1 2 (by omega) (by omega) (by omega) (by omega), E.1 3 (by omega) (by omega) (by omega) (by omega), E.1 4 (by omega) (by omega) (by omega) (by omega), E.1 5 (by omega) (by omega) (by omega) (by omega), E.1 6 (by omega) (by omega) (by omega) (by omega), E.1 7 (by omega) (by omega) (by omega) (by omega), E.1 10 (by omega) (by omega) (by omega) (by omega), E.2.1, E.2.2, es2 0 (by omega), es2 4 (by omega), es2 6 (by omega), f10]
    by_cases z : hr_tk (σ 129) m up (σ 129 0) p
    · rw [if_pos z, if_pos z, if_pos z, if_pos z]
      refine ⟨⟨v1, v2, v3, v4, v5, v6, v7⟩, ⟨v8, ⟨?_, by omega⟩, ⟨rfl, cb⟩, v11⟩, fun _ => ?_⟩
      · exact Or.inr ⟨by omega, rfl⟩
      · rw [f0]; exact z.1.1.symm
    · rw [if_neg z, if_neg z, if_neg z, if_neg z]
      refine ⟨⟨v1, v2, v3, v4, v5, v6, v7⟩, ⟨v8, ⟨v9.1, by omega⟩, v10, v11⟩, fun y => ?_⟩
      rw [es _ (by omega) (by omega) (by omega) (by omega)]
      exact v12 y
  · rw [f10] at z2
    by_cases z : p = σ 129 10
    · subst z
      have hm1 := hM.2 m hm.1 hm.2
      have hp := hr_pay hC hM hm.1 hm.2
      have q : ∀ k : Int, 50 + 20 * m + 10 ≤ k → k < 50 + 20 * m + 14 → ρ 129 k = σ 129 k := fun k k1 k2 => es _ (by omega) (by omega) (by omega) (by omega)
      unfold hr_B1
      rw [f0, f1, f2, f3, f4, f5, e43, e44, e45, e46, e47, e48, if_pos rfl, if_pos rfl, if_pos rfl, if_pos rfl, if_pos rfl, if_pos rfl, es2 6 (by omega), es2 0 (by omega), q _ (by omega) (by omega)]
      refine ⟨⟨by omega, by omega, rfl, rfl, rfl, rfl⟩, fun i i1 i2 => ?_, fun i i1 i2 => ?_, fun c c1 c2 c3 => ?_, fun c c1 c2 => ?_⟩
      · rw [q (50 + 20 * m + 11 + i) (by omega) (by omega), fp i i1 i2, e49, if_pos (by omega), show σ 129 10 * 3 + i - σ 129 10 * 3 = i by omega]
      · rw [e49, if_pos (by omega), show σ 129 10 * 3 + i - σ 129 10 * 3 = i by omega]
        exact hP0 i i1 i2
      · exact fz c c1 c2 (fun i i1 i2 => by rw [← q (50 + 20 * m + 11 + i) (by omega) (by omega)]; exact c3 i i1 i2)
      · by_cases y : ∀ i : Int, 0 ≤ i → i < σ 129 (50 + 20 * m + 10) → σ 129 (50 + 20 * m + 11 + i) ≠ c
        · rw [fz c c1 c2 y]; omega
        · obtain ⟨i, y1⟩ := Classical.not_forall.1 y
          obtain ⟨i1, y2⟩ := Classical.not_forall.1 y1
          obtain ⟨i2, y3⟩ := Classical.not_forall.1 y2
          have y4 := Classical.not_not.1 y3
          rw [← y4, fp i i1 i2]
          exact hP' i i1 i2
    · have hb1 := hB.2 p z1 (by omega)
      have hp := hr_pay hC hM hb1.1.1.2.1 hb1.1.1.2.2
      rw [es (1630 + 12 * p) (by omega) (by omega) (by omega) (by omega)]
      have hx := hb1.1.1
      refine hb1.cg (fun r r1 r2 => ?_) (fun i i1 i2 => by rw [e49, if_neg (by omega)]) (L 6 (by omega)) (L 0 (by omega)) (fun k k1 k2 => es k (by omega) (by omega) (by omega) (by omega)) (fun k k1 k2 => es k (by omega) (by omega) (by omega) (by omega)) hp.1.2 hp.1.1 hp.2
      rcases (show r = 43 ∨ r = 44 ∨ r = 45 ∨ r = 46 ∨ r = 47 ∨ r = 48 by omega) with rfl | rfl | rfl | rfl | rfl | rfl
      · rw [e43, if_neg z]
      · rw [e44, if_neg z]
      · rw [e45, if_neg z]
      · rw [e46, if_neg z]
      · rw [e47, if_neg z]
      · rw [e48, if_neg z]
