set_option maxHeartbeats 2000000 in
theorem c_gives {d : Nat} {σ π : hh_S} {s : Int → Int} {e k w : Int} {Q : Int → hh_S → Prop} (hs : σ 129 = s) (h : hr_N π s) (he : 0 ≤ e ∧ e < s 7) (hw : w = 0 ∨ w = 1) (hq : ∀ ρ : hh_S, (∀ r : Nat, r ≠ 136 → r ≠ 137 → ρ r = σ r) → Q (hr_val s e k w) ρ) : hh_Sp (d + 3) hm_X12_gives [hh_R 128, hh_I e, hh_I k, hh_I w] σ Q := by
  have h' := h
  obtain ⟨hU, hP, hC, hM, hE, hD, hB, hK, hT⟩ := h'
  have e1 := hE.1
  have m1 := hM.1
  have p1 := hP.1
  have t1 := hT.1
  obtain ⟨⟨v1, v2, v3, v4, v5, v6, v7⟩, v8, v10⟩ := hE.2 e he.1 he.2
  refine wp_X12_gives _ _ _ (fun _ _ _ _ => ?_)
  unfold P_X12_gives
  refine ⟨by omega, c_termOf hs h he ?_⟩
  unfold hr_val hr_vt at hq
  rw [hs]
  rcases hr_tm_b s (s (50 + 20 * s (250 + 12 * e + 1) + 1)) (s (250 + 12 * e + 2)) (s 9).toNat with b | ⟨u, b1, b2, b3⟩
  · rw [b] at hq ⊢
    rw [if_pos rfl] at hq
    refine ⟨fun z => absurd rfl z, fun _ => ⟨fun z => ⟨by omega, ?_⟩, fun z => ⟨by omega, ?_⟩⟩⟩
    · rw [if_neg z] at hq
      exact hq σ (fun _ _ _ => rfl)
    · rw [if_pos z] at hq
      exact hq σ (fun _ _ _ => rfl)
  · rw [b1] at hq ⊢
    rw [if_neg (by omega)] at hq
    have hTu := hT.2.2 u (by omega)
    have tw := hr_txw hTu.2.2 hw
    have x1 := hTu.2.2.1
    refine ⟨fun _ => ⟨by omega, ?_⟩, fun z => by omega⟩
    refine c_beside (s := s) (by rw [← hs]; rfl) hE p1.2.2 he ⟨by omega, ?_⟩
    refine c_worked (s := s) (n := s (1840 + 484 * (u : Int) + 2 + 241 * w)) (f := fun i => hr_cd (s (1840 + 484 * (u : Int) + 2 + 241 * w + 1 + 2 * i)) (s (1840 + 484 * (u : Int) + 2 + 241 * w + 2 + 2 * i))) (nm := hr_nm s e k) (by rw [← hs]; rfl) (by omega) ⟨rfl, ?_⟩ (fun i i1 i2 => (tw.1 i i1 i2).1) tw.2 (fun v hv => ?_) (fun ρ r1 => ?_)
    · rcases hw with rfl | rfl
      · rw [show 1840 + 484 * (u : Int) + 2 + 241 * 0 = 1840 + 484 * (u : Int) + 2 by omega]; omega
      · rw [show 1840 + 484 * (u : Int) + 2 + 241 * 1 = 1840 + 484 * (u : Int) + 2 + 241 by omega]; omega
    · unfold hr_isnm at hv
      unfold hr_nm
      rcases hv with rfl | rfl | rfl | rfl | rfl | rfl | rfl <;> simp (disch := omega) only [hh_up_at, hh_up_off, Int.reduceEq, ↓reduceIte, hs]
    · refine c_more1 ?_
      have hq2 := hq ρ (fun r r2 r3 => by rw [r1 r r2]; simp (disch := omega) only [hh_up_ne])
      unfold B_X12_gives_239
      refine ⟨fun z => c_less1 ?_, fun z => c_less1 ?_⟩
      · rw [if_neg z] at hq2
        exact hq2
      · rw [if_pos z] at hq2
        exact hq2
/-- what an entry is worth -/
def hr_wo (s : Int → Int) (e k : Int) : Int := hr_val s e k 0 * hr_val s e k 1 / 10
theorem hr_mul2 {a b : Int} (ha : 0 ≤ a ∧ a ≤ 240) (hb : 0 ≤ b ∧ b ≤ 9999) : 0 ≤ a * b ∧ a * b ≤ 2399760 := by
  have h1 : 0 ≤ a * b := Int.mul_nonneg ha.1 hb.1
  have h2 : a * b ≤ 240 * 9999 := Int.mul_le_mul ha.2 hb.2 hb.1 (by decide)
  omega
theorem hr_wo_b {σ : hh_S} {s : Int → Int} {e k : Int} (h : hr_N σ s) (he : 0 ≤ e ∧ e < s 7) : (0 ≤ hr_val s e k 0 * hr_val s e k 1 ∧ hr_val s e k 0 * hr_val s e k 1 ≤ 2399760) ∧ 0 ≤ hr_wo s e k ∧ hr_wo s e k ≤ 239976 := by
  have a := hr_val_b (k := k) (w := 0) h he
  have b := hr_val_b (k := k) (w := 1) h he
  rw [if_pos rfl] at a
  rw [if_neg (by decide)] at b
  have c := hr_mul2 a b
  unfold hr_wo
  omega
theorem c_X10_worthOf {d : Nat} {σ : hh_S} {s : Int → Int} {e k : Int} {Q : Int → hh_S → Prop} (h : hr_N σ s) (he : 0 ≤ e ∧ e < s 7) (hq : ∀ ρ : hh_S, (∀ r : Nat, r ≠ 113 → ρ r = σ r) → Q (hr_wo s e k) ρ) : hh_Sp (d + 6) hm_X10_worthOf [hh_R 112, hh_I e, hh_I k] σ Q := by
  refine wp_X10_worthOf _ _ (fun _ _ _ => ?_)
  unfold P_X10_worthOf
  refine c_countedOf h he (fun ρ r1 => c_atOf (h.cg (fun r q1 q2 => r1 r (by omega)) (fun _ _ _ => rfl)) he (fun ρ2 r2 => ?_))
  have b := hr_wo_b (k := k) h he
  refine ⟨by omega, ?_⟩
  exact hq ρ2 (fun r hr => by rw [r2 r hr, r1 r hr])
theorem c_X12_worthOf {d : Nat} {σ π : hh_S} {s : Int → Int} {e k : Int} {Q : Int → hh_S → Prop} (hs : σ 129 = s) (h : hr_N π s) (he : 0 ≤ e ∧ e < s 7) (hq : ∀ ρ : hh_S, (∀ r : Nat, r ≠ 136 → r ≠ 137 → ρ r = σ r) → Q (hr_wo s e k) ρ) : hh_Sp (d + 4) hm_X12_worthOf [hh_R 128, hh_I e, hh_I k] σ Q := by
  refine wp_X12_worthOf _ _ (fun _ _ _ => ?_)
  unfold P_X12_worthOf
  refine c_gives hs h he (Or.inl rfl) (fun ρ r1 => c_gives (by rw [r1 129 (by omega) (by omega), hs]) h he (Or.inr rfl) (fun ρ2 r2 => ?_))
  have b := hr_wo_b (k := k) h he
  refine ⟨by omega, ?_⟩
  exact hq ρ2 (fun r hr hr2 => by rw [r2 r hr hr2, r1 r hr hr2])
/-- entry e is of matter m, and known on day k -/
abbrev hr_q (s : Int → Int) (m k e : Int) : Prop := s (250 + 12 * e + 1) = m ∧ (s (250 + 12 * e + 6) ≤ k ∧ (s (250 + 12 * e + 7) < 0 ∨ k < s (250 + 12 * e + 7)))
def hr_se (s : Int → Int) (m k : Int) (g : Int → Int) : Nat → Int
  | 0 => 0
  | n + 1 => hr_se s m k g n + if hr_q s m k n then g n else 0
/-- what is worth ahead of entry e in its month -/
def hr_ga (s : Int → Int) (e k kd : Int) : Int → Int := fun o => if ((s (250 + 12 * o + 2) < s (250 + 12 * e + 2) ∨ (s (250 + 12 * o + 2) = s (250 + 12 * e + 2) ∧ o < e)) ∧ s (250 + 12 * o + 2) / 30 = s (250 + 12 * e + 2) / 30) ∧ (kd = 2 ∨ s (250 + 12 * o + 5) ≠ 5) then hr_wo s o k else 0
def hr_ch (s : Int → Int) (e k m kd : Int) : Int := if kd = 1 then 0 else if kd = 0 ∨ (kd = 3 ∧ s (250 + 12 * e + 5) = 5) then hr_wo s e k else hh_min (hr_wo s e k) (hh_max (s (50 + 20 * m + 2) - hr_se s m k (hr_ga s e k kd) (s 7).toNat) 0)
theorem hr_se_mono {s : Int → Int} {m k : Int} {g : Int → Int} {N : Nat} (hg : ∀ o : Nat, o < N → 0 ≤ g o) {a : Nat} : ∀ b : Nat, a ≤ b → b ≤ N → hr_se s m k g a ≤ hr_se s m k g b
  | 0, h, _ => by rw [show a = 0 by omega]; exact Int.le_refl _
  | b + 1, h, hb => by
    by_cases z : a = b + 1
    · rw [z]; exact Int.le_refl _
    · have i := hr_se_mono (s := s) (m := m) (k := k) hg (a := a) b (by omega) (by omega)
      have g0 := hg b (by omega)
      show _ ≤ hr_se s m k g b + _
      split <;> omega
theorem hr_se_b {s : Int → Int} {m k c : Int} {g : Int → Int} {N : Nat} (hc : 0 ≤ c) (hg : ∀ o : Nat, o < N → 0 ≤ g o ∧ g o ≤ c) : ∀ b : Nat, b ≤ N → 0 ≤ hr_se s m k g b ∧ hr_se s m k g b ≤ c * b
  | 0, _ => by unfold hr_se; omega
  | b + 1, hb => by
    have i := hr_se_b hc hg (m := m) (k := k) (s := s) b (by omega)
    have g0 := hg b (by omega)
    have e : c * ((b + 1 : Nat) : Int) = c * b + c := by rw [show ((b + 1 : Nat) : Int) = (b : Int) + 1 by omega, Int.mul_add, Int.mul_one]
    rw [e]
    show 0 ≤ hr_se s m k g b + _ ∧ hr_se s m k g b + _ ≤ _
    split <;> omega
theorem hr_ga_b {σ : hh_S} {s : Int → Int} {e k kd : Int} (h : hr_N σ s) {o : Nat} (ho : (o : Int) < s 7) : 0 ≤ hr_ga s e k kd o ∧ hr_ga s e k kd o ≤ 239976 := by
  have b := hr_wo_b (k := k) h (e := o) (by omega)
  unfold hr_ga
  split <;> omega
theorem hr_ch_b {σ : hh_S} {s : Int → Int} {e k m kd : Int} (h : hr_N σ s) (he : 0 ≤ e ∧ e < s 7) : 0 ≤ hr_ch s e k m kd ∧ hr_ch s e k m kd ≤ 239976 := by
  have b := hr_wo_b (k := k) h he
  unfold hr_ch hh_min hh_max
  repeat' split
  all_goals omega
set_option maxHeartbeats 2000000 in
theorem c_chargedOf {d : Nat} {σ π : hh_S} {s : Int → Int} {e k : Int} {Q : Int → hh_S → Prop} (hs : σ 129 = s) (h : hr_N π s) (he : 0 ≤ e ∧ e < s 7) (hq : ∀ ρ : hh_S, (∀ r : Nat, r ≠ 136 → r ≠ 137 → ρ r = σ r) → Q (hr_ch s e k (s (250 + 12 * e + 1)) (s (50 + 20 * s (250 + 12 * e + 1)))) ρ) : hh_Sp (d + 5) hm_X12_chargedOf [hh_R 128, hh_I e, hh_I k] σ Q := by
  have h' := h
  obtain ⟨hU, hP, hC, hM, hE, hD, hB, hK, hT⟩ := h'
  have e1 := hE.1
  have m1 := hM.1
  obtain ⟨⟨v1, v2, v3, v4, v5, v6, v7⟩, v8, v10⟩ := hE.2 e he.1 he.2
  have hm := (hM.2 _ v2.2.1 v2.2.2).1
  refine wp_X12_chargedOf _ _ (fun _ _ _ => ?_)
  unfold P_X12_chargedOf
  rw [hs]
  refine ⟨by omega, ?_⟩
  obtain ⟨m, hm0⟩ : ∃ m : Int, m = s (250 + 12 * e + 1) := ⟨_, rfl⟩
  obtain ⟨kd, hkd⟩ : ∃ kd : Int, kd = s (50 + 20 * m) := ⟨_, rfl⟩
  rw [← hm0] at hq hm v2 ⊢
  rw [← hkd] at hq hm ⊢
  have bo := hr_wo_b (k := k) h he
  unfold hr_ch at hq
  have FIN : ¬ kd = 1 → ¬ (kd = 0 ∨ kd = 3 ∧ s (250 + 12 * e + 5) = 5) → ∀ τ0 : hh_S, (∀ r : Nat, r ≠ 136 → r ≠ 137 → τ0 r = σ r) → B_X12_chargedOf_76 (d + 4) Q e k (250 + 12 * e) (50 + 20 * m) kd (hr_wo s e k) τ0 := by
    intro z1 z2 τ0 r0
    rw [if_neg z1, if_neg z2] at hq
    unfold B_X12_chargedOf_76
    rw [r0 129 (by omega) (by omega), hs]
    refine ⟨by omega, ?_⟩
    have mono := fun a b => hr_se_mono (s := s) (m := m) (k := k) (g := hr_ga s e k kd) (N := (s 7).toNat) (fun o ho => (hr_ga_b h (by omega)).1) (a := a) b
    have bnd := hr_se_b (s := s) (m := m) (k := k) (g := hr_ga s e k kd) (N := (s 7).toNat) (c := 239976) (by decide) (fun o ho => hr_ga_b h (by omega))
    refine hh_lp7_of (fun n x1 x2 x3 x5 x6 x7 x8 τ => (x1 = e ∧ x2 = k ∧ x3 = 250 + 12 * e ∧ x5 = kd ∧ x6 = hr_wo s e k) ∧ (∀ r : Nat, r ≠ 136 → r ≠ 137 → τ r = σ r) ∧ ∃ o : Nat, x8 = o ∧ (o : Int) ≤ s 7 ∧ s 7 - o ≤ n ∧ x7 = s (50 + 20 * m + 2) - hr_se s m k (hr_ga s e k kd) o) ?_ 90 e k (250 + 12 * e) kd (hr_wo s e k) (s (50 + 20 * m + 2)) 0 τ0 ⟨⟨rfl, rfl, rfl, rfl, rfl⟩, r0, 0, rfl, by omega, by omega, by unfold hr_se; omega⟩
    rintro n x1 x2 x3 x5 x6 x7 x8 τ kk ⟨⟨rfl, rfl, rfl, rfl, rfl⟩, r1, o, rfl, f1, f2, rfl⟩ hk
    have bo := bnd o (by omega)
    have DONE : ∀ x7 : Int, hh_max x7 0 = hh_max (s (50 + 20 * m + 2) - hr_se s m x2 (hr_ga s x1 x2 x5) (s 7).toNat) 0 → B_X12_chargedOf_285 (d + 4) Q (hr_wo s x1 x2) x7 τ := by
      intro x7 hx
      unfold B_X12_chargedOf_285
      refine c_more1 (c_less1 ?_)
      rw [hx]
      exact hq τ r1
    unfold B_X12_chargedOf_90
    rw [r1 129 (by omega) (by omega), hs]
    refine ⟨fun c => DONE _ (by rw [show o = (s 7).toNat by omega]), fun c => ⟨fun c2 => DONE _ ?_, fun c2 => ⟨by omega, ?_⟩⟩⟩
    · have mo := mono o (s 7).toNat (by omega) (by omega)
      unfold hh_max
      repeat' split
      all_goals omega
    obtain ⟨⟨w1, w2, w3, w4, w5, w6, w7⟩, ⟨w8, w9⟩, w10⟩ := hE.2 o (by omega) (by omega)
    have w8' := w8.1
    unfold hr_nn at w8'
    have bw := hr_wo_b (k := x2) h (e := o) (by omega)
    have NX : ∀ (τ' : hh_S) (y : Int), (∀ r : Nat, r ≠ 136 → r ≠ 137 → τ' r = σ r) → (0 ≤ y ∧ y ≤ 239976) → (y = if hr_q s m x2 o then hr_ga s x1 x2 x5 o else 0) → B_X12_chargedOf_276 (d + 4) Q kk x1 x2 (250 + 12 * x1) x5 (hr_wo s x1 x2) o (s (50 + 20 * m + 2) - hr_se s m x2 (hr_ga s x1 x2 x5) o) y τ' := by
      intro τ' y r2 hy1 hy
      unfold B_X12_chargedOf_276
      refine ⟨by omega, hk (n - 1) _ _ _ _ _ _ _ _ (by omega) ⟨⟨rfl, rfl, rfl, rfl, rfl⟩, r2, o + 1, by omega, by omega, by omega, ?_⟩⟩
      show _ = _ - (hr_se s m x2 (hr_ga s x1 x2 x5) o + _)
      rw [← hy]
      omega
    have AH : ∀ y10 : Int, (y10 = 0 ∧ ¬ (s (250 + 12 * (o : Int) + 2) < s (250 + 12 * x1 + 2) ∨ (s (250 + 12 * (o : Int) + 2) = s (250 + 12 * x1 + 2) ∧ (o : Int) < x1))) ∨ (y10 = 1 ∧ (s (250 + 12 * (o : Int) + 2) < s (250 + 12 * x1 + 2) ∨ (s (250 + 12 * (o : Int) + 2) = s (250 + 12 * x1 + 2) ∧ (o : Int) < x1))) → B_X12_chargedOf_169 (d + 4) Q kk x1 x2 (250 + 12 * x1) x5 (hr_wo s x1 x2) (s (50 + 20 * m + 2) - hr_se s m x2 (hr_ga s x1 x2 x5) o) o (250 + 12 * o) y10 τ := by
      intro y10 hy
      have ZN : (if hr_q s m x2 o then hr_ga s x1 x2 x5 o else 0) = 0 → ∀ z0 : Int, (z0 = 0 ∨ y10 = 0) → B_X12_chargedOf_251 (d + 4) Q kk x1 x2 (250 + 12 * x1) x5 (hr_wo s x1 x2) (s (50 + 20 * m + 2) - hr_se s m x2 (hr_ga s x1 x2 x5) o) o y10 z0 τ := by
        intro hz z0 hz0
        unfold B_X12_chargedOf_251 B_X12_chargedOf_275
        exact ⟨fun _ => NX τ 0 r1 (by omega) hz.symm, fun y => ⟨fun _ => NX τ 0 r1 (by omega) hz.symm, fun y2 => by omega⟩⟩
      have ON : hr_q s m x2 o → (s (250 + 12 * (o : Int) + 2) / 30 = s (250 + 12 * x1 + 2) / 30) → (x5 = 2 ∨ s (250 + 12 * (o : Int) + 5) ≠ 5) → B_X12_chargedOf_246 (d + 4) Q kk x1 x2 (250 + 12 * x1) x5 (hr_wo s x1 x2) (s (50 + 20 * m + 2) - hr_se s m x2 (hr_ga s x1 x2 x5) o) o y10 τ := by
        intro hq1 hq2 hq3
        unfold B_X12_chargedOf_246
        rcases hy with ⟨rfl, hy⟩ | ⟨rfl, hy⟩
        · refine ZN ?_ 1 (Or.inr rfl)
          rw [if_pos hq1]
          unfold hr_ga
          rw [if_neg (fun y => hy y.1.1)]
        · unfold B_X12_chargedOf_251
          refine ⟨fun y => by omega, fun _ => ⟨fun y => by omega, fun _ => ?_⟩⟩
          refine c_X12_worthOf (by rw [r1 129 (by omega) (by omega), hs]) h (by omega) (fun ρ r2 => ?_)
          refine NX ρ _ (fun r q1 q2 => by rw [r2 r q1 q2, r1 r q1 q2]) bw.2 ?_
          rw [if_pos hq1]
          unfold hr_ga
          rw [if_pos ⟨⟨hy, hq2⟩, hq3⟩]
      unfold B_X12_chargedOf_169 B_X12_chargedOf_250
      rw [r1 129 (by omega) (by omega), hs, ← hm0]
      refine ⟨by omega, fun z3 => ZN (by rw [if_neg (fun y => z3 y.1)]) 0 (Or.inl rfl), fun z3 => ⟨by omega, fun z4 => ZN ?_ 0 (Or.inl rfl), fun z4 => ?_⟩⟩
      · have hg : hr_ga s x1 x2 x5 o = 0 := by
          unfold hr_ga
          rw [if_neg (fun y => z4 y.1.2)]
        rw [hg]
        split <;> rfl
      · refine c_isKnown (by omega) ?_ ?_ ?_ <;> rw [r1 129 (by omega) (by omega), hs]
        · intro z5
          refine ⟨fun y => by omega, fun _ => ⟨fun z6 => ON ⟨z3, z5⟩ z4 (Or.inl z6), fun z6 => ⟨by omega, fun z7 => ZN ?_ 0 (Or.inl rfl), fun z7 => ON ⟨z3, z5⟩ z4 (Or.inr z7)⟩⟩⟩
          have hg : hr_ga s x1 x2 x5 o = 0 := by
            unfold hr_ga
            rw [if_neg (fun y => y.2.elim z6 (fun y2 => y2 z7))]
          rw [hg]
          split <;> rfl
        · intro z5
          exact ⟨fun _ => ZN (by rw [if_neg (fun y => z5 y.2)]) 0 (Or.inl rfl), fun y => by omega⟩
        · omega
    unfold B_X12_chargedOf_164 B_X12_chargedOf_168
    exact ⟨fun z3 => AH 1 (Or.inr ⟨rfl, Or.inl z3⟩), fun z3 => ⟨by omega, fun z4 => AH 0 (Or.inl ⟨rfl, fun y => by omega⟩), fun z4 => ⟨fun z5 => AH 0 (Or.inl ⟨rfl, fun y => by omega⟩), fun z5 => AH 1 (Or.inr ⟨rfl, Or.inr ⟨z4, by omega⟩⟩)⟩⟩⟩
  refine ⟨fun z1 => ?_, fun z1 => ?_⟩
  · refine c_X12_worthOf hs h he (fun ρ r1 => ⟨fun z2 => ?_, fun z2 => ⟨fun z3 => FIN z1 (by omega) ρ r1, fun z3 => ⟨by omega, ?_⟩⟩⟩)
    · rw [if_neg z1, if_pos (Or.inl z2)] at hq
      exact hq ρ r1
    · rw [r1 129 (by omega) (by omega), hs]
      refine ⟨fun z4 => FIN z1 (by omega) ρ r1, fun z4 => ?_⟩
      rw [if_neg z1, if_pos (Or.inr ⟨z3, z4⟩)] at hq
      exact hq ρ r1
  · rw [if_pos z1] at hq
    exact hq σ (fun _ _ _ => rfl)
