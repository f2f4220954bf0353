def hr_F1 (σ : hh_S) (s : Int → Int) (e a : Int) : Prop :=
  ((σ 25 e = s a ∧ 0 ≤ s a ∧ s a < s 4) ∧ (σ 26 e = s (a + 1) ∧ 0 ≤ s (a + 1) ∧ s (a + 1) < s 6) ∧ (σ 27 e = s (a + 2) ∧ 0 ≤ s (a + 2) ∧ s (a + 2) ≤ s 0) ∧ (σ 28 e = s (a + 3) ∧ 0 ≤ s (a + 3)) ∧ (σ 29 e = s (a + 4) ∧ 1 ≤ s (a + 4) ∧ s (a + 3) + s (a + 4) ≤ 240) ∧ (σ 30 e = s (a + 5) ∧ 0 ≤ s (a + 5) ∧ s (a + 5) ≤ 5) ∧ (σ 31 e = s (a + 6) ∧ 0 ≤ s (a + 6) ∧ s (a + 6) ≤ s 0)) ∧
  ((hr_nn (σ 32 e) (s (a + 7)) ∧ s (a + 7) ≤ s 0) ∧ True) ∧ True
def hr_F (σ : hh_S) (s : Int → Int) : Prop := (σ 24 0 = s 7 ∧ 0 ≤ s 7 ∧ s 7 ≤ 90) ∧ ∀ e : Int, 0 ≤ e → e < s 7 → hr_F1 σ s e (250 + 12 * e)
def hr_V (σ : hh_S) (s : Int → Int) : Prop := hr_U σ s ∧ hr_P σ s ∧ hr_C σ s ∧ hr_M σ s ∧ hr_F σ s ∧ hr_D σ s ∧ True ∧ hr_K σ s ∧ hr_T σ s
theorem hr_E.f {σ : hh_S} {s : Int → Int} (h : hr_E σ s) : hr_F σ s := ⟨h.1, fun e e1 e2 => ⟨(h.2 e e1 e2).1, ⟨(h.2 e e1 e2).2.1.1, trivial⟩, trivial⟩⟩
theorem hr_N.v {σ : hh_S} {s : Int → Int} (h : hr_N σ s) : hr_V σ s := ⟨h.1, h.2.1, h.2.2.1, h.2.2.2.1, h.2.2.2.2.1.f, h.2.2.2.2.2.1, trivial, h.2.2.2.2.2.2.2.1, h.2.2.2.2.2.2.2.2⟩
theorem hr_who_b' {σ : hh_S} {s : Int → Int} (hE : hr_F σ s) (h8 : s 4 ≤ 8) (e k : Int) : ∀ n : Nat, (n : Int) ≤ s 7 → 0 ≤ hr_who s e k n ∧ hr_who s e k n ≤ 255
  | 0, _ => by unfold hr_who; omega
  | n + 1, hn => by
    have h := hr_who_b' hE h8 e k n (by omega)
    have v := (hE.2 n (by omega) (by omega)).1.1
    unfold hr_who
    split
    · exact hr_or h (by omega)
    · exact h
set_option maxHeartbeats 2000000 in
theorem c_beside' {d : Nat} {σ : hh_S} {s : Int → Int} {e k : Int} {Q : Int → hh_S → Prop} (hs : σ 129 = s) {π : hh_S} (hE : hr_F π s) (h8 : s 4 ≤ 8) (he : 0 ≤ e ∧ e < s 7) (hq : Q (hr_bs s e k) σ) : hh_Sp (d + 2) hm_X12_beside [hh_R 128, hh_I e, hh_I k] σ Q := by
  have e1 := hE.1
  refine wp_X12_beside _ _ (fun _ _ _ => ?_)
  unfold P_X12_beside
  refine ⟨by omega, ?_⟩
  refine hh_lp4_of (fun n x2 x3 x4 x5 τ => τ = σ ∧ (x2 = k ∧ x3 = 250 + 12 * e) ∧ ∃ o : Nat, x5 = o ∧ (o : Int) ≤ s 7 ∧ s 7 - o ≤ n ∧ x4 = hr_who s e k o) ?_ 90 k (250 + 12 * e) 0 0 σ ⟨rfl, ⟨rfl, rfl⟩, 0, rfl, by omega, by omega, rfl⟩
  rintro n x2 x3 x4 x5 τ kk ⟨rfl, ⟨rfl, rfl⟩, o, rfl, f1, f2, rfl⟩ hk
  have bw := hr_who_b' hE h8 e x2 o f1
  unfold B_X12_beside_15
  rw [hs]
  refine ⟨fun c => ?_, fun c => ⟨by omega, ?_⟩⟩
  · unfold B_X12_beside_211
    unfold hr_bs at hq
    rw [← show o = (s 7).toNat by omega] at hq
    refine hh_lp3_of (fun n x4 x5 x6 τ' => τ' = τ ∧ x4 = hr_who s e x2 o ∧ ∃ j : Nat, x6 = j ∧ j ≤ 8 ∧ 8 - j ≤ n ∧ x5 = hr_pc (hr_who s e x2 o) j) ?_ 8 _ 0 0 τ ⟨rfl, rfl, 0, rfl, by omega, by omega, rfl⟩
    rintro n' x4 x5 x6 τ' k' ⟨rfl, rfl, j, rfl, j1, j2, rfl⟩ hk'
    have bp := hr_pc_b bw j j1
    unfold B_X12_beside_217
    refine ⟨fun c => by rw [show j = 8 by omega]; exact hq, fun c => ?_⟩
    have bp' := hr_pc_b bw (j + 1) (by omega)
    have ep : hr_pc (hr_who s e x2 o) (j + 1) = hr_pc (hr_who s e x2 o) j + hh_and (hh_shr (hr_who s e x2 o) j) 1 := rfl
    exact ⟨by omega, hk' (n' - 1) _ _ _ _ (by omega) ⟨rfl, rfl, j + 1, by omega, by omega, by omega, ep.symm⟩⟩
  obtain ⟨⟨v1, v2, v3, v4, v5, v6, v7⟩, ⟨v8, v9⟩, v10⟩ := hE.2 o (by omega) (by omega)
  obtain ⟨⟨w1, w2, w3, w4, w5, w6, w7⟩, w8, w10⟩ := hE.2 e he.1 he.2
  have v8' := v8.1
  unfold hr_nn at v8'
  have NX : ∀ y : Int, hh_or (hr_who s e x2 o) y = hr_who s e x2 (o + 1) → B_X12_beside_202 (d + 1) Q kk x2 (250 + 12 * e) o (hr_who s e x2 o) y τ := by
    intro y hy
    unfold B_X12_beside_202
    exact ⟨by omega, hk (n - 1) _ _ _ _ _ (by omega) ⟨rfl, ⟨rfl, rfl⟩, o + 1, by omega, by omega, by omega, hy⟩⟩
  have NO : ¬ hr_bc s e x2 o → B_X12_beside_201 (d + 1) Q kk x2 (250 + 12 * e) o (hr_who s e x2 o) τ := by
    intro z
    unfold B_X12_beside_201
    refine NX _ ?_
    rw [hr_or0 bw]
    show _ = if _ then _ else _
    rw [if_neg z]
  have A8 : ¬ hr_bc s e x2 o → B_X12_beside_108 (d + 1) Q kk x2 (250 + 12 * e) (hr_who s e x2 o) o (250 + 12 * o) τ := by
    intro z
    unfold B_X12_beside_108 B_X12_beside_109 B_X12_beside_174 B_X12_beside_175
    rw [hs]
    exact ⟨by omega, fun _ => ⟨fun _ => NO z, fun y => by omega⟩, fun _ => ⟨by omega, fun _ => ⟨fun _ => NO z, fun y => by omega⟩, fun _ => ⟨fun _ => NO z, fun y => by omega⟩⟩⟩
  refine ⟨fun z => A8 (fun y => y.1.1 z), fun z1 => ⟨by omega, fun z => A8 (fun y => z y.1.2.1), fun z2 => ⟨by omega, fun z => A8 (fun y => z y.1.2.2), fun z3 => ?_⟩⟩⟩
  refine c_isKnown (by omega) ?_ ?_ ?_ <;> rw [hs]
  · intro z6
    refine ⟨fun y => by omega, fun _ => ?_⟩
    unfold B_X12_beside_109 B_X12_beside_174 B_X12_beside_175
    rw [hs]
    refine ⟨by omega, fun z => ⟨fun y => by omega, fun _ => ⟨fun _ => NO (fun y => by have := y.2.2.1; omega), fun y => by omega⟩⟩, fun z4 => ⟨by omega, fun z => ⟨fun y => by omega, fun _ => ⟨fun _ => NO (fun y => by have := y.2.2.2; omega), fun y => by omega⟩⟩, fun z5 => ⟨fun y => by omega, fun _ => ⟨fun y => by omega, fun _ => ⟨by omega, NX _ ?_⟩⟩⟩⟩⟩
    show _ = if _ then _ else _
    rw [if_pos (by exact ⟨⟨z1, z2, z3⟩, z6, by omega, by omega⟩)]
  · intro z6
    exact ⟨fun _ => A8 (fun y => z6 y.2.1), fun y => by omega⟩
  · omega
set_option maxHeartbeats 2000000 in
theorem c_termOf' {d : Nat} {σ π : hh_S} {s : Int → Int} {e : Int} {Q : Int → hh_S → Prop} (hs : σ 129 = s) (h : hr_V π s) (he : 0 ≤ e ∧ e < s 7) (hq : Q (hr_tm s (s (50 + 20 * s (250 + 12 * e + 1) + 1)) (s (250 + 12 * e + 2)) (s 9).toNat) σ) : hh_Sp (d + 1) hm_X12_termOf [hh_R 128, hh_I e] σ Q := by
  obtain ⟨hU, hP, hC, hM, hE, hD, hB, hK, hT⟩ := h
  have e1 := hE.1
  have m1 := hM.1
  have t1 := hT.1
  have v2 := (hE.2 e he.1 he.2).1.2.1
  refine wp_X12_termOf _ (fun _ _ => ?_)
  unfold P_X12_termOf
  rw [hs]
  refine ⟨by omega, ?_⟩
  obtain ⟨c, hc⟩ : ∃ c : Int, c = s (50 + 20 * s (250 + 12 * e + 1) + 1) := ⟨_, rfl⟩
  obtain ⟨day, hd⟩ : ∃ c : Int, c = s (250 + 12 * e + 2) := ⟨_, rfl⟩
  rw [← hc, ← hd] at hq
  rw [← hc]
  refine hh_lp4_of (fun n x1 x2 x3 x4 τ => τ = σ ∧ (x1 = e ∧ x2 = c) ∧ ∃ t : Nat, x4 = t ∧ (t : Int) ≤ s 9 ∧ s 9 - t ≤ n ∧ x3 = hr_tm s c day t) ?_ 15 e c (-1) 0 σ ⟨rfl, ⟨rfl, rfl⟩, 0, rfl, by omega, by omega, rfl⟩
  rintro n x1 x2 x3 x4 τ kk ⟨rfl, ⟨rfl, rfl⟩, t, rfl, f1, f2, rfl⟩ hk
  unfold B_X12_termOf_34
  rw [hs, ← hd]
  refine ⟨fun z => by rw [show t = (s 9).toNat by omega]; exact hq, fun z => ⟨by omega, ?_⟩⟩
  have bt := hr_tm_b s x2 day t
  have bt' : -1 ≤ hr_tm s x2 day t ∧ hr_tm s x2 day t < t := by
    rcases bt with b | ⟨u, b1, b2, b3⟩ <;> omega
  have estep : hr_tm s x2 day (t + 1) = if s (1840 + 484 * t) = x2 ∧ s (1840 + 484 * t + 1) ≤ day ∧ (hr_tm s x2 day t = -1 ∨ s (1840 + 484 * hr_tm s x2 day t + 1) ≤ s (1840 + 484 * t + 1)) then (t : Int) else hr_tm s x2 day t := rfl
  have NX : ∀ y : Int, y = hr_tm s x2 day (t + 1) → B_X12_termOf_132 d Q kk x1 x2 y t τ := by
    intro y hy
    unfold B_X12_termOf_132
    exact ⟨by omega, hk (n - 1) _ _ _ _ _ (by omega) ⟨rfl, ⟨rfl, rfl⟩, t + 1, by omega, by omega, by omega, hy⟩⟩
  have NO : ¬ (s (1840 + 484 * t) = x2 ∧ s (1840 + 484 * t + 1) ≤ day ∧ (hr_tm s x2 day t = -1 ∨ s (1840 + 484 * hr_tm s x2 day t + 1) ≤ s (1840 + 484 * t + 1))) → B_X12_termOf_132 d Q kk x1 x2 (hr_tm s x2 day t) t τ := fun w => NX _ (by rw [estep, if_neg w])
  unfold B_X12_termOf_129
  refine ⟨fun z1 => NO (fun w => z1 w.1), fun z1 => ⟨by omega, fun z2 => NO (fun w => by have := w.2.1; omega), fun z2 => ⟨fun z3 => NX _ (by rw [estep, if_pos ⟨z1, by omega, Or.inl z3⟩]), fun z3 => ⟨by omega, fun z4 => NO (fun w => by have := w.2.2; omega), fun z4 => NX _ (by rw [estep, if_pos ⟨z1, by omega, Or.inr (by omega)⟩])⟩⟩⟩⟩
theorem hr_vt_b' {σ : hh_S} {s : Int → Int} {e k w t : Int} (h : hr_V σ s) (he : 0 ≤ e ∧ e < s 7) : 0 ≤ hr_vt s e k w t ∧ hr_vt s e k w t ≤ if w = 0 then 240 else 9999 := by
  obtain ⟨hU, hP, hC, hM, hE, hD, hB, hK, hT⟩ := h
  obtain ⟨⟨v1, v2, v3, v4, v5, v6, v7⟩, v8, v10⟩ := hE.2 e he.1 he.2
  have hp := (hP.2 _ v1.2.1 v1.2.2).2.2.1
  unfold hr_vt
  split
  · split <;> omega
  · unfold hh_max hh_min
    repeat' split
    all_goals omega
theorem hr_val_b' {σ : hh_S} {s : Int → Int} {e k w : Int} (h : hr_V σ s) (he : 0 ≤ e ∧ e < s 7) : 0 ≤ hr_val s e k w ∧ hr_val s e k w ≤ if w = 0 then 240 else 9999 := hr_vt_b' h he
set_option maxHeartbeats 2000000 in
theorem c_gives' {d : Nat} {σ π : hh_S} {s : Int → Int} {e k w : Int} {Q : Int → hh_S → Prop} (hs : σ 129 = s) (h : hr_V π s) (he : 0 ≤ e ∧ e < s 7) (hw : w = 0 ∨ w = 1) (hq : ∀ ρ : hh_S, (∀ r : Nat, r ≠ 136 → r ≠ 137 → ρ r = σ r) → Q (hr_val s e k w) ρ) : hh_Sp (d + 3) hm_X12_gives [hh_R 128, hh_I e, hh_I k, hh_I w] σ Q := by
  have h' := h
  obtain ⟨hU, hP, hC, hM, hE, hD, hB, hK, hT⟩ := h'
  have e1 := hE.1
  have m1 := hM.1
  have p1 := hP.1
  have t1 := hT.1
  obtain ⟨⟨v1, v2, v3, v4, v5, v6, v7⟩, v8, v10⟩ := hE.2 e he.1 he.2
  refine wp_X12_gives _ _ _ (fun _ _ _ _ => ?_)
  unfold P_X12_gives
  refine ⟨by omega, c_termOf' hs h he ?_⟩
  unfold hr_val hr_vt at hq
  rw [hs]
  rcases hr_tm_b s (s (50 + 20 * s (250 + 12 * e + 1) + 1)) (s (250 + 12 * e + 2)) (s 9).toNat with b | ⟨u, b1, b2, b3⟩
  · rw [b] at hq ⊢
    rw [if_pos rfl] at hq
    refine ⟨fun z => absurd rfl z, fun _ => ⟨fun z => ⟨by omega, ?_⟩, fun z => ⟨by omega, ?_⟩⟩⟩
    · rw [if_neg z] at hq
      exact hq σ (fun _ _ _ => rfl)
    · rw [if_pos z] at hq
      exact hq σ (fun _ _ _ => rfl)
  · rw [b1] at hq ⊢
    rw [if_neg (by omega)] at hq
    have hTu := hT.2.2 u (by omega)
    have tw := hr_txw hTu.2.2 hw
    have x1 := hTu.2.2.1
    refine ⟨fun _ => ⟨by omega, ?_⟩, fun z => by omega⟩
    refine c_beside' (s := s) (by rw [← hs]; rfl) hE p1.2.2 he ⟨by omega, ?_⟩
    refine c_worked (s := s) (n := s (1840 + 484 * (u : Int) + 2 + 241 * w)) (f := fun i => hr_cd (s (1840 + 484 * (u : Int) + 2 + 241 * w + 1 + 2 * i)) (s (1840 + 484 * (u : Int) + 2 + 241 * w + 2 + 2 * i))) (nm := hr_nm s e k) (by rw [← hs]; rfl) (by omega) ⟨rfl, ?_⟩ (fun i i1 i2 => (tw.1 i i1 i2).1) tw.2 (fun v hv => ?_) (fun ρ r1 => ?_)
    · rcases hw with rfl | rfl
      · rw [show 1840 + 484 * (u : Int) + 2 + 241 * 0 = 1840 + 484 * (u : Int) + 2 by omega]; omega
      · rw [show 1840 + 484 * (u : Int) + 2 + 241 * 1 = 1840 + 484 * (u : Int) + 2 + 241 by omega]; omega
    · unfold hr_isnm at hv
      unfold hr_nm
      rcases hv with rfl | rfl | rfl | rfl | rfl | rfl | rfl <;> simp (disch := omega) only [hh_up_at, hh_up_off, Int.reduceEq, ↓reduceIte, hs]
    · refine c_more1 ?_
      have hq2 := hq ρ (fun r r2 r3 => by rw [r1 r r2]; simp (disch := omega) only [hh_up_ne])
      unfold B_X12_gives_239
      refine ⟨fun z => c_less1 ?_, fun z => c_less1 ?_⟩
      · rw [if_neg z] at hq2
        exact hq2
      · rw [if_pos z] at hq2
        exact hq2
theorem hr_wo_b' {σ : hh_S} {s : Int → Int} {e k : Int} (h : hr_V σ s) (he : 0 ≤ e ∧ e < s 7) : (0 ≤ hr_val s e k 0 * hr_val s e k 1 ∧ hr_val s e k 0 * hr_val s e k 1 ≤ 2399760) ∧ 0 ≤ hr_wo s e k ∧ hr_wo s e k ≤ 239976 := by
  have a := hr_val_b' (k := k) (w := 0) h he
  have b := hr_val_b' (k := k) (w := 1) h he
  rw [if_pos rfl] at a
  rw [if_neg (by decide)] at b
  have c := hr_mul2 a b
  unfold hr_wo
  omega
theorem c_X12_worthOf' {d : Nat} {σ π : hh_S} {s : Int → Int} {e k : Int} {Q : Int → hh_S → Prop} (hs : σ 129 = s) (h : hr_V π s) (he : 0 ≤ e ∧ e < s 7) (hq : ∀ ρ : hh_S, (∀ r : Nat, r ≠ 136 → r ≠ 137 → ρ r = σ r) → Q (hr_wo s e k) ρ) : hh_Sp (d + 4) hm_X12_worthOf [hh_R 128, hh_I e, hh_I k] σ Q := by
  refine wp_X12_worthOf _ _ (fun _ _ _ => ?_)
  unfold P_X12_worthOf
  refine c_gives' hs h he (Or.inl rfl) (fun ρ r1 => c_gives' (by rw [r1 129 (by omega) (by omega), hs]) h he (Or.inr rfl) (fun ρ2 r2 => ?_))
  have b := hr_wo_b' (k := k) h he
  refine ⟨by omega, ?_⟩
  exact hq ρ2 (fun r hr hr2 => by rw [r2 r hr hr2, r1 r hr hr2])
theorem hr_ga_b' {σ : hh_S} {s : Int → Int} {e k kd : Int} (h : hr_V σ s) {o : Nat} (ho : (o : Int) < s 7) : 0 ≤ hr_ga s e k kd o ∧ hr_ga s e k kd o ≤ 239976 := by
  have b := hr_wo_b' (k := k) h (e := o) (by omega)
  unfold hr_ga
  split <;> omega
set_option maxHeartbeats 2000000 in
theorem c_chargedOf' {d : Nat} {σ π : hh_S} {s : Int → Int} {e k : Int} {Q : Int → hh_S → Prop} (hs : σ 129 = s) (h : hr_V π s) (he : 0 ≤ e ∧ e < s 7) (hq : ∀ ρ : hh_S, (∀ r : Nat, r ≠ 136 → r ≠ 137 → ρ r = σ r) → Q (hr_ch s e k (s (250 + 12 * e + 1)) (s (50 + 20 * s (250 + 12 * e + 1)))) ρ) : hh_Sp (d + 5) hm_X12_chargedOf [hh_R 128, hh_I e, hh_I k] σ Q := by
  have h' := h
  obtain ⟨hU, hP, hC, hM, hE, hD, hB, hK, hT⟩ := h'
  have e1 := hE.1
  have m1 := hM.1
  obtain ⟨⟨v1, v2, v3, v4, v5, v6, v7⟩, v8, v10⟩ := hE.2 e he.1 he.2
  have hm := (hM.2 _ v2.2.1 v2.2.2).1
  refine wp_X12_chargedOf _ _ (fun _ _ _ => ?_)
  unfold P_X12_chargedOf
  rw [hs]
  refine ⟨by omega, ?_⟩
  obtain ⟨m, hm0⟩ : ∃ m : Int, m = s (250 + 12 * e + 1) := ⟨_, rfl⟩
  obtain ⟨kd, hkd⟩ : ∃ kd : Int, kd = s (50 + 20 * m) := ⟨_, rfl⟩
  rw [← hm0] at hq hm v2 ⊢
  rw [← hkd] at hq hm ⊢
  have bo := hr_wo_b' (k := k) h he
  unfold hr_ch at hq
  have FIN : ¬ kd = 1 → ¬ (kd = 0 ∨ kd = 3 ∧ s (250 + 12 * e + 5) = 5) → ∀ τ0 : hh_S, (∀ r : Nat, r ≠ 136 → r ≠ 137 → τ0 r = σ r) → B_X12_chargedOf_76 (d + 4) Q e k (250 + 12 * e) (50 + 20 * m) kd (hr_wo s e k) τ0 := by
    intro z1 z2 τ0 r0
    rw [if_neg z1, if_neg z2] at hq
    unfold B_X12_chargedOf_76
    rw [r0 129 (by omega) (by omega), hs]
    refine ⟨by omega, ?_⟩
    have mono := fun a b => hr_se_mono (s := s) (m := m) (k := k) (g := hr_ga s e k kd) (N := (s 7).toNat) (fun o ho => (hr_ga_b' h (by omega)).1) (a := a) b
    have bnd := hr_se_b (s := s) (m := m) (k := k) (g := hr_ga s e k kd) (N := (s 7).toNat) (c := 239976) (by decide) (fun o ho => hr_ga_b' h (by omega))
    refine hh_lp7_of (fun n x1 x2 x3 x5 x6 x7 x8 τ => (x1 = e ∧ x2 = k ∧ x3 = 250 + 12 * e ∧ x5 = kd ∧ x6 = hr_wo s e k) ∧ (∀ r : Nat, r ≠ 136 → r ≠ 137 → τ r = σ r) ∧ ∃ o : Nat, x8 = o ∧ (o : Int) ≤ s 7 ∧ s 7 - o ≤ n ∧ x7 = s (50 + 20 * m + 2) - hr_se s m k (hr_ga s e k kd) o) ?_ 90 e k (250 + 12 * e) kd (hr_wo s e k) (s (50 + 20 * m + 2)) 0 τ0 ⟨⟨rfl, rfl, rfl, rfl, rfl⟩, r0, 0, rfl, by omega, by omega, by unfold hr_se; omega⟩
    rintro n x1 x2 x3 x5 x6 x7 x8 τ kk ⟨⟨rfl, rfl, rfl, rfl, rfl⟩, r1, o, rfl, f1, f2, rfl⟩ hk
    have bo := bnd o (by omega)
    have DONE : ∀ x7 : Int, hh_max x7 0 = hh_max (s (50 + 20 * m + 2) - hr_se s m x2 (hr_ga s x1 x2 x5) (s 7).toNat) 0 → B_X12_chargedOf_285 (d + 4) Q (hr_wo s x1 x2) x7 τ := by
      intro x7 hx
      unfold B_X12_chargedOf_285
      refine c_more1 (c_less1 ?_)
      rw [hx]
      exact hq τ r1
    unfold B_X12_chargedOf_90
    rw [r1 129 (by omega) (by omega), hs]
    refine ⟨fun c => DONE _ (by rw [show o = (s 7).toNat by omega]), fun c => ⟨fun c2 => DONE _ ?_, fun c2 => ⟨by omega, ?_⟩⟩⟩
    · have mo := mono o (s 7).toNat (by omega) (by omega)
      unfold hh_max
      repeat' split
      all_goals omega
    obtain ⟨⟨w1, w2, w3, w4, w5, w6, w7⟩, ⟨w8, w9⟩, w10⟩ := hE.2 o (by omega) (by omega)
    have w8' := w8.1
    unfold hr_nn at w8'
    have bw := hr_wo_b' (k := x2) h (e := o) (by omega)
    have NX : ∀ (τ' : hh_S) (y : Int), (∀ r : Nat, r ≠ 136 → r ≠ 137 → τ' r = σ r) → (0 ≤ y ∧ y ≤ 239976) → (y = if hr_q s m x2 o then hr_ga s x1 x2 x5 o else 0) → B_X12_chargedOf_276 (d + 4) Q kk x1 x2 (250 + 12 * x1) x5 (hr_wo s x1 x2) o (s (50 + 20 * m + 2) - hr_se s m x2 (hr_ga s x1 x2 x5) o) y τ' := by
      intro τ' y r2 hy1 hy
      unfold B_X12_chargedOf_276
      refine ⟨by omega, hk (n - 1) _ _ _ _ _ _ _ _ (by omega) ⟨⟨rfl, rfl, rfl, rfl, rfl⟩, r2, o + 1, by omega, by omega, by omega, ?_⟩⟩
      show _ = _ - (hr_se s m x2 (hr_ga s x1 x2 x5) o + _)
      rw [← hy]
      omega
    have AH : ∀ y10 : Int, (y10 = 0 ∧ ¬ (s (250 + 12 * (o : Int) + 2) < s (250 + 12 * x1 + 2) ∨ (s (250 + 12 * (o : Int) + 2) = s (250 + 12 * x1 + 2) ∧ (o : Int) < x1))) ∨ (y10 = 1 ∧ (s (250 + 12 * (o : Int) + 2) < s (250 + 12 * x1 + 2) ∨ (s (250 + 12 * (o : Int) + 2) = s (250 + 12 * x1 + 2) ∧ (o : Int) < x1))) → B_X12_chargedOf_169 (d + 4) Q kk x1 x2 (250 + 12 * x1) x5 (hr_wo s x1 x2) (s (50 + 20 * m + 2) - hr_se s m x2 (hr_ga s x1 x2 x5) o) o (250 + 12 * o) y10 τ := by
      intro y10 hy
      have ZN : (if hr_q s m x2 o then hr_ga s x1 x2 x5 o else 0) = 0 → ∀ z0 : Int, (z0 = 0 ∨ y10 = 0) → B_X12_chargedOf_251 (d + 4) Q kk x1 x2 (250 + 12 * x1) x5 (hr_wo s x1 x2) (s (50 + 20 * m + 2) - hr_se s m x2 (hr_ga s x1 x2 x5) o) o y10 z0 τ := by
        intro hz z0 hz0
        unfold B_X12_chargedOf_251 B_X12_chargedOf_275
        exact ⟨fun _ => NX τ 0 r1 (by omega) hz.symm, fun y => ⟨fun _ => NX τ 0 r1 (by omega) hz.symm, fun y2 => by omega⟩⟩
      have ON : hr_q s m x2 o → (s (250 + 12 * (o : Int) + 2) / 30 = s (250 + 12 * x1 + 2) / 30) → (x5 = 2 ∨ s (250 + 12 * (o : Int) + 5) ≠ 5) → B_X12_chargedOf_246 (d + 4) Q kk x1 x2 (250 + 12 * x1) x5 (hr_wo s x1 x2) (s (50 + 20 * m + 2) - hr_se s m x2 (hr_ga s x1 x2 x5) o) o y10 τ := by
        intro hq1 hq2 hq3
        unfold B_X12_chargedOf_246
        rcases hy with ⟨rfl, hy⟩ | ⟨rfl, hy⟩
        · refine ZN ?_ 1 (Or.inr rfl)
          rw [if_pos hq1]
          unfold hr_ga
          rw [if_neg (fun y => hy y.1.1)]
        · unfold B_X12_chargedOf_251
          refine ⟨fun y => by omega, fun _ => ⟨fun y => by omega, fun _ => ?_⟩⟩
          refine c_X12_worthOf' (by rw [r1 129 (by omega) (by omega), hs]) h (by omega) (fun ρ r2 => ?_)
          refine NX ρ _ (fun r q1 q2 => by rw [r2 r q1 q2, r1 r q1 q2]) bw.2 ?_
          rw [if_pos hq1]
          unfold hr_ga
          rw [if_pos ⟨⟨hy, hq2⟩, hq3⟩]
      unfold B_X12_chargedOf_169 B_X12_chargedOf_250
      rw [r1 129 (by omega) (by omega), hs, ← hm0]
      refine ⟨by omega, fun z3 => ZN (by rw [if_neg (fun y => z3 y.1)]) 0 (Or.inl rfl), fun z3 => ⟨by omega, fun z4 => ZN ?_ 0 (Or.inl rfl), fun z4 => ?_⟩⟩
      · have hg : hr_ga s x1 x2 x5 o = 0 := by
          unfold hr_ga
          rw [if_neg (fun y => z4 y.1.2)]
        rw [hg]
        split <;> rfl
      · refine c_isKnown (by omega) ?_ ?_ ?_ <;> rw [r1 129 (by omega) (by omega), hs]
        · intro z5
          refine ⟨fun y => by omega, fun _ => ⟨fun z6 => ON ⟨z3, z5⟩ z4 (Or.inl z6), fun z6 => ⟨by omega, fun z7 => ZN ?_ 0 (Or.inl rfl), fun z7 => ON ⟨z3, z5⟩ z4 (Or.inr z7)⟩⟩⟩
          have hg : hr_ga s x1 x2 x5 o = 0 := by
            unfold hr_ga
            rw [if_neg (fun y => y.2.elim z6 (fun y2 => y2 z7))]
          rw [hg]
          split <;> rfl
        · intro z5
          exact ⟨fun _ => ZN (by rw [if_neg (fun y => z5 y.2)]) 0 (Or.inl rfl), fun y => by omega⟩
        · omega
    unfold B_X12_chargedOf_164 B_X12_chargedOf_168
    exact ⟨fun z3 => AH 1 (Or.inr ⟨rfl, Or.inl z3⟩), fun z3 => ⟨by omega, fun z4 => AH 0 (Or.inl ⟨rfl, fun y => by omega⟩), fun z4 => ⟨fun z5 => AH 0 (Or.inl ⟨rfl, fun y => by omega⟩), fun z5 => AH 1 (Or.inr ⟨rfl, Or.inr ⟨z4, by omega⟩⟩)⟩⟩⟩
  refine ⟨fun z1 => ?_, fun z1 => ?_⟩
  · refine c_X12_worthOf' hs h he (fun ρ r1 => ⟨fun z2 => ?_, fun z2 => ⟨fun z3 => FIN z1 (by omega) ρ r1, fun z3 => ⟨by omega, ?_⟩⟩⟩)
    · rw [if_neg z1, if_pos (Or.inl z2)] at hq
      exact hq ρ r1
    · rw [r1 129 (by omega) (by omega), hs]
      refine ⟨fun z4 => FIN z1 (by omega) ρ r1, fun z4 => ?_⟩
      rw [if_neg z1, if_pos (Or.inr ⟨z3, z4⟩)] at hq
      exact hq ρ r1
  · rw [if_pos z1] at hq
    exact hq σ (fun _ _ _ => rfl)
/-- s' is s, but for what bills say -/
def hr_ag (s s' : Int → Int) : Prop := (∀ j : Int, (j < 250 ∨ 1330 ≤ j) ∧ (j < 1630 ∨ 1822 ≤ j) → j ≠ 10 → s' j = s j) ∧ ∀ e : Int, 0 ≤ e → e < 90 → ∀ k : Int, 0 ≤ k → k < 8 → s' (250 + 12 * e + k) = s (250 + 12 * e + k)
theorem hr_ag.e0 {s s' : Int → Int} (h : hr_ag s s') {e : Int} (h1 : 0 ≤ e) (h2 : e < 90) : s' (250 + 12 * e) = s (250 + 12 * e) := by
  have := h.2 e h1 h2 0 (by omega) (by omega)
  rw [show 250 + 12 * e + 0 = 250 + 12 * e by omega] at this
  exact this
theorem hr_who.ag {s s' : Int → Int} (h : hr_ag s s') {e k : Int} (h1 : 0 ≤ e) (h2 : e < 90) : ∀ n : Nat, n ≤ 90 → hr_who s' e k n = hr_who s e k n
  | 0, _ => rfl
  | n + 1, hn => by
    have i := hr_who.ag h (k := k) h1 h2 n (by omega)
    have E := h.2 e h1 h2
    have O := h.2 n (by omega) (by omega)
    unfold hr_who hr_bc
    rw [i, h.e0 h1 h2, h.e0 (e := n) (by omega) (by omega), E 1 (by omega) (by omega), E 2 (by omega) (by omega), E 3 (by omega) (by omega), E 4 (by omega) (by omega), O 1 (by omega) (by omega), O 2 (by omega) (by omega), O 3 (by omega) (by omega), O 4 (by omega) (by omega), O 6 (by omega) (by omega), O 7 (by omega) (by omega)]
theorem hr_tm.ag {s s' : Int → Int} (h : hr_ag s s') (c day : Int) : ∀ n : Nat, hr_tm s' c day n = hr_tm s c day n
  | 0 => rfl
  | n + 1 => by
    have i := hr_tm.ag h c day n
    have b : -1 ≤ hr_tm s c day n := by
      rcases hr_tm_b s c day n with z | ⟨t, z1, z2, z3⟩ <;> omega
    show (if _ then _ else _) = (if _ then _ else _)
    rw [i, h.1 (1840 + 484 * (n : Int)) (by omega) (by omega), h.1 (1840 + 484 * (n : Int) + 1) (by omega) (by omega), h.1 (1840 + 484 * hr_tm s c day n + 1) (by omega) (by omega)]
theorem hr_stk.cg {f f' nm nm' : Int → Int} (hn : nm' = nm) : ∀ n : Nat, (∀ i : Int, 0 ≤ i → i < n → f' i = f i) → hr_stk f' nm' n = hr_stk f nm n
  | 0, _ => rfl
  | n + 1, h => by
    have i := hr_stk.cg hn n (fun i i1 i2 => h i i1 (by omega))
    have d := hr_dp.cg n (fun i i1 i2 => h i i1 (by omega))
    funext j
    show (if 0 ≤ f' n then _ else _) = (if 0 ≤ f n then _ else _)
    rw [i, d, h n (by omega) (by omega), hn]
theorem hr_nm.ag {s s' : Int → Int} (h : hr_ag s s') {e k : Int} (h1 : 0 ≤ e) (h2 : e < 90) (hp : 0 ≤ s (250 + 12 * e) ∧ s (250 + 12 * e) < 8) (hm : 0 ≤ s (250 + 12 * e + 1) ∧ s (250 + 12 * e + 1) < 10) (h7 : 0 ≤ s 7 ∧ s 7 ≤ 90) : hr_nm s' e k = hr_nm s e k := by
  have E := h.2 e h1 h2
  funext v
  unfold hr_nm hr_bs
  rw [h.1 7 (by omega) (by omega), hr_who.ag h h1 h2 _ (by omega), h.e0 h1 h2, E 1 (by omega) (by omega), E 2 (by omega) (by omega), E 4 (by omega) (by omega), E 5 (by omega) (by omega), h.1 (50 + 20 * s (250 + 12 * e + 1)) (by omega) (by omega), h.1 (20 + 3 * s (250 + 12 * e)) (by omega) (by omega), h.1 (20 + 3 * s (250 + 12 * e) + 1) (by omega) (by omega)]
set_option maxHeartbeats 2000000 in
theorem hr_val.ag {σ : hh_S} {s s' : Int → Int} (h : hr_ag s s') (hV : hr_V σ s) {e k w : Int} (he : 0 ≤ e ∧ e < s 7) (hw : w = 0 ∨ w = 1) : hr_val s' e k w = hr_val s e k w := by
  obtain ⟨hU, hP, hC, hM, hE, hD, hB, hK, hT⟩ := hV
  have e1 := hE.1
  have p1 := hP.1
  have m1 := hM.1
  obtain ⟨⟨v1, v2, v3, v4, v5, v6, v7⟩, ⟨v8, v9⟩, v10⟩ := hE.2 e he.1 he.2
  have E := h.2 e he.1 (by omega)
  unfold hr_val hr_vt
  rw [h.1 9 (by omega) (by omega), E 1 (by omega) (by omega), E 2 (by omega) (by omega), h.1 (50 + 20 * s (250 + 12 * e + 1) + 1) (by omega) (by omega), hr_tm.ag h, h.e0 he.1 (by omega), E 4 (by omega) (by omega), h.1 (20 + 3 * s (250 + 12 * e) + 1) (by omega) (by omega)]
  rcases hr_tm_b s (s (50 + 20 * s (250 + 12 * e + 1) + 1)) (s (250 + 12 * e + 2)) (s 9).toNat with b | ⟨u, b1, b2, b3⟩
  · rw [if_pos b, if_pos b]
  · have ne : ¬ hr_tm s (s (50 + 20 * s (250 + 12 * e + 1) + 1)) (s (250 + 12 * e + 2)) (s 9).toNat = -1 := by omega
    rw [if_neg ne, if_neg ne, b1]
    have q : s' (1840 + 484 * (u : Int) + 2 + 241 * w) = s (1840 + 484 * (u : Int) + 2 + 241 * w) := h.1 _ (by omega) (by omega)
    have x : hr_ev (fun i => hr_cd (s' (1840 + 484 * (u : Int) + 2 + 241 * w + 1 + 2 * i)) (s' (1840 + 484 * (u : Int) + 2 + 241 * w + 2 + 2 * i))) (hr_nm s' e k) (s (1840 + 484 * (u : Int) + 2 + 241 * w)) = hr_ev (fun i => hr_cd (s (1840 + 484 * (u : Int) + 2 + 241 * w + 1 + 2 * i)) (s (1840 + 484 * (u : Int) + 2 + 241 * w + 2 + 2 * i))) (hr_nm s e k) (s (1840 + 484 * (u : Int) + 2 + 241 * w)) := by
      unfold hr_ev
      rw [hr_stk.cg (hr_nm.ag h he.1 (by omega) (by omega) (by omega) (by omega)) _ (fun i i1 i2 => ?_)]
      show hr_cd _ _ = hr_cd _ _
      rw [h.1 (1840 + 484 * (u : Int) + 2 + 241 * w + 1 + 2 * i) (by omega) (by omega), h.1 (1840 + 484 * (u : Int) + 2 + 241 * w + 2 + 2 * i) (by omega) (by omega)]
    rw [q, x]
theorem hr_wo.ag {σ : hh_S} {s s' : Int → Int} (h : hr_ag s s') (hV : hr_V σ s) {e k : Int} (he : 0 ≤ e ∧ e < s 7) : hr_wo s' e k = hr_wo s e k := by
  unfold hr_wo
  rw [hr_val.ag h hV he (Or.inl rfl), hr_val.ag h hV he (Or.inr rfl)]
theorem hr_se.ag {σ : hh_S} {s s' g g' : Int → Int} (h : hr_ag s s') (hV : hr_V σ s) {m k : Int} : ∀ n : Nat, (n : Int) ≤ s 7 → (∀ o : Nat, (o : Int) < s 7 → g' o = g o) → hr_se s' m k g' n = hr_se s m k g n
  | 0, _, _ => rfl
  | n + 1, hn, hg => by
    have e1 := hV.2.2.2.2.1.1
    have O := h.2 n (by omega) (by omega)
    show hr_se s' m k g' n + (if _ then _ else _) = hr_se s m k g n + (if _ then _ else _)
    rw [hr_se.ag h hV n (by omega) hg, hg n (by omega)]
    unfold hr_q
    rw [O 1 (by omega) (by omega), O 6 (by omega) (by omega), O 7 (by omega) (by omega)]
set_option maxHeartbeats 2000000 in
theorem hr_ch.ag {σ : hh_S} {s s' : Int → Int} (h : hr_ag s s') (hV : hr_V σ s) {e k m kd : Int} (he : 0 ≤ e ∧ e < s 7) (hm : 0 ≤ m ∧ m < 10) : hr_ch s' e k m kd = hr_ch s e k m kd := by
  have e1 := hV.2.2.2.2.1.1
  have E := h.2 e he.1 (by omega)
  unfold hr_ch
  rw [hr_wo.ag h hV he, E 5 (by omega) (by omega), h.1 (50 + 20 * m + 2) (by omega) (by omega), h.1 7 (by omega) (by omega), hr_se.ag (g := hr_ga s e k kd) h hV (s 7).toNat (by omega) (fun o ho => ?_)]
  have O := h.2 o (by omega) (by omega)
  unfold hr_ga
  rw [hr_wo.ag h hV (by omega), E 2 (by omega) (by omega), O 2 (by omega) (by omega), O 5 (by omega) (by omega)]
