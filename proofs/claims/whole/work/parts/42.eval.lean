/-- what a sign makes of two values -/
def hr_cb (c a b : Int) : Int := if c = 38 then (if a = 0 then 0 else if b = 0 then 0 else 1) else if c = 42 then hh_wr (a * b) else if c = 43 then hh_wr (a + b) else if c = 45 then hh_wr (a - b) else if c = 60 then (if b ≤ a then 0 else 1) else if c = 61 then (if a = b then 1 else 0) else if c = 62 then (if a ≤ b then 0 else 1) else if c = 124 then (if a = 0 then (if b = 0 then 0 else 1) else 1) else (if b = 0 then 0 else hh_wr (a.tdiv b))
theorem c_combine {d : Nat} {σ : hh_S} {c a b : Int} {Q : Int → hh_S → Prop} (hq : Q (hr_cb c a b) σ) : hh_Sp (d + 1) hm_X10_combine [hh_I c, hh_I a, hh_I b] σ Q := by
  refine wp_X10_combine _ _ _ (fun _ _ _ _ => ?_)
  unfold P_X10_combine B_X10_combine_84
  repeat' (first | with_reducible refine And.intro ?_ ?_ | with_reducible intro _ | assumption | (refine Eq.mp (congrArg (fun v => Q v σ) ?_) hq; clear hq; unfold hr_cb; repeat' split) | rfl | omega)
theorem c_both {d : Nat} {σ : hh_S} {c a b : Int} {Q : Int → hh_S → Prop} (hc : hr_isop c) (hq : Q (hr_cb (-(hr_op c)) a b) σ) : hh_Sp (d + 1) hm_X12_both [hh_I c, hh_I a, hh_I b] σ Q := by
  refine wp_X12_both _ _ _ (fun _ _ _ _ => ?_)
  have hc2 : ∃ x : Int, x = -(hr_op c) ∧ ((c = 10 ∧ x = 124) ∨ (c = 20 ∧ x = 38) ∨ (c = 30 ∧ x = 60) ∨ (c = 31 ∧ x = 61) ∨ (c = 32 ∧ x = 62) ∨ (c = 40 ∧ x = 43) ∨ (c = 41 ∧ x = 45) ∨ (c = 50 ∧ x = 42) ∨ (c = 51 ∧ x = 47)) := by
    unfold hr_isop at hc
    rcases hc with rfl | rfl | rfl | rfl | rfl | rfl | rfl | rfl | rfl <;> exact ⟨_, rfl, by decide⟩
  obtain ⟨x, hx, hc3⟩ := hc2
  rw [← hx] at hq
  clear hx hc
  unfold P_X12_both B_X12_both_84
  rcases hc3 with ⟨rfl, rfl⟩ | ⟨rfl, rfl⟩ | ⟨rfl, rfl⟩ | ⟨rfl, rfl⟩ | ⟨rfl, rfl⟩ | ⟨rfl, rfl⟩ | ⟨rfl, rfl⟩ | ⟨rfl, rfl⟩ | ⟨rfl, rfl⟩ <;>
  simp only [hr_cb, Int.reduceEq, ↓reduceIte, Int.reduceNe, false_implies, true_implies, and_true, true_and, false_and, and_false, implies_true, ne_eq, not_true_eq_false, not_false_eq_true] at hq ⊢ <;>
  repeat' (first | with_reducible refine And.intro ?_ ?_ | with_reducible intro _ | assumption | omega | (refine Eq.mp (congrArg (fun v => Q v σ) ?_) hq; clear hq; repeat' split) | rfl)
/-- entry o of another person is beside entry e -/
abbrev hr_bc (s : Int → Int) (e k o : Int) : Prop := (s (250 + 12 * o) ≠ s (250 + 12 * e) ∧ s (250 + 12 * o + 1) = s (250 + 12 * e + 1) ∧ s (250 + 12 * o + 2) = s (250 + 12 * e + 2)) ∧ (s (250 + 12 * o + 6) ≤ k ∧ (s (250 + 12 * o + 7) < 0 ∨ k < s (250 + 12 * o + 7))) ∧ s (250 + 12 * o + 3) < s (250 + 12 * e + 3) + s (250 + 12 * e + 4) ∧ s (250 + 12 * e + 3) < s (250 + 12 * o + 3) + s (250 + 12 * o + 4)
def hr_who (s : Int → Int) (e k : Int) : Nat → Int
  | 0 => 0
  | n + 1 => if hr_bc s e k n then hh_or (hr_who s e k n) (hh_shl 1 (s (250 + 12 * n))) else hr_who s e k n
def hr_pc (x : Int) : Nat → Int
  | 0 => 0
  | n + 1 => hr_pc x n + hr_bit x n
def hr_bs (s : Int → Int) (e k : Int) : Int := hr_pc (hr_who s e k (s 7).toNat) 8
theorem hr_orF : ∀ w : Fin 256, ∀ p : Fin 8, 0 ≤ hh_or ((w : Nat) : Int) (hh_shl 1 ((p : Nat) : Int)) ∧ hh_or ((w : Nat) : Int) (hh_shl 1 ((p : Nat) : Int)) ≤ 255 := by decide +kernel
theorem hr_or0F : ∀ w : Fin 256, hh_or ((w : Nat) : Int) 0 = ((w : Nat) : Int) := by decide +kernel
theorem hr_bcF : ∀ w : Fin 256, P_J6_bitCount_0f7a4 0 ((w : Nat) : Int) (fun _ _ => 0) (fun r _ => r = hr_pc ((w : Nat) : Int) 8) := by
  unfold P_J6_bitCount_0f7a4
  decide +kernel
theorem hr_or {w p : Int} (hw : 0 ≤ w ∧ w ≤ 255) (hp : 0 ≤ p ∧ p < 8) : 0 ≤ hh_or w (hh_shl 1 p) ∧ hh_or w (hh_shl 1 p) ≤ 255 := by
  obtain ⟨n, rfl⟩ := Int.eq_ofNat_of_zero_le hw.1
  obtain ⟨k, rfl⟩ := Int.eq_ofNat_of_zero_le hp.1
  exact hr_orF ⟨n, by omega⟩ ⟨k, by omega⟩
theorem hr_or0 {w : Int} (hw : 0 ≤ w ∧ w ≤ 255) : hh_or w 0 = w := by
  obtain ⟨n, rfl⟩ := Int.eq_ofNat_of_zero_le hw.1
  exact hr_or0F ⟨n, by omega⟩
theorem c_bitCount {d : Nat} {σ : hh_S} {x : Int} {Q : Int → hh_S → Prop} (hx : 0 ≤ x ∧ x ≤ 255) (hq : Q (hr_pc x 8) σ) : hh_Sp (d + 1) hm_J6_bitCount_0f7a4 [hh_I x] σ Q := by
  refine wp_J6_bitCount_0f7a4 _ (fun _ _ => ?_)
  obtain ⟨n, rfl⟩ := Int.eq_ofNat_of_zero_le hx.1
  have h := hr_bcF ⟨n, by omega⟩
  unfold P_J6_bitCount_0f7a4 at h ⊢
  exact Eq.mp (congrArg (fun v => Q v σ) h.symm) hq
theorem hr_who_b {σ : hh_S} {s : Int → Int} (hE : hr_E σ s) (h8 : s 4 ≤ 8) (e k : Int) : ∀ n : Nat, (n : Int) ≤ s 7 → 0 ≤ hr_who s e k n ∧ hr_who s e k n ≤ 255
  | 0, _ => by unfold hr_who; omega
  | n + 1, hn => by
    have h := hr_who_b hE h8 e k n (by omega)
    have v := (hE.2 n (by omega) (by omega)).1.1
    unfold hr_who
    split
    · exact hr_or h (by omega)
    · exact h
set_option maxHeartbeats 2000000 in
theorem c_othersMet {d : Nat} {σ : hh_S} {s : Int → Int} {e k : Int} {Q : Int → hh_S → Prop} (hE : hr_E σ s) (h8 : s 4 ≤ 8) (he : 0 ≤ e ∧ e < s 7) (hq : Q (hr_bs s e k) σ) : hh_Sp (d + 2) hm_X10_othersMet [hh_R 112, hh_I e, hh_I k] σ Q := by
  have e1 := hE.1
  refine wp_X10_othersMet _ _ (fun _ _ _ => ?_)
  refine hh_lp4_of (fun n x1 x2 x4 x5 τ => τ = σ ∧ (x1 = e ∧ x2 = k) ∧ ∃ o : Nat, x5 = o ∧ (o : Int) ≤ s 7 ∧ s 7 - o ≤ n ∧ x4 = hr_who s e k o) ?_ 90 e k 0 0 σ ⟨rfl, ⟨rfl, rfl⟩, 0, rfl, by omega, by omega, rfl⟩
  rintro n x1 x2 x4 x5 τ kk ⟨rfl, ⟨rfl, rfl⟩, o, rfl, f1, f2, rfl⟩ hk
  have bw := hr_who_b hE h8 x1 x2 o f1
  unfold B_X10_othersMet_14
  rw [e1.1]
  refine ⟨fun c => ?_, fun c => ⟨by omega, ?_⟩⟩
  · unfold B_X10_othersMet_107
    refine c_bitCount bw ?_
    unfold hr_bs at hq
    rw [show o = (s 7).toNat by omega]
    exact hq
  obtain ⟨⟨v1, v2, v3, v4, v5, v6, v7⟩, ⟨v8, v9⟩, v10⟩ := hE.2 o (by omega) (by omega)
  obtain ⟨⟨w1, w2, w3, w4, w5, w6, w7⟩, w8, w10⟩ := hE.2 x1 he.1 he.2
  have kn := hr_kn_nn (t := s (250 + 12 * (o : Int) + 6)) (k := x2) v8.1
  have v8' := v8.1
  unfold hr_nn at v8'
  have NX : ∀ y : Int, y = hr_who s x1 x2 (o + 1) → B_X10_othersMet_101 (d + 1) Q kk x1 x2 y o τ := by
    intro y hy
    unfold B_X10_othersMet_101
    exact ⟨by omega, hk (n - 1) _ _ _ _ _ (by omega) ⟨rfl, ⟨rfl, rfl⟩, o + 1, by omega, by omega, by omega, hy⟩⟩
  have NO : ¬ hr_bc s x1 x2 o → B_X10_othersMet_101 (d + 1) Q kk x1 x2 (hr_who s x1 x2 o) o τ := fun z => NX _ (by show _ = if _ then _ else _; rw [if_neg z])
  unfold B_X10_othersMet_59
  rw [v1.1, w1.1, v2.1, w2.1]
  refine ⟨fun z => ?_, fun z1 => ⟨by omega, fun z => ?_, fun z2 => ?_⟩⟩
  · unfold B_X10_othersMet_60
    exact ⟨fun _ => NO (fun y => y.1.1 z), fun y => by omega⟩
  · unfold B_X10_othersMet_60
    exact ⟨fun _ => NO (fun y => z y.1.2.1), fun y => by omega⟩
  · unfold B_X10_othersMet_60
    refine ⟨fun y => by omega, fun _ => wp_X3_meet _ _ (fun _ _ _ => ?_)⟩
    unfold P_X3_meet
    rw [v3.1, w3.1, v4.1, w4.1, v5.1, w5.1]
    refine ⟨by omega, fun z => ⟨fun _ => NO (fun y => z y.1.2.2), fun y => by omega⟩, fun z3 => ⟨by omega, fun z => ⟨fun _ => NO (fun y => by have := y.2.2.1; omega), fun y => by omega⟩, fun z4 => ⟨by omega, fun z => ⟨fun _ => NO (fun y => by have := y.2.2.2; omega), fun y => by omega⟩, fun z5 => ⟨fun y => by omega, fun _ => ?_⟩⟩⟩⟩
    refine c_X3_isKnown (by omega) ?_ ?_ (by omega) <;> rw [v7.1, kn]
    · intro z6
      refine ⟨fun y => by omega, fun _ => ⟨by omega, NX _ ?_⟩⟩
      show _ = if _ then _ else _
      rw [if_pos (by exact ⟨⟨z1, z2, z3⟩, z6, by omega, by omega⟩), v1.1]
    · intro z6
      exact ⟨fun _ => NO (fun y => z6 y.2.1), fun y => by omega⟩
theorem hr_bit01F : ∀ w : Fin 256, ∀ p : Fin 8, 0 ≤ hr_bit ((w : Nat) : Int) ((p : Nat) : Int) ∧ hr_bit ((w : Nat) : Int) ((p : Nat) : Int) ≤ 1 := by decide +kernel
theorem hr_pc_b {w : Int} (hw : 0 ≤ w ∧ w ≤ 255) : ∀ n : Nat, n ≤ 8 → 0 ≤ hr_pc w n ∧ hr_pc w n ≤ n
  | 0, _ => by unfold hr_pc; omega
  | n + 1, hn => by
    have h := hr_pc_b hw n (by omega)
    obtain ⟨m, rfl⟩ := Int.eq_ofNat_of_zero_le hw.1
    have z := hr_bit01F ⟨m, by omega⟩ ⟨n, by omega⟩
    unfold hr_pc
    have z2 : 0 ≤ hr_bit (m : Int) (n : Int) ∧ hr_bit (m : Int) (n : Int) ≤ 1 := z
    omega
set_option maxHeartbeats 2000000 in
theorem c_beside {d : Nat} {σ : hh_S} {s : Int → Int} {e k : Int} {Q : Int → hh_S → Prop} (hs : σ 129 = s) {π : hh_S} (hE : hr_E π s) (h8 : s 4 ≤ 8) (he : 0 ≤ e ∧ e < s 7) (hq : Q (hr_bs s e k) σ) : hh_Sp (d + 2) hm_X12_beside [hh_R 128, hh_I e, hh_I k] σ Q := by
  have e1 := hE.1
  refine wp_X12_beside _ _ (fun _ _ _ => ?_)
  unfold P_X12_beside
  refine ⟨by omega, ?_⟩
  refine hh_lp4_of (fun n x2 x3 x4 x5 τ => τ = σ ∧ (x2 = k ∧ x3 = 250 + 12 * e) ∧ ∃ o : Nat, x5 = o ∧ (o : Int) ≤ s 7 ∧ s 7 - o ≤ n ∧ x4 = hr_who s e k o) ?_ 90 k (250 + 12 * e) 0 0 σ ⟨rfl, ⟨rfl, rfl⟩, 0, rfl, by omega, by omega, rfl⟩
  rintro n x2 x3 x4 x5 τ kk ⟨rfl, ⟨rfl, rfl⟩, o, rfl, f1, f2, rfl⟩ hk
  have bw := hr_who_b hE h8 e x2 o f1
  unfold B_X12_beside_15
  rw [hs]
  refine ⟨fun c => ?_, fun c => ⟨by omega, ?_⟩⟩
  · unfold B_X12_beside_211
    unfold hr_bs at hq
    rw [← show o = (s 7).toNat by omega] at hq
    refine hh_lp3_of (fun n x4 x5 x6 τ' => τ' = τ ∧ x4 = hr_who s e x2 o ∧ ∃ j : Nat, x6 = j ∧ j ≤ 8 ∧ 8 - j ≤ n ∧ x5 = hr_pc (hr_who s e x2 o) j) ?_ 8 _ 0 0 τ ⟨rfl, rfl, 0, rfl, by omega, by omega, rfl⟩
    rintro n' x4 x5 x6 τ' k' ⟨rfl, rfl, j, rfl, j1, j2, rfl⟩ hk'
    have bp := hr_pc_b bw j j1
    unfold B_X12_beside_217
    refine ⟨fun c => by rw [show j = 8 by omega]; exact hq, fun c => ?_⟩
    have bp' := hr_pc_b bw (j + 1) (by omega)
    have ep : hr_pc (hr_who s e x2 o) (j + 1) = hr_pc (hr_who s e x2 o) j + hh_and (hh_shr (hr_who s e x2 o) j) 1 := rfl
    exact ⟨by omega, hk' (n' - 1) _ _ _ _ (by omega) ⟨rfl, rfl, j + 1, by omega, by omega, by omega, ep.symm⟩⟩
  obtain ⟨⟨v1, v2, v3, v4, v5, v6, v7⟩, ⟨v8, v9⟩, v10⟩ := hE.2 o (by omega) (by omega)
  obtain ⟨⟨w1, w2, w3, w4, w5, w6, w7⟩, w8, w10⟩ := hE.2 e he.1 he.2
  have v8' := v8.1
  unfold hr_nn at v8'
  have NX : ∀ y : Int, hh_or (hr_who s e x2 o) y = hr_who s e x2 (o + 1) → B_X12_beside_202 (d + 1) Q kk x2 (250 + 12 * e) o (hr_who s e x2 o) y τ := by
    intro y hy
    unfold B_X12_beside_202
    exact ⟨by omega, hk (n - 1) _ _ _ _ _ (by omega) ⟨rfl, ⟨rfl, rfl⟩, o + 1, by omega, by omega, by omega, hy⟩⟩
  have NO : ¬ hr_bc s e x2 o → B_X12_beside_201 (d + 1) Q kk x2 (250 + 12 * e) o (hr_who s e x2 o) τ := by
    intro z
    unfold B_X12_beside_201
    refine NX _ ?_
    rw [hr_or0 bw]
    show _ = if _ then _ else _
    rw [if_neg z]
  have A8 : ¬ hr_bc s e x2 o → B_X12_beside_108 (d + 1) Q kk x2 (250 + 12 * e) (hr_who s e x2 o) o (250 + 12 * o) τ := by
    intro z
    unfold B_X12_beside_108 B_X12_beside_109 B_X12_beside_174 B_X12_beside_175
    rw [hs]
    exact ⟨by omega, fun _ => ⟨fun _ => NO z, fun y => by omega⟩, fun _ => ⟨by omega, fun _ => ⟨fun _ => NO z, fun y => by omega⟩, fun _ => ⟨fun _ => NO z, fun y => by omega⟩⟩⟩
  refine ⟨fun z => A8 (fun y => y.1.1 z), fun z1 => ⟨by omega, fun z => A8 (fun y => z y.1.2.1), fun z2 => ⟨by omega, fun z => A8 (fun y => z y.1.2.2), fun z3 => ?_⟩⟩⟩
  refine c_isKnown (by omega) ?_ ?_ ?_ <;> rw [hs]
  · intro z6
    refine ⟨fun y => by omega, fun _ => ?_⟩
    unfold B_X12_beside_109 B_X12_beside_174 B_X12_beside_175
    rw [hs]
    refine ⟨by omega, fun z => ⟨fun y => by omega, fun _ => ⟨fun _ => NO (fun y => by have := y.2.2.1; omega), fun y => by omega⟩⟩, fun z4 => ⟨by omega, fun z => ⟨fun y => by omega, fun _ => ⟨fun _ => NO (fun y => by have := y.2.2.2; omega), fun y => by omega⟩⟩, fun z5 => ⟨fun y => by omega, fun _ => ⟨fun y => by omega, fun _ => ⟨by omega, NX _ ?_⟩⟩⟩⟩⟩
    show _ = if _ then _ else _
    rw [if_pos (by exact ⟨⟨z1, z2, z3⟩, z6, by omega, by omega⟩)]
  · intro z6
    exact ⟨fun _ => A8 (fun y => z6 y.2.1), fun y => by omega⟩
  · omega
