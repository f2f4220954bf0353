theorem fa_byte_low (x : Int32) : (x &&& 255).toInt8 = x.toInt8 := by
  apply Int8.toBitVec_inj.1
  apply BitVec.eq_of_getLsbD_eq
  intro i hi
  have h2 : (255 : Int32).toBitVec.getLsbD i = true := by
    have : ∀ j : Fin 8, (255 : Int32).toBitVec.getLsbD j.val = true := by decide +kernel
    exact this ⟨i, hi⟩
  have h4 : (x &&& 255).toBitVec.getLsbD i = x.toBitVec.getLsbD i := by
    show (x.toBitVec &&& (255 : Int32).toBitVec).getLsbD i = _
    rw [BitVec.getLsbD_and, h2, Bool.and_true]
  have h3 : i < 32 := by omega
  first
    | (show (((x &&& 255).toBitVec).signExtend 8).getLsbD i = (x.toBitVec.signExtend 8).getLsbD i; rw [BitVec.getLsbD_signExtend, BitVec.getLsbD_signExtend, if_pos h3, if_pos h3, h4])
    | (show (((x &&& 255).toBitVec).setWidth 8).getLsbD i = (x.toBitVec.setWidth 8).getLsbD i; rw [BitVec.getLsbD_setWidth, BitVec.getLsbD_setWidth, h4])
    | (simp [hi, h3, h4]; done)
theorem hr_and255 (x : Int32) : 0 ≤ (x &&& 255).toInt ∧ (x &&& 255).toInt ≤ 255 := by
  have h1 : (x &&& 255).toBitVec.toNat ≤ 255 := by
    show (x.toBitVec &&& (255 : Int32).toBitVec).toNat ≤ 255
    rw [BitVec.toNat_and]
    exact Nat.le_trans Nat.and_le_right (by decide)
  have h2 : (x &&& 255).toInt = ((x &&& 255).toBitVec.toNat : Int) := BitVec.toInt_eq_toNat_of_lt (by omega)
  omega
theorem hr_byte (x : Int) : hh_i2b (hh_and x 255) = hh_i2b x ∧ 0 ≤ hh_and x 255 ∧ hh_and x 255 ≤ 255 := by
  have e : hh_and x 255 = (Int32.ofInt x &&& 255).toInt := rfl
  refine ⟨?_, by rw [e]; exact hr_and255 _⟩
  unfold hh_i2b
  rw [e, Int32.ofInt_toInt, fa_byte_low]
theorem c_putFour {d : Nat} {σ : hh_S} {Q : Int → hh_S → Prop} {a : Int} (hn : 0 ≤ σ 109 1 ∧ σ 109 1 ≤ 116) (hq : ∀ ρ : hh_S, (∀ r : Nat, r ≠ 109 → r ≠ 110 → ρ r = σ r) → ρ 109 1 = σ 109 1 + 4 → (∀ j : Int, ρ 110 j = if σ 109 1 ≤ j ∧ j < σ 109 1 + 4 then hh_i2b (hh_shr a (24 - (j - σ 109 1) * 8)) else σ 110 j) → Q 0 ρ) : hh_Sp (d + 1) hm_X8_putFour [hh_R 109, hh_I a] σ Q := by
  refine wp_X8_putFour _ (fun _ _ => ?_)
  refine hh_lp2_of (fun n x1 x2 τ => ∃ i : Int, (x1 = a ∧ 0 ≤ i ∧ i ≤ 4 ∧ x2 = 24 - i * 8 ∧ 4 - i ≤ n) ∧ (∀ r : Nat, r ≠ 109 → r ≠ 110 → τ r = σ r) ∧ τ 109 1 = σ 109 1 + i ∧ (∀ j : Int, τ 110 j = if σ 109 1 ≤ j ∧ j < σ 109 1 + i then hh_i2b (hh_shr a (24 - (j - σ 109 1) * 8)) else σ 110 j)) ?_ 4 a 24 σ ⟨0, by omega, fun _ _ _ => rfl, by omega, fun j => by rw [if_neg (by omega)]⟩
  rintro n x1 x2 τ k ⟨i, ⟨rfl, i1, i2, rfl, i3⟩, i4, i5, i6⟩ hk
  unfold B_X8_putFour_3
  rw [i5]
  refine ⟨fun c => hq τ i4 (by omega) (fun j => by rw [i6, show i = 4 by omega]), fun c => ⟨fun c2 => by omega, fun c2 => ⟨by omega, hk (n - 1) _ _ _ (by omega) ⟨i + 1, by omega, fun r r1 r2 => by rw [hh_up_ne r1, hh_up_ne r2]; exact i4 r r1 r2, by rw [hh_up_at]; omega, fun j => ?_⟩⟩⟩⟩
  rw [hh_up_ne (by omega), hh_up_eq, hh_i2b_id]
  show (if j = σ 109 1 + i then _ else τ 110 j) = _
  by_cases z : j = σ 109 1 + i
  · rw [if_pos z, if_pos (by omega), show 24 - (j - σ 109 1) * 8 = 24 - i * 8 by omega]
  · rw [if_neg z, i6]
    by_cases y : σ 109 1 ≤ j ∧ j < σ 109 1 + i
    · rw [if_pos y, if_pos (by omega)]
    · rw [if_neg y, if_neg (by omega)]
def hr_w3 (a b c k : Int) : Int := if k < 4 then a else if k < 8 then b else c
set_option maxHeartbeats 2000000 in
theorem o_feed {σ : hh_S} {a1 a2 a3 : Int} (h : hr_R σ) : hr_op2 hm_X11_feed hm_X12_feed [hh_I a1, hh_I a2, hh_I a3] σ := by
  have w1 := h.2.2.2.2.1
  have w2 := h.2.2.2.2.2
  refine wp_X11_feed _ _ _ (fun hs h1 h2 h3 => ?_)
  unfold P_X11_feed
  refine ⟨by omega, fun c => ?_, fun c => ?_⟩
  · refine c_putFour (by omega) (fun ρ1 u1 u2 u3 => c_putFour (by omega) (fun ρ2 v1 v2 v3 => c_putFour (by omega) (fun ρ x1 x2 x3 => ?_)))
    have e (r : Nat) (z : r ≠ 109 ∧ r ≠ 110) : ρ r = σ r := by rw [x1 r z.1 z.2, v1 r z.1 z.2, u1 r z.1 z.2]
    have eb : ∀ k : Int, 0 ≤ k → k < 12 → ρ 110 (σ 109 1 + k) = hh_i2b (hh_shr (hr_w3 a1 a2 a3 k) (24 - (k % 4) * 8)) := by
      intro k k1 k2
      unfold hr_w3
      rw [x3, v2, u2]
      by_cases z : 8 ≤ k
      · rw [if_pos (by omega), if_neg (by omega), if_neg (by omega), show 24 - (σ 109 1 + k - (σ 109 1 + 4 + 4)) * 8 = 24 - (k % 4) * 8 by omega]
      · rw [if_neg (by omega), v3, u2]
        by_cases y : 4 ≤ k
        · rw [if_pos (by omega), if_neg (by omega), if_pos (by omega), show 24 - (σ 109 1 + k - (σ 109 1 + 4)) * 8 = 24 - (k % 4) * 8 by omega]
        · rw [if_neg (by omega), u3, if_pos (by omega), if_pos (by omega), show 24 - (σ 109 1 + k - σ 109 1) * 8 = 24 - (k % 4) * 8 by omega]
    have eo : ∀ j : Int, j < σ 109 1 → ρ 110 j = σ 110 j := fun j hj => by rw [x3, if_neg (by omega), v3, if_neg (by omega), u3, if_neg (by omega)]
    refine wp_X12_feed _ _ _ (fun hs h1 h2 h3 => ?_)
    unfold P_X12_feed
    rw [e 128 (by omega)]
    refine ⟨by omega, fun _ => ?_, fun z => by omega⟩
    refine hh_lp4_of (fun n y1 y2 y3 y4 τ => (y1 = a1 ∧ y2 = a2 ∧ y3 = a3 ∧ 0 ≤ y4 ∧ y4 ≤ 12 ∧ 12 - y4 ≤ n) ∧ (∀ r : Nat, r ≠ 133 → τ r = ρ r) ∧ (∀ j : Int, j < σ 128 6 → τ 133 j = σ 133 j) ∧ (∀ k : Int, 0 ≤ k → k < y4 → τ 133 (σ 128 6 + k) = hh_and (hh_shr (hr_w3 a1 a2 a3 k) (24 - (k % 4) * 8)) 255)) ?_ 12 a1 a2 a3 0 ρ ⟨by omega, fun _ _ => rfl, fun j _ => by rw [e 133 (by omega)], fun k k1 k2 => by omega⟩
    rintro n y1 y2 y3 y4 τ k ⟨⟨rfl, rfl, rfl, i1, i2, i3⟩, i4, i5, i6⟩ hk
    have e128 : τ 128 = σ 128 := by rw [i4 128 (by omega), e 128 (by omega)]
    have nx : ∀ v : Int, v = hr_w3 y1 y2 y3 y4 → y4 < 12 → B_X12_feed_47 199 (fun r' σ2 => ρ 109 1 = r' ∧ hr_R σ2) k y1 y2 y3 y4 v τ := by
      intro v hv hy
      unfold B_X12_feed_47
      rw [e128, hv]
      refine ⟨by omega, hk (n - 1) _ _ _ _ _ (by omega) ⟨by omega, fun r hr => by rw [hh_up_ne hr]; exact i4 r hr, fun j hj => by rw [hh_up_off (by omega)]; exact i5 j hj, fun x z1 z2 => ?_⟩⟩
      by_cases z : x = y4
      · rw [z, hh_up_at]
      · rw [hh_up_off (by omega)]
        exact i6 x z1 (by omega)
    unfold B_X12_feed_18 B_X12_feed_84
    refine ⟨fun c => ?_, fun c => ⟨fun c2 => ⟨fun c3 => nx _ ?_ (by omega), fun c3 => nx _ ?_ (by omega)⟩, fun c2 => nx _ ?_ (by omega)⟩⟩
    · rw [e128]
      refine ⟨by omega, by omega, ?_⟩
      refine hh_name (P := hr_R) (fun π hρ => ?_)
      have ee (r : Nat) (z : r ≠ 109 ∧ r ≠ 110 ∧ r ≠ 128 ∧ r ≠ 133) : π r = σ r := by rw [hρ, hh_up_ne z.2.2.1, i4 r z.2.2.2, e r ⟨z.1, z.2.1⟩]
      have e2 : ∀ k : Int, k ≠ 6 → π 128 k = σ 128 k := fun k hk => by rw [hρ, hh_up_off hk, e128]
      have e6 : π 128 6 = σ 128 6 + 12 := by rw [hρ, hh_up_at]
      have e9 : π 109 = ρ 109 := by rw [hρ, hh_up_ne (by omega), i4 109 (by omega)]
      have e10 : π 110 = ρ 110 := by rw [hρ, hh_up_ne (by omega), i4 110 (by omega)]
      have e13 : π 133 = τ 133 := by rw [hρ, hh_up_ne (by omega)]
      refine ⟨h.1.cg (fun r r1 r2 => ee r (by omega)) (fun k _ _ => by rw [ee 129 (by omega)]), h.2.1.cg (by rw [ee 0 (by omega)]) (e2 2 (by omega)) (fun r r1 r2 => ee r (by omega)) (ee 130 (by omega)), h.2.2.1.cg (ee 123 (by omega)) (ee 124 (by omega)) (ee 145 (by omega)) (ee 146 (by omega)), h.2.2.2.1.cg (by rw [ee 0 (by omega)]) (e2 31 (by omega)) (ee 122 (by omega)) (ee 144 (by omega)), ⟨by rw [e9, e6]; omega, fun j j1 j2 => ?_⟩⟩
      rw [e6] at j2
      rw [e10, e13]
      by_cases z : j < σ 128 6
      · rw [eo j (by omega), i5 j z]
        exact w2 j j1 z
      · have y := eb (j - σ 109 1) (by omega) (by omega)
        have yy := i6 (j - σ 128 6) (by omega) (by omega)
        rw [show σ 109 1 + (j - σ 109 1) = j by omega] at y
        rw [show σ 128 6 + (j - σ 128 6) = j by omega] at yy
        rw [y, yy, w1.1]
        have b := hr_byte (hh_shr (hr_w3 y1 y2 y3 (j - σ 128 6)) (24 - ((j - σ 128 6) % 4) * 8))
        exact ⟨b.1.symm, b.2⟩
    · unfold hr_w3; rw [if_neg (by omega), if_neg (by omega)]
    · unfold hr_w3; rw [if_neg (by omega), if_pos (by omega)]
    · unfold hr_w3; rw [if_pos (by omega)]
  · refine wp_X12_feed _ _ _ (fun hs h1 h2 h3 => ?_)
    unfold P_X12_feed
    exact ⟨by omega, fun z => by omega, fun _ => ⟨rfl, h⟩⟩
