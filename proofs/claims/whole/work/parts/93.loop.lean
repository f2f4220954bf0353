/-! the law: its loop -/
theorem hl_63 (x : Int32) : 0 ≤ (x &&& 63).toInt ∧ (x &&& 63).toInt ≤ 63 := by
  have h1 : (x &&& 63).toBitVec.toNat ≤ 63 := by
    show (x.toBitVec &&& (63 : Int32).toBitVec).toNat ≤ 63
    rw [BitVec.toNat_and]
    exact Nat.le_trans Nat.and_le_right (by decide)
  have h2 : (x &&& 63).toInt = ((x &&& 63).toBitVec.toNat : Int) := BitVec.toInt_eq_toNat_of_lt (by omega)
  omega
set_option maxHeartbeats 4000000 in
theorem law_loop {X : hl_X} (hX : hl_ok X) : ∀ (n : Nat) (i : Int) (σ : hh_S), 0 ≤ i → i ≤ (hl_L X : Int) + 6 → (hl_L X : Int) + 7 ≤ i + n → hr_R σ → hl_J X 18 i [] σ := by
  intro n
  induction n with
  | zero => intro i σ h1 h2 h3 _; exact absurd h3 (by omega)
  | succ n ih =>
    intro i σ hi0 hi1 hn hR
    have BACK : i + 5 < hl_L X → ∀ σ2 : hh_S, hr_R σ2 → hl_J X 1649 i [] σ2 := by
      intro hlt σ2 h2
      have nx := ih (i + 6) σ2 (by omega) (by omega) (by omega) h2
      revert nx
      obtain ⟨p, l, e, s, m, below, meth, c, b, L, xs, g⟩ := X
      intro nx
      intro H ls hP hS hc hv hl
      obtain ⟨⟨hx, hb, hr, hml, hown, hts, hX0, hbl, hlocks, hgv⟩, hL, hF, hfr⟩ := hX
      refine lv_iinc (v := Int32.ofInt (i + 6)) (lv' := [(3, .int (Int32.ofInt (i + 6))), (0, .ref b), (1, .ref (g.1 0)), (2, .ref (g.1 128))]) hx hb dL_law_1649 hl (k := 3) rfl (Int32.ofInt_add i 6).symm (by decide) rfl (fun ls' hl' => ?_)
      refine lv_goto (tgt := 18) hx hb dL_law_1652 (by decide) ?_
      exact nx H ls' hP hS hc hv (lv_sub hl' [1, 2, 3, 0] rfl)
    have CASE : i + 5 < hl_L X → ∀ v : Int, 0 ≤ v → v ≤ 42 → ∃ (off : Int) (tgt : Nat), (#[187, 220, 253, 266, 309, 342, 395, 438, 461, 494, 557, 580, 623, 676, 709, 752, 795, 818, 851, 894, 927, 970, 1003, 1036, 1069, 1112, 1135, 1158, 1191, 1224, 1267, 1280, 1313, 1336, 1359, 1392, 1415, 1428, 1441, 1454, 1487, 1530, 1593] : Array Int)[(v - 0).toNat]? = some off ∧ ((33 : Nat) : Int) + off = (tgt : Int) ∧ hl_J X tgt i [] σ := fun hlt v v0 v1 => lw_cases hX hR ⟨hi0, hlt⟩ (BACK hlt) v v0 v1
    have DFLT : i + 5 < hl_L X → hl_J X 1649 i [] σ := fun hlt => BACK hlt σ hR
    clear ih BACK
    revert CASE DFLT hi1 hn
    obtain ⟨p, l, e, s, m, below, meth, c, b, L, xs, g⟩ := X
    intro hi1 hn CASE DFLT
    have hi1 : i ≤ (L : Int) + 6 := hi1
    intro H ls hP hS hc hv hl
    obtain ⟨⟨hx, hb, hr, hml, hown, hts, hX0, hbl, hlocks, hgv⟩, hL, hF, hfr⟩ := hX
    have hbA : ¬ hh_A g b := fun z => by have := hfr b z; omega
    refine lv_iload_n hx hb dL_law_18 rfl (lv_at hl 3 rfl) ?_
    refine lv_aload_n hx hb dL_law_19 rfl (lv_at hl 0 rfl) ?_
    refine va_slen hx hb hX0 hbl hbA hS dL_law_20 ?_
    refine lv_bipush (v := Int32.ofInt 6) hx hb dL_law_21 (by decide) ?_
    refine lv_isub hx hb dL_law_23 ?_
    have el : Int32.ofNat L - Int32.ofInt 6 = Int32.ofInt ((L : Int) - 6) := by
      rw [Int32.ofInt_sub, Int32.ofInt_eq_ofNat]
    rw [el]
    refine lv_icmp_gt (tgt := 1655) hx hb dL_law_24 (by decide) (fun z => ?_) (fun z => ?_)
    · refine lv_iconst (v := 1) hx hb dL_law_1655 (by decide) ?_
      refine W.widen (k := 600000) (n := 7302250) (Nat.le_of_ble_eq_true rfl) (Nat.le_of_ble_eq_true rfl) ?_
      exact lw_ret hx hb hr hlocks dL_law_1656
    · rw [hh_lt ⟨by omega, by omega⟩ ⟨by omega, by omega⟩] at z
      have hlt : i + 5 < (L : Int) := by omega
      refine lv_aload_n hx hb dL_law_27 rfl (lv_at hl 0 rfl) ?_
      refine lv_iload_n hx hb dL_law_28 rfl (lv_at hl 3 rfl) ?_
      refine va_sld hx hb hX0 hbl hbA hS (hh_vin hi0 (by omega) ⟨by omega, by omega⟩) dL_law_29 ?_
      refine lv_bipush (v := 63) hx hb dL_law_30 (by decide) ?_
      refine lv_iand hx hb dL_law_32 ?_
      generalize xs (Int32.ofInt i).toNatClampNeg = x
      have r := hl_63 x
      generalize hv9 : (x &&& 63) = v at r ⊢
      by_cases q : v.toInt ≤ 42
      · obtain ⟨off, tgt, ho, ht, k⟩ := CASE hlt v.toInt r.1 q
        exact lv_tableIn hx hb dL_law_33 (by omega) (by omega) ho ht (k H ls hP hS hc hv hl)
      · exact lv_tableOut (tgt := 1649) hx hb dL_law_33 (by omega) (by decide) (DFLT hlt H ls hP hS hc hv hl)
