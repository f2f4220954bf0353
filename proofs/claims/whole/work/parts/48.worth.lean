theorem hr_R.fr {σ ρ : hh_S} (h : hr_R σ) (e : ∀ r : Nat, (r < 111 ∨ (122 ≤ r ∧ r < 125) ∨ (128 ≤ r ∧ r < 131) ∨ r = 133 ∨ (144 ≤ r ∧ r < 147)) → ρ r = σ r) : hr_R ρ :=
  ⟨by rw [e 129 (by omega)]; exact h.1.cg (fun r r1 r2 => e r (by omega)) (fun k _ _ => rfl), h.2.1.cg (by rw [e 0 (by omega)]) (by rw [e 128 (by omega)]) (fun r r1 r2 => e r (by omega)) (e 130 (by omega)), h.2.2.1.cg (e 123 (by omega)) (e 124 (by omega)) (e 145 (by omega)) (e 146 (by omega)), h.2.2.2.1.cg (by rw [e 0 (by omega)]) (by rw [e 128 (by omega)]) (e 122 (by omega)) (e 144 (by omega)), h.2.2.2.2.cg (by rw [e 109 (by omega)]) (by rw [e 128 (by omega)]) (e 110 (by omega)) (e 133 (by omega))⟩
set_option maxHeartbeats 2000000 in
theorem o_worth {σ : hh_S} {a1 a2 a3 : Int} (h : hr_R σ) : hr_op2 hm_X11_worth hm_X12_worth [hh_I a1, hh_I a2, hh_I a3] σ := by
  obtain ⟨hU, hP, hC, hM, hE, hD, hB, hK, hT⟩ := h.1
  have u := hU
  unfold hr_U at u
  have p1 := hP.1
  have c1 := hC.1
  have m1 := hM.1
  have e1 := hE.1
  have d1 := hD.1
  have b1 := hB.1
  have k1 := hK.1
  have t1 := hT.1
  have BD : ¬ ((0 ≤ a1 ∧ a1 < σ 129 7) ∧ (0 ≤ a2 ∧ a2 ≤ σ 129 0) ∧ 0 ≤ a3 ∧ a3 ≤ 3) → hh_Sp 200 hm_X12_worth [hh_R 128, hh_I a1, hh_I a2, hh_I a3] σ (fun r' σ2 => -1000000001 = r' ∧ hr_R σ2) := by
    intro hb
    refine wp_X12_worth _ _ _ (fun _ _ _ _ => ?_)
    unfold P_X12_worth
    refine c_isEntry (by omega) (fun _ _ => ⟨fun z => by omega, fun _ => ?_⟩) (fun z => ⟨fun _ => ⟨rfl, h⟩, fun y => by omega⟩)
    refine c_isPast (fun _ _ => ⟨fun z => by omega, fun _ => ?_⟩) (fun z => ⟨fun _ => ⟨rfl, h⟩, fun y => by omega⟩)
    exact c_in (fun _ _ => absurd hb (by omega)) (fun z => ⟨fun y => by omega, fun _ => ⟨rfl, h⟩⟩)
  refine wp_X11_worth _ _ _ (fun hs h1 h2 h3 => ?_)
  unfold P_X11_worth
  refine c_X3_has (by omega) (fun g1 g2 => ⟨fun z => by omega, fun _ => ?_⟩) (fun z => ⟨fun _ => BD (by omega), fun y => by omega⟩)
  refine c_X11_isPast (fun g3 g4 => ⟨fun z => by omega, fun _ => ?_⟩) (fun z => ⟨fun _ => BD (by omega), fun y => by omega⟩)
  refine c_within (fun g5 g6 => ⟨fun _ => ?_, fun z => by omega⟩) (fun z => ⟨fun y => by omega, fun _ => BD (by omega)⟩)
  have he : 0 ≤ a1 ∧ a1 < σ 129 7 := by omega
  obtain ⟨⟨v1, v2, v3, v4, v5, v6, v7⟩, ⟨v8, v9⟩, v10⟩ := hE.2 a1 he.1 he.2
  have kn := hr_kn_nn (t := σ 129 (250 + 12 * a1 + 6)) (k := a2) v8.1
  have v8' := v8.1
  unfold hr_nn at v8'
  obtain ⟨s, hss⟩ : ∃ s : Int → Int, σ 129 = s := ⟨_, rfl⟩
  have hN := h.1
  have md : ∀ (ρ : hh_S) (r : Int), (∀ r : Nat, r ≠ 113 → r ≠ 114 → r ≠ 116 → ρ r = σ r) → (hr_kn (σ 129 (250 + 12 * a1 + 6)) (σ 129 (250 + 12 * a1 + 7)) a2 → r = if a3 < 2 then hr_val (σ 129) a1 a2 a3 else if a3 = 2 then hr_wo (σ 129) a1 a2 else hr_ch (σ 129) a1 a2 (σ 129 (250 + 12 * a1 + 1)) (σ 129 (50 + 20 * σ 129 (250 + 12 * a1 + 1)))) → (¬ hr_kn (σ 129 (250 + 12 * a1 + 6)) (σ 129 (250 + 12 * a1 + 7)) a2 → r = -1000000002) → hh_Sp 200 hm_X12_worth [hh_R 128, hh_I a1, hh_I a2, hh_I a3] ρ (fun r' σ2 => r = r' ∧ hr_R σ2) := by
    intro ρ r w hr1 hr2
    have R' : ∀ π : hh_S, (∀ r : Nat, r ≠ 136 → r ≠ 137 → π r = ρ r) → hr_R π := fun π q => h.fr (fun r hr => by rw [q r (by omega) (by omega), w r (by omega) (by omega) (by omega)])
    have w9 : ρ 129 = σ 129 := w 129 (by omega) (by omega) (by omega)
    refine wp_X12_worth _ _ _ (fun _ _ _ _ => ?_)
    unfold P_X12_worth
    refine c_isEntry (by rw [w9]; omega) (fun _ _ => ⟨fun z => by omega, fun _ => ?_⟩) (fun z => by rw [w9] at z; omega)
    refine c_isPast (fun _ _ => ⟨fun z => by omega, fun _ => ?_⟩) (fun z => by rw [w9] at z; omega)
    refine c_in (fun _ _ => ⟨fun _ => ?_, fun z => by omega⟩) (fun z => by omega)
    refine c_isKnown (by omega) ?_ ?_ ?_ <;> rw [w9]
    · intro z
      have hr := hr1 z
      refine ⟨fun _ => ⟨fun y => ⟨fun x => ?_, fun x => ?_⟩, fun y => ?_⟩, fun y => by omega⟩
      · refine c_chargedOf w9 hN he (fun π q => ⟨?_, R' π q⟩)
        rw [hr, if_neg (by omega), if_neg x]
      · refine c_X12_worthOf w9 hN he (fun π q => ⟨?_, R' π q⟩)
        rw [hr, if_neg (by omega), if_pos x]
      · refine c_gives w9 hN he (by omega) (fun π q => ⟨?_, R' π q⟩)
        rw [hr, if_pos (by omega)]
    · intro z
      exact ⟨fun y => by omega, fun _ => ⟨hr2 z, R' ρ (fun _ _ _ => rfl)⟩⟩
    · omega
  refine c_X3_isKnown (by omega) ?_ ?_ (by omega) <;> rw [v7.1, kn]
  · intro z
    refine ⟨fun _ => ⟨fun y => ⟨by omega, ?_⟩, fun y => ?_, fun y => ?_, fun y => ?_⟩, fun y => by omega⟩
    · rw [v2.1]
      refine c_chargeMatter hN (by omega) (fun ρ q1 q2 => ⟨by omega, md ρ _ q1 (fun _ => ?_) (fun x => absurd z x)⟩)
      rw [if_neg (by omega), if_neg (by omega)]
      have e : ((a1.toNat : Nat) : Int) = a1 := by omega
      have := q2 a1.toNat (by omega) (by rw [e]; exact ⟨rfl, z⟩)
      rw [e] at this
      exact this
    · refine c_countedOf hN he (fun ρ q1 => md ρ _ (fun r r1 r2 r3 => q1 r r1) (fun _ => ?_) (fun x => absurd z x))
      rw [if_pos (by omega), y]
    · refine c_atOf hN he (fun ρ q1 => md ρ _ (fun r r1 r2 r3 => q1 r r1) (fun _ => ?_) (fun x => absurd z x))
      rw [if_pos (by omega), y]
    · refine c_X10_worthOf hN he (fun ρ q1 => md ρ _ (fun r r1 r2 r3 => q1 r r1) (fun _ => ?_) (fun x => absurd z x))
      rw [if_neg (by omega), if_pos y]
  · intro z
    exact ⟨fun y => by omega, fun _ => md σ _ (fun _ _ _ _ => rfl) (fun x => absurd x z) (fun _ => rfl)⟩
