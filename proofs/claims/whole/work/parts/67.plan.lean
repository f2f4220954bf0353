theorem hr_R.fr2 {σ ρ : hh_S} (h : hr_R σ) (e : ∀ r : Nat, (r < 111 ∨ (122 ≤ r ∧ r < 125) ∨ (129 ≤ r ∧ r < 131) ∨ r = 133 ∨ (144 ≤ r ∧ r < 147)) → ρ r = σ r) (e8 : ∀ f : Int, f ≠ 29 → ρ 128 f = σ 128 f) : hr_R ρ :=
  ⟨by rw [e 129 (by omega)]; exact h.1.cg (fun r r1 r2 => e r (by omega)) (fun k _ _ => rfl), h.2.1.cg (by rw [e 0 (by omega)]) (e8 2 (by omega)) (fun r r1 r2 => e r (by omega)) (e 130 (by omega)), h.2.2.1.cg (e 123 (by omega)) (e 124 (by omega)) (e 145 (by omega)) (e 146 (by omega)), h.2.2.2.1.cg (by rw [e 0 (by omega)]) (e8 31 (by omega)) (e 122 (by omega)) (e 144 (by omega)), h.2.2.2.2.cg (by rw [e 109 (by omega)]) (e8 6 (by omega)) (e 110 (by omega)) (e 133 (by omega))⟩
set_option maxHeartbeats 2000000 in
theorem o_plan {σ : hh_S} {a1 : Int} (h : hr_R σ) : hr_op2 hm_X11_plan hm_X12_plan [hh_I a1] σ := by
  have hN := h.1
  refine wp_X11_plan _ (fun _ _ => ?_)
  unfold P_X11_plan
  refine c_within (fun g1 g2 => ⟨fun _ => ?_, fun z => by omega⟩) (fun z => ⟨fun y => by omega, fun _ => ?_⟩)
  · refine c_X7_seek hN ⟨g1, g2⟩ (fun ρ r1 ps hb => ?_)
    refine wp_X12_plan _ (fun _ _ => ?_)
    unfold P_X12_plan
    refine c_in (fun _ _ => ⟨fun _ => ?_, fun z => by omega⟩) (fun z => by omega)
    refine c_X12_seeks (r1 129 (by omega) (by omega) (by omega) (by omega) (by omega)) hN ⟨g1, g2⟩ (fun π f => ?_)
    have R' : hr_R π := h.fr2 (fun r hr => by rw [f.1 r (by omega) (by omega) (by omega) (by omega) (by omega), r1 r (by omega) (by omega) (by omega) (by omega) (by omega)]) (fun k hk => by rw [f.2.1 k hk, r1 128 (by omega) (by omega) (by omega) (by omega) (by omega)])
    have b := f.2.2.1.1
    generalize hr_R0 (σ 129) a1 = X at hb b ⊢
    unfold hr_en
    by_cases z : X.1 = 0
    · rw [if_pos z, if_pos z]
      exact ⟨fun _ => ⟨rfl, R'⟩, fun y => by omega⟩
    · rw [if_neg z, if_neg z]
      by_cases z2 : X.2.2.1 = -1
      · rw [if_pos z2, if_pos z2]
        exact ⟨fun _ => ⟨rfl, R'⟩, fun y => by omega⟩
      · rw [if_neg z2, if_neg z2]
        exact ⟨fun y => absurd rfl y, fun _ => ⟨b.symm, R'⟩⟩
  · refine wp_X12_plan _ (fun _ _ => ?_)
    unfold P_X12_plan
    exact c_in (fun _ _ => by omega) (fun _ => ⟨fun y => by omega, fun _ => ⟨rfl, h⟩⟩)
set_option maxHeartbeats 2000000 in
theorem o_planned {σ : hh_S} {a1 a2 : Int} (h : hr_R σ) : hr_op2 hm_X11_planned hm_X12_planned [hh_I a1, hh_I a2] σ := by
  have hN := h.1
  have k1 := h.1.2.2.2.2.2.2.2.1.1
  have BD : ¬ ((1 ≤ a1 ∧ a1 ≤ 30000) ∧ 0 ≤ a2 ∧ a2 < σ 129 11) → hh_Sp 200 hm_X12_planned [hh_R 128, hh_I a1, hh_I a2] σ (fun r' σ2 => -1000000001 = r' ∧ hr_R σ2) := by
    intro hb
    refine wp_X12_planned _ _ (fun _ _ _ => ?_)
    unfold P_X12_planned
    refine c_in (fun _ _ => ⟨fun z => by omega, fun _ => ⟨by omega, ?_⟩⟩) (fun z => ⟨fun _ => ⟨rfl, h⟩, fun y => by omega⟩)
    exact c_in (fun _ _ => absurd hb (by omega)) (fun z => ⟨fun y => by omega, fun _ => ⟨rfl, h⟩⟩)
  refine wp_X11_planned _ _ (fun _ _ _ => ?_)
  unfold P_X11_planned
  refine c_within (fun g1 g2 => ⟨fun z => by omega, fun _ => ⟨by omega, ?_⟩⟩) (fun z => ⟨fun _ => BD (by omega), fun y => by omega⟩)
  refine c_within (fun g3 g4 => ⟨fun _ => ?_, fun z => by omega⟩) (fun z => ⟨fun y => by omega, fun _ => BD (by omega)⟩)
  refine c_X7_seek hN ⟨g1, g2⟩ (fun ρ r1 ps hb => ?_)
  have w9 : ρ 129 = σ 129 := r1 129 (by omega) (by omega) (by omega) (by omega) (by omega)
  have md : ∀ r : Int, (∀ π : hh_S, hr_fs ρ π (σ 129 11).toNat (hr_R0 (σ 129) a1).2 → hr_R π → (¬ (if (hr_R0 (σ 129) a1).1 = 0 then (-1000000004 : Int) else if (hr_R0 (σ 129) a1).2.2.1 = -1 then -1000000002 else 0) = 0 → r = (if (hr_R0 (σ 129) a1).1 = 0 then -1000000004 else if (hr_R0 (σ 129) a1).2.2.1 = -1 then -1000000002 else 0)) ∧ ((if (hr_R0 (σ 129) a1).1 = 0 then (-1000000004 : Int) else if (hr_R0 (σ 129) a1).2.2.1 = -1 then -1000000002 else 0) = 0 → r = π 142 a2)) → hh_Sp 200 hm_X12_planned [hh_R 128, hh_I a1, hh_I a2] ρ (fun r' σ2 => r = r' ∧ hr_R σ2) := by
    intro r K
    refine wp_X12_planned _ _ (fun _ _ _ => ?_)
    unfold P_X12_planned
    refine c_in (fun _ _ => ⟨fun z => by omega, fun _ => ?_⟩) (fun z => by omega)
    rw [w9]
    refine ⟨by omega, c_in (fun _ _ => ⟨fun _ => ?_, fun z => by omega⟩) (fun z => by omega)⟩
    refine c_X12_seeks w9 hN ⟨g1, g2⟩ (fun π f => ?_)
    have R' : hr_R π := h.fr2 (fun r hr => by rw [f.1 r (by omega) (by omega) (by omega) (by omega) (by omega), r1 r (by omega) (by omega) (by omega) (by omega) (by omega)]) (fun k hk => by rw [f.2.1 k hk, r1 128 (by omega) (by omega) (by omega) (by omega) (by omega)])
    have KK := K π f R'
    exact ⟨fun y => ⟨KK.1 y, R'⟩, fun y => ⟨by omega, KK.2 y, R'⟩⟩
  have bp := ps.2.2
  generalize hr_R0 (σ 129) a1 = X at hb bp md ⊢
  unfold hr_en
  by_cases z : X.1 = 0
  · rw [if_pos z]
    refine ⟨fun y => by omega, fun _ => md _ (fun π f _ => ?_)⟩
    rw [if_pos z]
    exact ⟨fun _ => rfl, fun y => by omega⟩
  · rw [if_neg z]
    by_cases z2 : X.2.2.1 = -1
    · rw [if_pos z2]
      refine ⟨fun y => by omega, fun _ => md _ (fun π f _ => ?_)⟩
      rw [if_neg z, if_pos z2]
      exact ⟨fun _ => rfl, fun y => by omega⟩
    · rw [if_neg z2]
      refine ⟨fun _ => ⟨by omega, md _ (fun π f _ => ?_)⟩, fun y => by omega⟩
      rw [if_neg z, if_neg z2]
      refine ⟨fun y => absurd rfl y, fun _ => ?_⟩
      rw [bp z2 a2 (by omega) (by omega), f.2.2.2 z2 a2 (by omega) (by omega)]
