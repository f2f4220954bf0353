set_option maxHeartbeats 2000000 in
theorem o_check {σ : hh_S} (h : hr_R σ) : hr_op2 hm_X11_check hm_X12_check [] σ := by
  obtain ⟨hU, hP, hC, hM, hE, hD, hB, hK, hT⟩ := h.1
  have u := hU
  unfold hr_U at u
  have p1 := hP.1
  have c1 := hC.1
  have m1 := hM.1
  have e1 := hE.1
  have d1 := hD.1
  have b1 := hB.1
  have k1 := hK.1
  have t1 := hT.1
  have hN := h.1
  have wW := h.2.2.2.1
  have wn := wW.1
  obtain ⟨N, hNN⟩ : ∃ N : Nat, σ 129 4 = N := ⟨(σ 129 4).toNat, by omega⟩
  obtain ⟨T, hTT⟩ : ∃ T : Nat, σ 129 11 = T := ⟨(σ 129 11).toNat, by omega⟩
  obtain ⟨X, hX⟩ : ∃ X : Int × hr_St, X = hr_R0 (σ 129) 30000 := ⟨_, rfl⟩
  have okb := hr_R0_ok (σ 129) 30000
  rw [← hX, show (σ 129 11).toNat = T by omega, show (σ 129 4).toNat = N by omega] at okb
  have scb : ∀ be : Int → Int, (∀ i : Int, 0 ≤ i → i < T → 0 ≤ be i ∧ be i < N) → ∀ j : Nat, j ≤ T → 0 ≤ hr_sc (σ 129) be j ∧ hr_sc (σ 129) be j ≤ 99800 * j := by
    intro be hbe j
    induction j with
    | zero => intro _; unfold hr_sc; omega
    | succ j ih =>
      intro hj
      have i := ih (by omega)
      have b := hbe j (by omega) (by omega)
      have x := (hP.2 (be j) b.1 (by omega)).2.2.1
      have y := (hK.2 j (by omega) (by omega)).2.1
      have m := hr_mulc (a := σ 129 (1822 + 3 * (j : Int) + 1)) (b := σ 129 (20 + 3 * be j + 1)) (by omega) (by omega)
      show 0 ≤ hr_sc (σ 129) be j + hr_co (σ 129) j (be j) ∧ hr_sc (σ 129) be j + hr_co (σ 129) j (be j) ≤ _
      unfold hr_co
      omega
  -- the reference
  have md : ∀ (ρ : hh_S) (r : Int), (∀ r : Nat, r ≠ 0 → r ≠ 117 → r ≠ 118 → r ≠ 119 → r ≠ 120 → r ≠ 121 → ρ r = σ r) → (∀ f : Int, f ≠ 7 → ρ 0 f = σ 0 f) → ρ 0 7 = 0 → (X.1 = 0 → r = -1000000004) → (¬ X.1 = 0 → X.2.2.1 = -1 → r = -1000000002) → (¬ X.1 = 0 → ¬ X.2.2.1 = -1 → hr_ck (σ 129) X.2.2.2 (σ 122) (σ 0 7) (2 * σ 129 11) r) → hh_Sp 200 hm_X12_check [hh_R 128] ρ (fun r' σ2 => r = r' ∧ hr_R σ2) := by
    intro ρ r w w0 w7 q1 q2 q3
    have R' : ∀ π : hh_S, hr_fs (hh_up ρ 128 31 0) π T X.2 → hr_R π := by
      intro π f
      have e : ∀ r : Nat, r ≠ 0 → r ≠ 128 → (r < 111 ∨ (122 ≤ r ∧ r < 125) ∨ (129 ≤ r ∧ r < 131) ∨ r = 133 ∨ (144 ≤ r ∧ r < 147)) → π r = σ r := fun r z0 z1 hr => by rw [f.1 r (by omega) (by omega) (by omega) (by omega) (by omega), hh_up_ne z1, w r z0 (by omega) (by omega) (by omega) (by omega) (by omega)]
      have e0 : ∀ k : Int, π 0 k = ρ 0 k := fun k => by rw [f.1 0 (by omega) (by omega) (by omega) (by omega) (by omega), hh_up_ne (by omega)]
      have e8 : ∀ k : Int, k ≠ 29 → k ≠ 31 → π 128 k = σ 128 k := fun k k1 k2 => by rw [f.2.1 k k1, hh_up_off k2, w 128 (by omega) (by omega) (by omega) (by omega) (by omega) (by omega)]
      have e31 : π 128 31 = 0 := by rw [f.2.1 31 (by omega), hh_up_at]
      refine ⟨by rw [e 129 (by omega) (by omega) (by omega)]; exact h.1.cg (fun r r1 r2 => e r (by omega) (by omega) (by omega)) (fun k _ _ => rfl), h.2.1.cg (by rw [e0, w0 2 (by omega)]) (e8 2 (by omega) (by omega)) (fun r r1 r2 => e r (by omega) (by omega) (by omega)) (e 130 (by omega) (by omega) (by omega)), h.2.2.1.cg (e 123 (by omega) (by omega) (by omega)) (e 124 (by omega) (by omega) (by omega)) (e 145 (by omega) (by omega) (by omega)) (e 146 (by omega) (by omega) (by omega)), ⟨by rw [e0, w7, e31]; omega, fun j j1 j2 => by rw [e31] at j2; omega⟩, h.2.2.2.2.cg (by rw [e 109 (by omega) (by omega) (by omega)]) (e8 6 (by omega) (by omega)) (e 110 (by omega) (by omega) (by omega)) (e 133 (by omega) (by omega) (by omega))⟩
    refine wp_X12_check (fun _ => ?_)
    unfold P_X12_check
    rw [w 128 (by omega) (by omega) (by omega) (by omega) (by omega) (by omega)]
    refine c_X12_seeks (s := σ 129) (by rw [hh_up_ne (by omega)]; exact w 129 (by omega) (by omega) (by omega) (by omega) (by omega) (by omega)) hN (by omega) (fun π f => ?_)
    rw [← hX, show (σ 129 11).toNat = T by omega] at f
    rw [← hX]
    have RR := R' π f
    by_cases z : X.1 = 0
    · rw [if_pos z]
      exact ⟨fun y => by omega, fun _ => ⟨q1 z, RR⟩⟩
    rw [if_neg z]
    by_cases z2 : X.2.2.1 = -1
    · rw [if_pos z2]
      exact ⟨fun y => by omega, fun _ => ⟨q2 z z2, RR⟩⟩
    rw [if_neg z2]
    refine ⟨fun _ => ?_, fun y => absurd rfl y⟩
    have ck := q3 z z2
    have hbe := okb z2
    have sb := scb X.2.2.2 hbe
    have t9 : π 129 = σ 129 := by rw [f.1 129 (by omega) (by omega) (by omega) (by omega) (by omega), hh_up_ne (by omega)]; exact w 129 (by omega) (by omega) (by omega) (by omega) (by omega) (by omega)
    have b42 := f.2.2.2 z2
    have t44 : ∀ j : Int, 0 ≤ j → j < σ 0 7 → π 144 j = σ 122 j := fun j j1 j2 => by rw [f.1 144 (by omega) (by omega) (by omega) (by omega) (by omega), hh_up_ne (by omega), w 144 (by omega) (by omega) (by omega) (by omega) (by omega) (by omega)]; exact (wW.2 j j1 (by omega)).symm
    have DONE : ∀ r' : Int, hr_ck (σ 129) X.2.2.2 (σ 122) (σ 0 7) (2 * σ 129 11) r' → r = r' ∧ hr_R π := fun r' k' => ⟨ck.un (by omega) k', RR⟩
    rw [← wW.1.1]
    refine hh_lp3_of (fun n x1 x3 x4 τ => τ = π ∧ x1 = σ 0 7 ∧ (0 ≤ x4 ∧ x4 ≤ σ 0 7 ∧ x4 ≤ 2 * σ 129 11 ∧ σ 0 7 - x4 ≤ n) ∧ x3 = hr_sc (σ 129) X.2.2.2 ((x4 + 1) / 2).toNat ∧ ∀ j : Int, 0 ≤ j → j < x4 → σ 122 j = hr_ex (σ 129) X.2.2.2 j) ?_ 20 (σ 0 7) 0 0 π ⟨rfl, rfl, by omega, rfl, fun j j1 j2 => by omega⟩
    rintro n x1 x3 x4 τ kk ⟨rfl, rfl, f1, rfl, f2⟩ hk
    have sj := sb ((x4 + 1) / 2).toNat (by omega)
    unfold B_X12_check_29
    rw [t9]
    refine ⟨fun c => ?_, fun c => ⟨by omega, fun c2 => ⟨by omega, fun c3 => ?_, fun c3 => ?_⟩, fun c2 => ?_⟩⟩
    · unfold B_X12_check_126
      rw [t9]
      refine ⟨by omega, fun c2 => DONE 0 (Or.inl ⟨rfl, by omega, fun j j1 j2 => f2 j j1 (by omega)⟩), fun c2 => ⟨by omega, DONE _ (Or.inr ⟨σ 0 7, ⟨rfl, by omega⟩, fun j j1 j2 => ⟨by omega, f2 j j1 (by omega)⟩, fun y => by omega, by omega⟩)⟩⟩
    · unfold B_X12_check_83 B_X12_check_112 B_X12_check_115
      have ex : hr_ex (σ 129) X.2.2.2 x4 = hr_sc (σ 129) X.2.2.2 ((x4 + 1) / 2).toNat := by
        unfold hr_ex
        rw [if_pos (by omega), show (x4 + 1) / 2 = x4 / 2 + 1 by omega]
      rw [t44 x4 (by omega) (by omega), Int.add_zero]
      refine ⟨by omega, fun _ => ⟨fun c4 => ⟨by omega, hk (n - 1) _ _ _ _ (by omega) ⟨rfl, rfl, by omega, by rw [show (x4 + 1 + 1) / 2 = (x4 + 1) / 2 by omega], fun j j1 j2 => ?_⟩⟩, fun c4 => ⟨by omega, DONE _ (Or.inr ⟨x4, ⟨rfl, by omega⟩, fun j j1 j2 => ⟨by omega, f2 j j1 j2⟩, fun y => c4 (by rw [y.2, ex]), by omega⟩)⟩⟩, fun y => by omega⟩
      by_cases w : j = x4
      · rw [w, c4, ex]
      · exact f2 j j1 (by omega)
    · have bx := hbe (x4 / 2) (by omega) (by omega)
      refine ⟨by omega, ?_⟩
      rw [b42 (x4 / 2) (by omega) (by omega)]
      refine c_X12_costOf t9 hP hK (by omega) (by omega) (fun cb => ?_)
      unfold B_X12_check_83 B_X12_check_112 B_X12_check_115
      have ex : hr_ex (σ 129) X.2.2.2 x4 = X.2.2.2 (x4 / 2) := by
        unfold hr_ex
        rw [if_neg (by omega)]
      have sn : hr_sc (σ 129) X.2.2.2 ((x4 + 1 + 1) / 2).toNat = hr_sc (σ 129) X.2.2.2 ((x4 + 1) / 2).toNat + hr_co (σ 129) (x4 / 2) (X.2.2.2 (x4 / 2)) := by
        obtain ⟨q, hq⟩ : ∃ q : Nat, x4 / 2 = q := ⟨(x4 / 2).toNat, by omega⟩
        rw [show ((x4 + 1 + 1) / 2).toNat = q + 1 by omega, show ((x4 + 1) / 2).toNat = q by omega, hq]
        rfl
      rw [t44 x4 (by omega) (by omega), b42 (x4 / 2) (by omega) (by omega)]
      refine ⟨by omega, fun y => by omega, fun _ => ⟨by omega, fun c4 => ⟨by omega, hk (n - 1) _ _ _ _ (by omega) ⟨rfl, rfl, by omega, sn.symm, fun j j1 j2 => ?_⟩⟩, fun c4 => ⟨by omega, DONE _ (Or.inr ⟨x4, ⟨rfl, by omega⟩, fun j j1 j2 => ⟨by omega, f2 j j1 j2⟩, fun y => c4 (by rw [y.2, ex]), by omega⟩)⟩⟩⟩
      by_cases w : j = x4
      · rw [w, c4, ex]
      · exact f2 j j1 (by omega)
    · unfold B_X12_check_49
      exact ⟨by omega, DONE _ (Or.inr ⟨x4, ⟨rfl, by omega⟩, fun j j1 j2 => ⟨by omega, f2 j j1 j2⟩, fun y => by omega, by omega⟩)⟩
  refine wp_X11_check (fun _ => ?_)
  unfold P_X11_check
  have hN1 : hr_N (hh_up σ 0 7 0) (σ 129) := hN.cg (fun r r1 r2 => by rw [hh_up_ne (by omega)]) (fun _ _ _ => rfl)
  refine c_X7_seek hN1 (by omega) (fun ρ r1 ps hb => ?_)
  rw [← hX, show (σ 129 11).toNat = T by omega] at ps
  rw [← hX] at hb ⊢
  have w : ∀ r : Nat, r ≠ 0 → r ≠ 117 → r ≠ 118 → r ≠ 119 → r ≠ 120 → r ≠ 121 → ρ r = σ r := fun r q0 q1 q2 q3 q4 q5 => by rw [r1 r q1 q2 q3 q4 q5, hh_up_ne q0]
  have w0 : ∀ f : Int, f ≠ 7 → ρ 0 f = σ 0 f := fun f hf => by rw [r1 0 (by omega) (by omega) (by omega) (by omega) (by omega), hh_up_off hf]
  have w7 : ρ 0 7 = 0 := by rw [r1 0 (by omega) (by omega) (by omega) (by omega) (by omega), hh_up_at]
  unfold hr_en
  by_cases z : X.1 = 0
  · rw [if_pos z]
    exact ⟨fun y => by omega, fun _ => md ρ _ w w0 w7 (fun _ => rfl) (fun y => absurd z y) (fun y => absurd z y)⟩
  rw [if_neg z]
  by_cases z2 : X.2.2.1 = -1
  · rw [if_pos z2]
    exact ⟨fun y => by omega, fun _ => md ρ _ w w0 w7 (fun y => absurd y z) (fun _ _ => rfl) (fun _ y => absurd z2 y)⟩
  rw [if_neg z2]
  refine ⟨fun _ => ?_, fun y => by omega⟩
  have hbe := okb z2
  have sb := scb X.2.2.2 hbe
  have b21 := ps.2.2 z2
  have DONE : ∀ r : Int, hr_ck (σ 129) X.2.2.2 (σ 122) (σ 0 7) (2 * σ 129 11) r → hh_Sp 200 hm_X12_check [hh_R 128] ρ (fun r' σ2 => r = r' ∧ hr_R σ2) := fun r k' => md ρ r w w0 w7 (fun y => absurd y z) (fun _ y => absurd y z2) (fun _ _ => k')
  clear md
  have hPr : hr_P ρ (σ 129) := hP.cg (w 2 (by omega) (by omega) (by omega) (by omega) (by omega) (by omega)) (w 3 (by omega) (by omega) (by omega) (by omega) (by omega) (by omega)) (w 4 (by omega) (by omega) (by omega) (by omega) (by omega) (by omega)) (w 5 (by omega) (by omega) (by omega) (by omega) (by omega) (by omega)) (fun _ _ => rfl)
  have hKr : hr_K ρ (σ 129) := hK.cg (w 50 (by omega) (by omega) (by omega) (by omega) (by omega) (by omega)) (w 51 (by omega) (by omega) (by omega) (by omega) (by omega) (by omega)) (w 52 (by omega) (by omega) (by omega) (by omega) (by omega) (by omega)) (w 53 (by omega) (by omega) (by omega) (by omega) (by omega) (by omega)) (Int.le_refl _) (fun _ _ => rfl)
  rw [w 50 (by omega) (by omega) (by omega) (by omega) (by omega) (by omega), k1.1]
  refine ⟨by omega, ?_⟩
  refine hh_lp4_of (fun n x1 x3 x4 x5 τ => τ = ρ ∧ (x1 = σ 0 7 ∧ x3 = 2 * σ 129 11) ∧ (0 ≤ x5 ∧ x5 ≤ σ 0 7 ∧ x5 ≤ 2 * σ 129 11 ∧ 2 * σ 129 11 - x5 ≤ n) ∧ x4 = hr_sc (σ 129) X.2.2.2 (x5 / 2).toNat ∧ ∀ j : Int, 0 ≤ j → j < x5 → σ 122 j = hr_ex (σ 129) X.2.2.2 j) ?_ 12 (σ 0 7) (2 * σ 129 11) 0 0 ρ ⟨rfl, ⟨rfl, rfl⟩, by omega, rfl, fun j j1 j2 => by omega⟩
  rintro n x1 x3 x4 x5 τ kk ⟨rfl, ⟨rfl, rfl⟩, f1, rfl, f2⟩ hk
  have sj := sb (x5 / 2).toNat (by omega)
  unfold B_X11_check_46
  refine ⟨fun c => ?_, fun c => ⟨by omega, ?_⟩⟩
  · unfold B_X11_check_135
    exact ⟨fun c2 => DONE 0 (Or.inl ⟨rfl, by omega, fun j j1 j2 => f2 j j1 (by omega)⟩), fun c2 => ⟨by omega, DONE _ (Or.inr ⟨2 * σ 129 11, ⟨rfl, by omega⟩, fun j j1 j2 => ⟨by omega, f2 j j1 (by omega)⟩, fun y => by omega, by omega⟩)⟩⟩
  have bx := hbe (x5 / 2) (by omega) (by omega)
  rw [b21 (x5 / 2) (by omega) (by omega)]
  have FIN : ∀ (y4 v : Int), y4 = hr_sc (σ 129) X.2.2.2 ((x5 + 1) / 2).toNat → v = hr_ex (σ 129) X.2.2.2 x5 → B_X11_check_106 199 (fun r σ1 => hh_Sp 200 hm_X12_check (hh_R 128 :: []) σ1 (fun r' σ2 => r = r' ∧ hr_R σ2)) kk (σ 0 7) (2 * σ 129 11) y4 x5 v τ := by
    intro y4 v hy hv
    unfold B_X11_check_106 B_X11_check_124
    rw [w 122 (by omega) (by omega) (by omega) (by omega) (by omega) (by omega)]
    refine ⟨fun c2 => ⟨by omega, DONE _ (Or.inr ⟨x5, ⟨rfl, by omega⟩, fun j j1 j2 => ⟨by omega, f2 j j1 j2⟩, fun y => by omega, by omega⟩)⟩, fun c2 => ⟨by omega, fun c3 => ⟨by omega, hk (n - 1) _ _ _ _ _ (by omega) ⟨rfl, ⟨rfl, rfl⟩, by omega, hy, fun j j1 j2 => ?_⟩⟩, fun c3 => ⟨by omega, DONE _ (Or.inr ⟨x5, ⟨rfl, by omega⟩, fun j j1 j2 => ⟨by omega, f2 j j1 j2⟩, fun y => c3 (by rw [y.2, hv]), by omega⟩)⟩⟩⟩
    by_cases w : j = x5
    · rw [w, c3, hv]
    · exact f2 j j1 (by omega)
  refine ⟨fun c2 => FIN _ _ (by rw [show (x5 + 1) / 2 = x5 / 2 by omega]) (by unfold hr_ex; rw [if_neg (by omega)]), fun c2 => ⟨by omega, ?_⟩⟩
  refine c_X7_costOf hPr hKr (by omega) (by omega) (fun cb => ⟨by omega, ?_⟩)
  have sn : hr_sc (σ 129) X.2.2.2 (x5 / 2 + 1).toNat = hr_sc (σ 129) X.2.2.2 (x5 / 2).toNat + hr_co (σ 129) (x5 / 2) (X.2.2.2 (x5 / 2)) := by
    obtain ⟨q, hq⟩ : ∃ q : Nat, x5 / 2 = q := ⟨(x5 / 2).toNat, by omega⟩
    rw [hq, show ((q : Int) + 1).toNat = q + 1 by omega, show ((q : Int)).toNat = q by omega]
    rfl
  exact FIN _ _ (by rw [show (x5 + 1) / 2 = x5 / 2 + 1 by omega, sn]) (by unfold hr_ex; rw [if_pos (by omega), sn])
