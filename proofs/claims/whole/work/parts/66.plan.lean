theorem hr_sta.mz {s : Int → Int} {T N : Nat} {tr cs L0 : Int → Int} : ∀ (t : Nat) {left ch : Int → Int} {cost : Int} {K : hr_St → Int × hr_St}, hr_sta s T N tr cs L0 t left ch cost K → 0 ≤ hr_mz tr N t
  | 0, _, _, _, _, _ => Int.le_refl _
  | t + 1, _, _, _, _, ⟨left, ch, cost, K, p, m, h, a, b, c, d⟩ => by
    have i := hr_sta.mz t h
    show 0 ≤ hr_mz tr N t + (N - tr t)
    rw [b.1]
    omega
theorem hr_fq_01 {F : Int → hr_St → Int × hr_St} {g : Int → Bool} : ∀ (r : Nat) (m : Int) (st : hr_St), (hr_fq F g r m st).1 = 0 ∨ (hr_fq F g r m st).1 = 1
  | 0, _, _ => Or.inr rfl
  | r + 1, m, st => by
    unfold hr_fq
    split
    · exact hr_fq_01 r _ _
    · split
      · exact Or.inl rfl
      · split
        · exact Or.inl rfl
        · exact hr_fq_01 r _ _
set_option maxHeartbeats 2000000 in
theorem c_X12_seeks {d : Nat} {σ π : hh_S} {s : Int → Int} {tries : Int} {Q : Int → hh_S → Prop} (hs : σ 129 = s) (h : hr_N π s) (ht : 1 ≤ tries ∧ tries ≤ 30000) (hq : ∀ ρ : hh_S, hr_fs σ ρ (s 11).toNat (hr_R0 s tries).2 → Q (if (hr_R0 s tries).1 = 0 then -1000000004 else if (hr_R0 s tries).2.2.1 = -1 then -1000000002 else 0) ρ) : hh_Sp (d + 5) hm_X12_seeks [hh_R 128, hh_I tries] σ Q := by
  obtain ⟨hU, hP, hC, hM, hE, hD, hB, hK, hT⟩ := h
  have p1 := hP.1
  have k1 := hK.1
  obtain ⟨T, hTT⟩ : ∃ T : Nat, s 11 = T := ⟨(s 11).toNat, by omega⟩
  obtain ⟨N, hNN⟩ : ∃ N : Nat, s 4 = N := ⟨(s 4).toNat, by omega⟩
  obtain ⟨R, hR⟩ : ∃ R : Int × hr_St, R = hr_R0 s tries := ⟨_, rfl⟩
  rw [← hR, show (s 11).toNat = T by omega] at hq
  unfold hr_R0 at hR
  rw [show (s 11).toNat = T by omega, show (s 4).toNat = N by omega] at hR
  have MAIN : ∀ τ0 : hh_S, (∀ r : Nat, r ≠ 143 → τ0 r = σ r) → (∀ p : Int, 0 ≤ p → p < N → τ0 143 p = s (20 + 3 * p + 2)) → B_X12_seeks_37 (d + 4) Q tries τ0 := by
    intro τ0 r0 l0
    unfold B_X12_seeks_37
    refine hh_lp2_of (fun n x2 x3 τ => ∃ st : hr_St, (x2 = st.1 ∧ 0 ≤ st.1 ∧ st.1 ≤ 30000) ∧ hr_fs σ τ T st ∧ hr_hd s T N (fun p => s (20 + 3 * p + 2)) R x3 st τ n) ?_ 400000 tries 0 _ ⟨(tries, -1, fun _ => 0), ⟨rfl, by show 0 ≤ tries; omega, by show tries ≤ 30000; omega⟩, ⟨fun r q1 q2 q3 q4 q5 => by rw [hh_up_ne q3, hh_up_ne q1, r0 r q5], fun f hf => by rw [hh_up_ne (by omega), hh_up_off hf, r0 128 (by omega)], ⟨by rw [hh_up_ne (by omega), hh_up_at], Int.le_refl _⟩, fun ne => absurd rfl ne⟩, Or.inr ⟨0, (fun p => s (20 + 3 * p + 2)), (fun _ => 0), 0, (fun st => (1, st)), ⟨rfl, by omega⟩, ⟨rfl, rfl, rfl, rfl⟩, fun q q1 q2 => ⟨by rw [hh_up_ne (by omega), hh_up_ne (by omega)]; exact l0 q q1 q2, (hP.2 q q1 (by omega)).2.2.2⟩, ?_⟩⟩
    · rintro n x2 x3 τ kk ⟨st, ⟨rfl, sb1, sb2⟩, fs, hd⟩ hk
      have t9 : ∀ τ' : hh_S, ∀ st' : hr_St, hr_fs σ τ' T st' → τ' 129 = s := fun τ' st' f => by rw [f.1 129 (by omega) (by omega) (by omega) (by omega) (by omega), hs]
      have POP : ∀ (τ' : hh_S) (st' : hr_St) (j : Nat) (left ch : Int → Int) (cost : Int) (K : hr_St → Int × hr_St), st'.1 = st.1 → hr_fs σ τ' T st' → j ≤ T → hr_sta s T N (τ' 141) (τ' 140) (fun p => s (20 + 3 * p + 2)) j left ch cost K → (∀ q : Int, 0 ≤ q → q < N → τ' 143 q = left q ∧ 0 ≤ left q ∧ left q ≤ 9999) → R = K st' → st.1 * 10 + hr_mz (τ' 141) N j + j + 1 ≤ n → (0 < n) → B_X12_seeks_182 (d + 4) Q kk st.1 j τ' := by
        intro τ' st' j left ch cost K e1 f1 jT sta lf hRK hn hn0
        unfold B_X12_seeks_182
        rw [t9 τ' st' f1]
        cases j with
        | zero =>
          refine ⟨by omega, fun _ => ?_, fun z => by omega⟩
          refine hk (n - 1) _ _ _ (by omega) ⟨st', ⟨e1.symm, by omega, by omega⟩, f1, Or.inl ⟨by omega, ?_⟩⟩
          rw [hRK, sta.2.2.2]
        | succ j =>
          obtain ⟨left0, ch0, cost0, K0, p, m, sta0, a, b, c, d1, d2, d3, d4⟩ := sta
          have ej : ((j + 1 : Nat) : Int) + (-1) = (j : Int) := by omega
          have kt := hK.2 j (by omega) (by omega)
          have lp := lf p a.2.1 a.2.2
          have lv : left p = left0 p - s (1822 + 3 * (j : Int) + 1) := by rw [d1]; unfold hr_ud; rw [if_pos rfl]
          have cp := c p a.2.1 a.2.2
          rw [ej, a.1, lp.1]
          refine ⟨by omega, fun z => by omega, fun _ => ⟨by omega, ?_⟩⟩
          refine hk (n - 1) _ _ _ (by omega) ⟨st', ⟨e1.symm, by omega, by omega⟩, ⟨fun r q1 q2 q3 q4 q5 => by rw [hh_up_ne q5]; exact f1.1 r q1 q2 q3 q4 q5, fun f hf => by rw [hh_up_ne (by omega)]; exact f1.2.1 f hf, by rw [hh_up_ne (by omega)]; exact f1.2.2.1, by rw [hh_up_ne (by omega)]; exact f1.2.2.2⟩, Or.inr ⟨j, left0, ch0, cost0, K0, ⟨rfl, by omega⟩, by rw [hh_up_ne (by omega), hh_up_ne (by omega)]; exact sta0, fun q q1 q2 => ⟨?_, c q q1 q2⟩, Or.inr ⟨by omega, m, ⟨by rw [hh_up_ne (by omega)]; exact b.1, b.2⟩, ?_, ?_⟩⟩⟩
          · by_cases w : q = p
            · rw [w, hh_up_at, lv]; omega
            · rw [hh_up_off w, (lf q q1 q2).1, d1]
              unfold hr_ud
              rw [if_neg w]
          · rw [hRK, d4]
          · rw [hh_up_ne (by omega), e1]
            have mz : hr_mz (τ' 141) N (j + 1) = hr_mz (τ' 141) N j + (N - τ' 141 j) := rfl
            rw [b.1] at mz
            omega
      unfold B_X12_seeks_53
      rw [t9 τ st fs, hTT]
      rcases hd with ⟨h1, h2⟩ | ⟨j, left, ch, cost, K, ⟨rfl, jT⟩, sta, lf, hd⟩
      · refine ⟨fun _ => ?_, fun z => by omega⟩
        unfold B_X12_seeks_307
        have hq2 := hq τ (by rw [h2]; exact fs)
        rw [h2] at hq2
        rw [fs.2.2.1.1]
        rw [if_neg (by show ¬ (1 : Int) = 0; omega)] at hq2
        refine ⟨fun z => ?_, fun z => ?_⟩
        · rw [if_neg z] at hq2; exact hq2
        · rw [if_pos z] at hq2; exact hq2
      refine ⟨fun z => by omega, fun _ => ⟨fun z => ?_, fun z => ?_⟩⟩
      · rcases hd with ⟨e, _⟩ | ⟨jl, m, ⟨hm1, hm2⟩, hRm, hn⟩
        · omega
        have smz := sta.mz j
        unfold B_X12_seeks_156
        rw [t9 τ st fs, hTT, hm1, hNN]
        have kt := hK.2 j (by omega) (by omega)
        refine ⟨fun z2 => by omega, fun _ => ⟨by omega, fun z2 => ⟨by omega, ?_⟩, fun z2 => ?_⟩⟩
        · have lm := lf m (by omega) (by omega)
          refine c_X12_may (s := s) (by rw [hh_up_ne (by omega)]; exact t9 τ st fs) hP hM hK (by omega) (by omega) (fun y => ⟨fun _ => ?_, fun w => by omega⟩) (fun y => ⟨fun w => by omega, fun _ => ?_⟩) <;> rw [hh_up_ne (by omega), lm.1] at y
          · have gm : ¬ hr_gl s j left m = false := by show ¬ decide _ = false; rw [decide_eq_true y]; decide
            refine ⟨fun z3 => ?_, fun z3 => ?_⟩
            · rw [hr_step (by omega) gm z3] at hRm
              have e9 : hh_up τ 141 (j : Int) ((m : Int) + 1) 129 = s := by rw [hh_up_ne (by omega)]; exact t9 τ st fs
              have e43 : hh_up τ 141 (j : Int) ((m : Int) + 1) 143 m = left m := by rw [hh_up_ne (by omega)]; exact lm.1
              rw [e9, e43]
              refine ⟨by omega, ?_⟩
              refine hh_name (P := fun ρ => kk (st.1 + (-1)) ((j : Int) + 1) ρ) (fun ρ hρ => ?_)
              have g0 : ∀ r : Nat, r ≠ 140 → r ≠ 141 → r ≠ 143 → ρ r = τ r := fun r q1 q2 q3 => by rw [hρ, hh_up_ne q2, hh_up_ne q3, hh_up_ne q1, hh_up_ne q2]
              have g40 : ∀ i : Int, ρ 140 i = if i = j then (m : Int) else τ 140 i := fun i => by rw [hρ, hh_up_ne (by omega), hh_up_ne (by omega), hh_up_eq, hh_up_ne (by omega)]
              have g41 : ∀ i : Int, ρ 141 i = if i = (j : Int) + 1 then 0 else if i = j then (m : Int) + 1 else τ 141 i := fun i => by rw [hρ, hh_up_eq, hh_up_ne (by omega), hh_up_ne (by omega), hh_up_eq]
              have g43 : ∀ i : Int, ρ 143 i = if i = m then left m - s (1822 + 3 * (j : Int) + 1) else τ 143 i := fun i => by rw [hρ, hh_up_ne (by omega), hh_up_eq, hh_up_ne (by omega), hh_up_ne (by omega)]
              clear hρ
              have mz0 : hr_mz (ρ 141) N j = hr_mz (τ 141) N j := hr_mz.cg j (fun i i1 i2 => by rw [g41, if_neg (by omega), if_neg (by omega)])
              have mz1 : hr_mz (ρ 141) N (j + 1) = hr_mz (ρ 141) N j + (N - ρ 141 j) := rfl
              rw [g41 j, if_neg (by omega), if_pos rfl] at mz1
              have sta' : hr_sta s T N (ρ 141) (ρ 140) (fun p => s (20 + 3 * p + 2)) (j + 1) (hr_ud left m (left m - s (1822 + 3 * (j : Int) + 1))) (hr_ud ch j m) (cost + hr_co s j m) (fun st => hr_th (hr_fq (hr_Fl s T N j left ch cost) (hr_gl s j left) (N - (m + 1)) ((m + 1 : Nat) : Int) st) K) := ⟨left, ch, cost, K, m, m + 1, sta.cg j (fun i i1 i2 => ⟨by rw [g41, if_neg (by omega), if_neg (by omega)], by rw [g40, if_neg (by omega)]⟩), ⟨by rw [g40, if_pos rfl], by omega, by omega⟩, ⟨by rw [g41, if_neg (by omega), if_pos rfl]; omega, by omega⟩, fun q q1 q2 => (lf q q1 q2).2, rfl, rfl, rfl, rfl⟩
              refine hk (n - 1) _ _ _ (by omega) ⟨(st.1 - 1, st.2), ⟨by show st.1 + -1 = st.1 - 1; omega, by show 0 ≤ st.1 - 1; omega, by show st.1 - 1 ≤ 30000; omega⟩, ⟨fun r q1 q2 q3 q4 q5 => by rw [g0 r q2 q3 q5]; exact fs.1 r q1 q2 q3 q4 q5, fun f hf => by rw [g0 128 (by omega) (by omega) (by omega)]; exact fs.2.1 f hf, by rw [g0 128 (by omega) (by omega) (by omega)]; exact fs.2.2.1, by rw [g0 142 (by omega) (by omega) (by omega)]; exact fs.2.2.2⟩, Or.inr ⟨j + 1, _, _, _, _, ⟨by omega, by omega⟩, sta', fun q q1 q2 => ?_, ?_⟩⟩
              · rw [g43]
                unfold hr_ud
                by_cases w : q = m
                · rw [if_pos w, if_pos w]; omega
                · rw [if_neg w, if_neg w]; exact lf q q1 q2
              · by_cases w : j + 1 = T
                · refine Or.inl ⟨w, ?_, ?_⟩
                  · rw [hRm]
                    show hr_th (hr_sk s T N (T - 1 - j) _ _ _ _) _ = _
                    rw [show T - 1 - j = 0 by omega, hr_sk_0]
                    rfl
                  · show (st.1 - 1) * 10 + _ + _ + 1 ≤ _
                    omega
                · refine Or.inr ⟨by omega, 0, ⟨by rw [g41, if_pos (by omega)]; rfl, by omega⟩, ?_, ?_⟩
                  · rw [hRm]
                    show hr_th (hr_sk s T N (T - 1 - j) _ _ _ _) _ = _
                    rw [show T - 1 - j = T - (j + 1) by omega, hr_sk_s (by omega)]
                    rfl
                  · show (st.1 - 1) * 10 + _ + _ + _ + 1 ≤ _
                    omega
            · obtain ⟨r, hr⟩ : ∃ r : Nat, N - m = r + 1 := ⟨N - m - 1, by omega⟩
              rw [hr, hr_fq_z gm z3] at hRm
              have hR0 : R = (0, st) := by rw [hRm]; rfl
              have hq2 := hq (hh_up τ 141 (j : Int) ((m : Int) + 1)) (by rw [hR0]; exact ⟨fun r q1 q2 q3 q4 q5 => by rw [hh_up_ne q3]; exact fs.1 r q1 q2 q3 q4 q5, fun f hf => by rw [hh_up_ne (by omega)]; exact fs.2.1 f hf, by rw [hh_up_ne (by omega)]; exact fs.2.2.1, by rw [hh_up_ne (by omega)]; exact fs.2.2.2⟩)
              rw [hR0, if_pos rfl] at hq2
              exact hq2
          · refine hk (n - 1) _ _ _ (by omega) ⟨st, ⟨rfl, sb1, sb2⟩, ⟨fun r q1 q2 q3 q4 q5 => by rw [hh_up_ne q3]; exact fs.1 r q1 q2 q3 q4 q5, fun f hf => by rw [hh_up_ne (by omega)]; exact fs.2.1 f hf, by rw [hh_up_ne (by omega)]; exact fs.2.2.1, by rw [hh_up_ne (by omega)]; exact fs.2.2.2⟩, Or.inr ⟨j, left, ch, cost, K, ⟨rfl, jT⟩, sta.cg j (fun i i1 i2 => ⟨by rw [hh_up_off (by omega)], by rw [hh_up_ne (by omega)]⟩), fun q q1 q2 => by rw [hh_up_ne (by omega)]; exact lf q q1 q2, Or.inr ⟨jl, m + 1, ⟨by rw [hh_up_at]; omega, by omega⟩, ?_, ?_⟩⟩⟩
            · obtain ⟨r, hr⟩ : ∃ r : Nat, N - m = r + 1 := ⟨N - m - 1, by omega⟩
              rw [hRm, hr, hr_fq_n (by show decide _ = false; exact decide_eq_false y), show N - (m + 1) = r by omega]
              rfl
            · rw [hr_mz.cg (tr := τ 141) j (fun i i1 i2 => by rw [hh_up_off (by omega)])]
              omega
        · have em : N - m = 0 := by omega
          rw [em, hr_fq_0] at hRm
          exact POP τ st j left ch cost K rfl fs jT sta lf (by rw [hRm]; rfl) (by omega) (by have := sta.mz j; omega)
      · rcases hd with ⟨e, hRl, hn⟩ | ⟨jl, _⟩
        · subst e
          have sf := sta.f j
          have LEAF : ∀ (τ' : hh_S), (∀ r : Nat, r ≠ 128 → r ≠ 142 → τ' r = τ r) → hr_fs σ τ' j (hr_lf2 st cost ch) → B_X12_seeks_156 (d + 4) Q kk st.1 j τ' := by
            intro τ' q1 q2
            unfold B_X12_seeks_156
            rw [t9 τ' _ q2, hTT]
            refine ⟨fun _ => ?_, fun z => by omega⟩
            refine POP τ' (hr_lf2 st cost ch) j left ch cost K (by unfold hr_lf2; split <;> rfl) q2 (Nat.le_refl _) (by rw [q1 141 (by omega) (by omega), q1 140 (by omega) (by omega)]; exact sta) (fun q w1 w2 => by rw [q1 143 (by omega) (by omega)]; exact lf q w1 w2) hRl (by rw [q1 141 (by omega) (by omega)]; exact hn) ?_
            have mzn := sta.mz j
            omega
          refine hh_lp4_of (fun n' y2 y3 y4 y5 τ' => τ' = τ ∧ (y2 = st.1 ∧ y3 = j) ∧ ∃ i : Nat, (y5 = i ∧ i ≤ j ∧ j - i ≤ n') ∧ y4 = hr_sc s (τ 140) i ∧ 0 ≤ y4 ∧ y4 ≤ 99800 * i) ?_ j st.1 j 0 0 τ ⟨rfl, ⟨rfl, rfl⟩, 0, ⟨rfl, by omega, by omega⟩, rfl, by omega, by omega⟩
          rintro n' y2 y3 y4 y5 τ' k' ⟨rfl, ⟨rfl, rfl⟩, i, ⟨rfl, i1, i2⟩, rfl, b1, b2⟩ hk'
          unfold B_X12_seeks_74
          refine ⟨fun y => ?_, fun y => ⟨by omega, ?_⟩⟩
          · have ei : i = j := by omega
            subst ei
            rw [← sf.1] at b1 ⊢
            unfold B_X12_seeks_104
            rw [fs.2.2.1.1]
            have bst := fs.2.2.1.2
            have CP : (st.2.1 = -1 ∨ cost < st.2.1) → B_X12_seeks_121 (d + 4) Q kk st.1 i cost τ' := by
              intro y2
              unfold B_X12_seeks_121
              refine hh_lp3_of (fun n2 w2 w3 w5 τ2 => (w2 = st.1 ∧ w3 = i) ∧ (0 ≤ w5 ∧ w5 ≤ i ∧ i - w5 ≤ n2) ∧ (∀ r : Nat, r ≠ 142 → τ2 r = hh_up τ' 128 29 cost r) ∧ ∀ q : Int, 0 ≤ q → q < w5 → τ2 142 q = τ' 140 q) ?_ i st.1 i 0 _ ⟨⟨rfl, rfl⟩, by omega, fun _ _ => rfl, fun q q1 q2 => by omega⟩
              rintro n2 w2 w3 w5 τ2 k2 ⟨⟨rfl, rfl⟩, v1, v2, v3⟩ hk2
              unfold B_X12_seeks_130
              refine ⟨fun v => ?_, fun v => ⟨by omega, hk2 (n2 - 1) _ _ _ _ (by omega) ⟨⟨rfl, rfl⟩, by omega, fun r hr => by rw [hh_up_ne hr]; exact v2 r hr, fun q q1 q2 => ?_⟩⟩⟩
              · refine LEAF τ2 (fun r q1 q2 => by rw [v2 r q2, hh_up_ne q1]) ?_
                unfold hr_lf2
                rw [if_pos y2]
                refine ⟨fun r q1 q2 q3 q4 q5 => by rw [v2 r q4, hh_up_ne q1]; exact fs.1 r q1 q2 q3 q4 q5, fun f hf => by rw [v2 128 (by omega), hh_up_off hf]; exact fs.2.1 f hf, ⟨by rw [v2 128 (by omega), hh_up_at], by show -1 ≤ cost; omega⟩, fun _ q q1 q2 => ?_⟩
                rw [v3 q q1 (by omega)]
                exact (sf.2 q q1 q2).1.symm
              · by_cases w : q = w5
                · rw [w, hh_up_at, v2 140 (by omega), hh_up_ne (by omega)]
                · rw [hh_up_off w]; exact v3 q q1 (by omega)
            refine ⟨fun y2 => CP (Or.inl y2), fun y2 => ⟨fun y3 => LEAF τ' (fun _ _ _ => rfl) ?_, fun y3 => CP (Or.inr (by omega))⟩⟩
            unfold hr_lf2
            rw [if_neg (by omega)]
            exact fs
          · have ci := (sf.2 i (by omega) (by omega)).2
            refine c_X12_costOf (t9 τ' st fs) hP hK (by omega) (by omega) (fun cb => ⟨by omega, hk' (n' - 1) _ _ _ _ _ (by omega) ⟨rfl, ⟨rfl, rfl⟩, i + 1, ⟨by omega, by omega, by omega⟩, rfl, by omega, by omega⟩⟩)
        · omega
    · by_cases w : T = 0
      · refine Or.inl ⟨w.symm, ?_, ?_⟩
        · rw [hR]
          subst w
          rfl
        · show tries * 10 + (0 : Int) + _ + 1 ≤ _
          omega
      · refine Or.inr ⟨by omega, 0, ⟨by show hh_up (hh_up τ0 128 29 (-1)) 141 0 0 141 0 = 0; rw [hh_up_at], by omega⟩, ?_, ?_⟩
        · have e : hr_sk s T N (T - 0) (fun p => s (20 + 3 * p + 2)) (fun _ => 0) 0 (tries, -1, fun _ => 0) = _ := hr_sk_s (t := 0) (by omega)
          rw [Nat.sub_zero] at e
          rw [e] at hR
          rw [hR]
          show _ = hr_th (hr_fq _ _ (N - 0) ((0 : Nat) : Int) _) _
          rw [Nat.sub_zero]
          have z := hr_fq_01 (F := hr_Fl s T N 0 (fun p => s (20 + 3 * p + 2)) (fun _ => 0) 0) (g := hr_gl s 0 (fun p => s (20 + 3 * p + 2))) N 0 (tries, -1, fun _ => 0)
          show hr_fq _ _ N 0 _ = hr_th (hr_fq _ _ N 0 _) _
          generalize hr_fq (hr_Fl s T N 0 (fun p => s (20 + 3 * p + 2)) (fun _ => 0) 0) (hr_gl s 0 (fun p => s (20 + 3 * p + 2))) N 0 (tries, -1, fun _ => 0) = X at z ⊢
          unfold hr_th
          rcases z with z | z
          · rw [if_pos z]
          · rw [if_neg (by omega), ← z]
        · show tries * 10 + (0 : Int) + _ + _ + 1 ≤ _
          omega
  refine wp_X12_seeks _ (fun _ _ => ?_)
  unfold P_X12_seeks
  refine hh_lp2_of (fun n x1 x2 τ => x1 = tries ∧ (0 ≤ x2 ∧ x2 ≤ N ∧ N - x2 ≤ n) ∧ (∀ r : Nat, r ≠ 143 → τ r = σ r) ∧ ∀ p : Int, 0 ≤ p → p < x2 → τ 143 p = s (20 + 3 * p + 2)) ?_ N tries 0 σ ⟨rfl, by omega, fun _ _ => rfl, fun p q1 q2 => by omega⟩
  rintro n x1 x2 τ kk ⟨rfl, f1, r1, l1⟩ hk
  unfold B_X12_seeks_2
  rw [r1 129 (by omega), hs, hNN]
  refine ⟨fun z => MAIN τ r1 (fun p q1 q2 => l1 p q1 (by omega)), fun z => ⟨by omega, hk (n - 1) _ _ _ (by omega) ⟨rfl, by omega, fun r hr => by rw [hh_up_ne hr]; exact r1 r hr, fun p q1 q2 => ?_⟩⟩⟩
  by_cases w : p = x2
  · rw [w, hh_up_at]
  · rw [hh_up_off w]; exact l1 p q1 (by omega)
