set_option maxHeartbeats 2000000 in
theorem c_takeIfLess {d : Nat} {σ : hh_S} {T : Nat} {cost : Int} {st : hr_St} {ch : Int → Int} {Q : Int → hh_S → Prop} (hT : T ≤ 6) (hc : 0 ≤ cost) (h1 : hr_ps1 σ T st) (hb : -1 ≤ st.2.1) (hch : ∀ i : Int, 0 ≤ i → i < T → σ 120 i = ch i) (hq : ∀ ρ : hh_S, (∀ r : Nat, r ≠ 117 → r ≠ 121 → ρ r = σ r) → hr_ps1 ρ T (if st.2.1 = -1 ∨ cost < st.2.1 then (st.1, cost, ch) else st) → Q 0 ρ) : hh_Sp (d + 2) hm_X7_takeIfLess [hh_R 117, hh_I cost] σ Q := by
  obtain ⟨a1, a2, a3⟩ := h1
  refine wp_X7_takeIfLess _ (fun _ _ => ?_)
  unfold P_X7_takeIfLess
  have Y : (st.2.1 = -1 ∨ cost < st.2.1) → B_X7_takeIfLess_17 (d + 1) Q cost σ := by
    intro y
    rw [if_pos y] at hq
    unfold B_X7_takeIfLess_17
    refine c_takeOver (N := 6) ⟨6, rfl, rfl, by omega⟩ ⟨6, rfl, rfl, by omega⟩ (by omega) ?_
    refine hq _ (fun r r1 r2 => by rw [hh_cpy_ne r2, hh_up_ne r1]) ⟨?_, ?_, fun _ i i1 i2 => ?_⟩
    · rw [hh_cpy_ne (by omega), hh_up_off (by omega)]; exact a1
    · rw [hh_cpy_ne (by omega), hh_up_at]
      show cost = hr_en cost
      unfold hr_en
      rw [if_neg (by omega)]
    · rw [hh_cpy_eq]
      show (if 0 ≤ i ∧ i < 0 + 6 then _ else _) = ch i
      rw [if_pos (by omega), hh_up_ne (by omega), show (0 : Int) + (i - 0) = i by omega]
      exact hch i i1 i2
  have en : (st.2.1 = -1 ∧ σ 117 5 = -1000000002) ∨ (0 ≤ st.2.1 ∧ σ 117 5 = st.2.1) := by
    rw [a2]
    unfold hr_en
    by_cases z : st.2.1 = -1
    · exact Or.inl ⟨z, by rw [if_pos z]⟩
    · exact Or.inr ⟨by omega, by rw [if_neg z]⟩
  refine ⟨fun z => Y (by omega), fun z => ⟨fun z2 => ?_, fun z2 => Y (by omega)⟩⟩
  rw [if_neg (by omega)] at hq
  exact hq σ (fun _ _ _ => rfl) ⟨a1, a2, a3⟩
theorem hr_fq_0 {F : Int → hr_St → Int × hr_St} {g : Int → Bool} {m : Int} {st : hr_St} : hr_fq F g 0 m st = (1, st) := rfl
theorem hr_fq_n {F : Int → hr_St → Int × hr_St} {g : Int → Bool} {r : Nat} {m : Int} {st : hr_St} (h : g m = false) : hr_fq F g (r + 1) m st = hr_fq F g r (m + 1) st := by
  show (if g m = false then _ else _) = _
  rw [if_pos h]
theorem hr_fq_z {F : Int → hr_St → Int × hr_St} {g : Int → Bool} {r : Nat} {m : Int} {st : hr_St} (h : ¬ g m = false) (h2 : st.1 = 0) : hr_fq F g (r + 1) m st = (0, st) := by
  show (if g m = false then _ else if st.1 = 0 then _ else _) = _
  rw [if_neg h, if_pos h2]
theorem hr_fq_s {F : Int → hr_St → Int × hr_St} {g : Int → Bool} {r : Nat} {m : Int} {st : hr_St} (h : ¬ g m = false) (h2 : ¬ st.1 = 0) : hr_fq F g (r + 1) m st = if (F m (st.1 - 1, st.2)).1 = 0 then (0, (F m (st.1 - 1, st.2)).2) else hr_fq F g r (m + 1) (F m (st.1 - 1, st.2)).2 := by
  show (if g m = false then _ else if st.1 = 0 then _ else _) = _
  rw [if_neg h, if_neg h2]
set_option maxHeartbeats 2000000 in
theorem c_seekFrom {s : Int → Int} {T N : Nat} (hT : s 11 = T) (hNn : s 4 = N) : ∀ (k : Nat), k ≤ T → ∀ {d : Nat} {σ : hh_S} {left ch : Int → Int} {cost : Int} {st : hr_St} {Q : Int → hh_S → Prop}, hr_P σ s → hr_K σ s → (∀ t p : Int, 0 ≤ t → t < T → 0 ≤ p → p < N → σ 118 (t * 8 + p) = if hr_my s t p then 1 else 0) → (∀ p : Int, 0 ≤ p → p < N → σ 119 p = left p ∧ 0 ≤ left p ∧ left p ≤ 9999) → (∀ i : Int, 0 ≤ i → i < (T : Int) - k → σ 120 i = ch i) → hr_ps1 σ T st → (0 ≤ st.1 ∧ st.1 ≤ 30000 ∧ -1 ≤ st.2.1) → (0 ≤ cost ∧ cost ≤ 99800 * ((T : Int) - k)) → (∀ ρ : hh_S, (∀ r : Nat, r ≠ 117 → r ≠ 119 → r ≠ 120 → r ≠ 121 → ρ r = σ r) → ((hr_sk s T N k left ch cost st).1 = 1 → (∀ p : Int, 0 ≤ p → p < N → ρ 119 p = left p) ∧ ∀ i : Int, 0 ≤ i → i < (T : Int) - k → ρ 120 i = ch i) → hr_ps1 ρ T (hr_sk s T N k left ch cost st).2 → (0 ≤ (hr_sk s T N k left ch cost st).2.1 ∧ (hr_sk s T N k left ch cost st).2.1 ≤ 30000 ∧ -1 ≤ (hr_sk s T N k left ch cost st).2.2.1) → ((hr_sk s T N k left ch cost st).1 = 0 ∨ (hr_sk s T N k left ch cost st).1 = 1) → Q (hr_sk s T N k left ch cost st).1 ρ) → hh_Sp (d + k + 3) hm_X7_seekFrom [hh_R 117, hh_I ((T : Int) - k), hh_I cost] σ Q
  | 0, _, d, σ, left, ch, cost, st, Q, hP, hK, hmay, hleft, hch, hps, hst, hcost, hq => by
    have k1 := hK.1
    refine wp_X7_seekFrom _ _ (fun _ _ _ => ?_)
    unfold P_X7_seekFrom
    refine ⟨fun _ => ?_, fun z => by omega⟩
    unfold B_X7_seekFrom_20
    refine c_takeIfLess (T := T) (ch := ch) (st := st) (by omega) hcost.1 hps hst.2.2 (fun i i1 i2 => hch i i1 (by omega)) (fun ρ r1 h1 => ?_)
    refine hq ρ (fun r q1 q2 q3 q4 => r1 r q1 q4) (fun _ => ⟨fun p p1 p2 => by rw [r1 119 (by omega) (by omega)]; exact (hleft p p1 p2).1, fun i i1 i2 => by rw [r1 120 (by omega) (by omega)]; exact hch i i1 i2⟩) h1 ?_ (Or.inr rfl)
    show 0 ≤ (if _ then _ else _ : hr_St).1 ∧ (if _ then _ else _ : hr_St).1 ≤ 30000 ∧ -1 ≤ (if _ then _ else _ : hr_St).2.1
    split
    · exact ⟨hst.1, hst.2.1, by show -1 ≤ cost; omega⟩
    · exact hst
  | k + 1, hkT, d, σ, left, ch, cost, st, Q, hP, hK, hmay, hleft, hch, hps, hst, hcost, hq => by
    have k1 := hK.1
    have p1 := hP.1
    obtain ⟨t, ht⟩ : ∃ t : Int, t = (T : Int) - ((k : Int) + 1) := ⟨_, rfl⟩
    have et : (T : Int) - ((k + 1 : Nat) : Int) = t := by omega
    have kt := hK.2 t (by omega) (by omega)
    obtain ⟨F, hF⟩ : ∃ F : Int → hr_St → Int × hr_St, F = fun p st => hr_sk s T N k (hr_ud left p (left p - s (1822 + 3 * t + 1))) (hr_ud ch t p) (cost + hr_co s t p) st := ⟨_, rfl⟩
    obtain ⟨g, hg⟩ : ∃ g : Int → Bool, g = fun p => decide (hr_my s t p ∧ s (1822 + 3 * t + 1) ≤ left p) := ⟨_, rfl⟩
    have ER : hr_sk s T N (k + 1) left ch cost st = hr_fq F g N 0 st := by rw [hF, hg, ht]; rfl
    rw [ER] at hq
    rw [et] at hch hcost hq ⊢
    obtain ⟨R, hR⟩ : ∃ R : Int × hr_St, R = hr_fq F g N 0 st := ⟨_, rfl⟩
    rw [← hR] at hq
    refine wp_X7_seekFrom _ _ (fun _ _ _ => ?_)
    unfold P_X7_seekFrom
    refine ⟨fun z => by omega, fun _ => ⟨fun _ => ⟨by omega, ?_⟩, fun z => by omega⟩⟩
    rw [kt.2.1.1]
    refine hh_lp4_of (fun n x1 x2 x3 x4 τ => (x1 = t ∧ x2 = cost ∧ x3 = s (1822 + 3 * t + 1)) ∧ (∀ r : Nat, r ≠ 117 → r ≠ 119 → r ≠ 120 → r ≠ 121 → τ r = σ r) ∧ (∀ p : Int, 0 ≤ p → p < N → τ 119 p = left p) ∧ (∀ i : Int, 0 ≤ i → i < t → τ 120 i = ch i) ∧ ∃ m : Nat, ∃ st' : hr_St, (x4 = m ∧ m ≤ N ∧ N - m ≤ n) ∧ hr_ps1 τ T st' ∧ (0 ≤ st'.1 ∧ st'.1 ≤ 30000 ∧ -1 ≤ st'.2.1) ∧ R = hr_fq F g (N - m) m st') ?_ N t cost (s (1822 + 3 * t + 1)) 0 σ ⟨⟨rfl, rfl, rfl⟩, fun _ _ _ _ _ => rfl, fun p q1 q2 => (hleft p q1 q2).1, hch, 0, st, ⟨rfl, by omega, by omega⟩, hps, hst, hR⟩
    rintro n x1 x2 x3 x4 τ kk ⟨⟨rfl, rfl, rfl⟩, r1, l1, c1, m, st', ⟨rfl, f1, f2⟩, ps', bd, hRm⟩ hk
    have fp : ∀ r : Nat, (2 ≤ r ∧ r < 6) ∨ (50 ≤ r ∧ r < 54) → τ r = σ r := fun r hr => r1 r (by omega) (by omega) (by omega) (by omega)
    unfold B_X7_seekFrom_43
    rw [fp 2 (by omega), p1.1, hNn]
    refine ⟨fun z => ?_, fun z => ?_⟩
    · have em : N - m = 0 := by omega
      rw [em, hr_fq_0] at hRm
      rw [hRm] at hq
      exact hq τ r1 (fun _ => ⟨l1, c1⟩) ps' bd (Or.inr rfl)
    obtain ⟨r, hr⟩ : ∃ r : Nat, N - m = r + 1 := ⟨N - m - 1, by omega⟩
    rw [hr] at hRm
    have my := hmay x1 m (by omega) (by omega) (by omega) (by omega)
    have lm := hleft m (by omega) (by omega)
    have NX : ∀ (τ' : hh_S) (st2 : hr_St), (∀ r : Nat, r ≠ 117 → r ≠ 119 → r ≠ 120 → r ≠ 121 → τ' r = σ r) → (∀ p : Int, 0 ≤ p → p < N → τ' 119 p = left p) → (∀ i : Int, 0 ≤ i → i < x1 → τ' 120 i = ch i) → hr_ps1 τ' T st2 → (0 ≤ st2.1 ∧ st2.1 ≤ 30000 ∧ -1 ≤ st2.2.1) → R = hr_fq F g r (m + 1) st2 → B_X7_seekFrom_157 (d + (k + 1) + 2) Q kk x1 x2 (s (1822 + 3 * x1 + 1)) m τ' := by
      intro τ' st2 q1 q2 q3 q4 q5 q6
      unfold B_X7_seekFrom_157
      exact ⟨by omega, hk (n - 1) _ _ _ _ _ (by omega) ⟨⟨rfl, rfl, rfl⟩, q1, q2, q3, m + 1, st2, ⟨by omega, by omega, by omega⟩, q4, q5, by rw [show N - (m + 1) = r by omega]; exact q6⟩⟩
    rw [r1 118 (by omega) (by omega) (by omega) (by omega), my, l1 m (by omega) (by omega)]
    have NO : ¬ (hr_my s x1 m ∧ s (1822 + 3 * x1 + 1) ≤ left m) → B_X7_seekFrom_157 (d + (k + 1) + 2) Q kk x1 x2 (s (1822 + 3 * x1 + 1)) m τ := by
      intro y
      refine NX τ st' r1 l1 c1 ps' bd ?_
      rw [hRm, hr_fq_n (by rw [hg]; exact decide_eq_false y)]
    refine ⟨by omega, fun y => NO (fun w => by rw [if_pos w.1] at y; omega), fun y => ⟨by omega, fun y2 => ⟨fun y3 => ?_, fun y3 => ?_⟩, fun y2 => NO (fun w => y2 w.2)⟩⟩
    · have ym : hr_my s x1 m := Decidable.byContradiction (fun w => y (by rw [if_neg w]))
      have gm : ¬ g m = false := by rw [hg]; show ¬ decide _ = false; rw [decide_eq_true ⟨ym, y2⟩]; decide
      rw [ps'.1] at y3
      rw [hr_fq_s gm y3] at hRm
      rw [ps'.1]
      refine ⟨by omega, ?_⟩
      refine c_X7_costOf (s := s) (hP.cg (by rw [← fp 2 (by omega)]; rfl) (by rw [← fp 3 (by omega)]; rfl) (by rw [← fp 4 (by omega)]; rfl) (by rw [← fp 5 (by omega)]; rfl) (fun _ _ => rfl)) (hK.cg (by rw [← fp 50 (by omega)]; rfl) (by rw [← fp 51 (by omega)]; rfl) (by rw [← fp 52 (by omega)]; rfl) (by rw [← fp 53 (by omega)]; rfl) (Int.le_refl _) (fun _ _ => rfl)) (by omega) (by omega) (fun cb => ⟨by omega, ?_⟩)
      rw [show x1 + 1 = (T : Int) - k by omega]
      have FE : F m (st'.1 - 1, st'.2) = hr_sk s T N k (hr_ud left m (left m - s (1822 + 3 * x1 + 1))) (hr_ud ch x1 m) (x2 + hr_co s x1 m) (st'.1 - 1, st'.2) := by rw [hF]
      rw [FE] at hRm
      refine c_seekFrom hT hNn k (by omega) (s := s) (left := hr_ud left m (left m - s (1822 + 3 * x1 + 1))) (ch := hr_ud ch x1 m) (st := (st'.1 - 1, st'.2)) (hP.cg (by rw [← fp 2 (by omega)]; rfl) (by rw [← fp 3 (by omega)]; rfl) (by rw [← fp 4 (by omega)]; rfl) (by rw [← fp 5 (by omega)]; rfl) (fun _ _ => rfl)) (hK.cg (by rw [← fp 50 (by omega)]; rfl) (by rw [← fp 51 (by omega)]; rfl) (by rw [← fp 52 (by omega)]; rfl) (by rw [← fp 53 (by omega)]; rfl) (Int.le_refl _) (fun _ _ => rfl)) (fun t p t1 t2 t3 t4 => ?_) (fun p t1 t2 => ?_) (fun i i1 i2 => ?_) ⟨?_, ?_, fun ne i i1 i2 => ?_⟩ ⟨by show 0 ≤ st'.1 - 1; omega, by show st'.1 - 1 ≤ 30000; omega, bd.2.2⟩ (by omega) (fun ρ q1 q2 q3 q4 q5 => ?_)
      · rw [hh_up_ne (by omega), hh_up_ne (by omega), hh_up_ne (by omega), r1 118 (by omega) (by omega) (by omega) (by omega)]
        exact hmay t p t1 t2 t3 t4
      · rw [hh_up_ne (by omega), hh_up_eq]
        show (if p = (m : Int) then _ else _) = (if p = (m : Int) then _ else _) ∧ 0 ≤ (if p = (m : Int) then _ else _) ∧ (if p = (m : Int) then _ else _) ≤ 9999
        by_cases w : p = m
        · rw [if_pos w, if_pos w]; omega
        · rw [if_neg w, if_neg w, hh_up_ne (by omega), l1 p t1 t2]
          exact ⟨rfl, (hleft p t1 t2).2⟩
      · rw [hh_up_eq]
        show (if i = x1 then _ else _) = (if i = x1 then _ else _)
        by_cases w : i = x1
        · rw [if_pos w, if_pos w]
        · rw [if_neg w, if_neg w, hh_up_ne (by omega), hh_up_ne (by omega)]
          exact c1 i i1 (by omega)
      · rw [hh_up_ne (by omega), hh_up_ne (by omega), hh_up_at]
      · rw [hh_up_ne (by omega), hh_up_ne (by omega), hh_up_off (by omega)]
        exact ps'.2.1
      · rw [hh_up_ne (by omega), hh_up_ne (by omega), hh_up_ne (by omega)]
        exact ps'.2.2 ne i i1 i2
      · generalize hr_sk s T N k (hr_ud left m (left m - s (1822 + 3 * x1 + 1))) (hr_ud ch x1 m) (x2 + hr_co s x1 m) (st'.1 - 1, st'.2) = X at q2 q3 q4 q5 hRm ⊢
        have fr : ∀ r : Nat, r ≠ 117 → r ≠ 119 → r ≠ 120 → r ≠ 121 → ρ r = σ r := fun r w1 w2 w3 w4 => by rw [q1 r w1 w2 w3 w4, hh_up_ne w3, hh_up_ne w2, hh_up_ne w1, r1 r w1 w2 w3 w4]
        refine ⟨fun y4 => ?_, fun y4 => ?_⟩
        · have x1' : X.1 = 1 := by omega
          have q2' := q2 x1'
          rw [if_neg y4] at hRm
          have lp := q2'.1 m (by omega) (by omega)
          have lq : hr_ud left m (left m - s (1822 + 3 * x1 + 1)) m = left m - s (1822 + 3 * x1 + 1) := by unfold hr_ud; rw [if_pos rfl]
          rw [lq] at lp
          rw [lp]
          refine ⟨by omega, NX _ X.2 (fun r w1 w2 w3 w4 => by rw [hh_up_ne w2]; exact fr r w1 w2 w3 w4) (fun p w1 w2 => ?_) (fun i w1 w2 => ?_) ⟨by rw [hh_up_ne (by omega)]; exact q3.1, by rw [hh_up_ne (by omega)]; exact q3.2.1, by rw [hh_up_ne (by omega)]; exact q3.2.2⟩ q4 hRm⟩
          · by_cases w : p = m
            · rw [w, hh_up_at]; omega
            · rw [hh_up_off w, q2'.1 p w1 w2]
              unfold hr_ud
              rw [if_neg w]
          · rw [hh_up_ne (by omega), q2'.2 i w1 (by omega)]
            unfold hr_ud
            rw [if_neg (by omega)]
        · rw [if_pos y4] at hRm
          rw [hRm] at hq
          exact hq ρ fr (fun w => by have : (0 : Int) = 1 := w; omega) q3 q4 (Or.inl rfl)
    · have ym : hr_my s x1 m := Decidable.byContradiction (fun w => y (by rw [if_neg w]))
      have gm : ¬ g m = false := by rw [hg]; show ¬ decide _ = false; rw [decide_eq_true ⟨ym, y2⟩]; decide
      rw [ps'.1] at y3
      rw [hr_fq_z gm y3] at hRm
      rw [hRm] at hq
      exact hq τ r1 (fun w => by have : (0 : Int) = 1 := w; omega) ps' bd (Or.inl rfl)
