/-- what is worth in one month, of what counts -/
def hr_gm (s : Int → Int) (k kd mo : Int) : Int → Int := fun o => if s (250 + 12 * o + 2) / 30 = mo ∧ (kd = 2 ∨ s (250 + 12 * o + 5) ≠ 5) then hr_wo s o k else 0
def hr_cap (s : Int → Int) (k kd fee : Int) (O : Int → Int) (i : Nat) (mo left : Int) : Prop := (mo = -1 ∨ ∃ j : Int, 0 ≤ j ∧ j < i ∧ s (250 + 12 * O j + 2) / 30 = mo) ∧ (0 ≤ mo → left = hh_max (fee - hr_so O (hr_gm s k kd mo) i) 0) ∧ (∀ j : Int, 0 ≤ j → j < i → (kd = 2 ∨ s (250 + 12 * O j + 5) ≠ 5) → s (250 + 12 * O j + 2) / 30 ≤ mo)
/-- an entry that doesn't count leaves all as it is -/
theorem hr_cap.no {s : Int → Int} {k kd fee : Int} {O : Int → Int} {i : Nat} {mo left : Int} (h : hr_cap s k kd fee O i mo left) (z : ¬ (kd = 2 ∨ s (250 + 12 * O i + 5) ≠ 5)) : hr_cap s k kd fee O (i + 1) mo left := by
  obtain ⟨h1, h2, h3⟩ := h
  refine ⟨h1.imp id (fun ⟨j, j1, j2, j3⟩ => ⟨j, j1, by omega, j3⟩), fun y => ?_, fun j j1 j2 y => ?_⟩
  · rw [h2 y]
    show _ = hh_max (fee - (hr_so O (hr_gm s k kd mo) i + hr_gm s k kd mo (O i))) 0
    have e : hr_gm s k kd mo (O i) = 0 := by
      unfold hr_gm
      rw [if_neg (fun w => z w.2)]
    rw [e, Int.add_zero]
  · by_cases x : j = i
    · rw [x] at y
      exact absurd y z
    · exact h3 j j1 (by omega) y
set_option maxHeartbeats 2000000 in
theorem hr_cap.yes {s : Int → Int} {m k kd fee : Int} {O : Int → Int} {M N i : Nat} {mo left : Int} (ho : hr_ord s m k O M N) (hi : i < M) (h : hr_cap s k kd fee O i mo left) (hf : 0 ≤ fee) (hd : ∀ j : Int, 0 ≤ j → j < M → 0 ≤ s (250 + 12 * O j + 2)) (hw : ∀ j : Int, 0 ≤ j → j < M → 0 ≤ hr_wo s (O j) k) (z : kd = 2 ∨ s (250 + 12 * O i + 5) ≠ 5) (left' : Int) (hl : left' = if s (250 + 12 * O i + 2) / 30 = mo then left else fee) : left' = hh_max (fee - hr_so O (hr_gm s k kd (s (250 + 12 * O i + 2) / 30)) i) 0 ∧ hr_cap s k kd fee O (i + 1) (s (250 + 12 * O i + 2) / 30) (left' - hh_min (hr_wo s (O i) k) left') := by
  obtain ⟨h1, h2, h3⟩ := h
  have hi0 := hd i (by omega) (by omega)
  have hge : mo ≤ s (250 + 12 * O i + 2) / 30 := by
    rcases h1 with y | ⟨j, j1, j2, j3⟩
    · omega
    · have l := ho.2.2.1 j i j1 j2 (by omega)
      rw [← j3]
      omega
  have key : left' = hh_max (fee - hr_so O (hr_gm s k kd (s (250 + 12 * O i + 2) / 30)) i) 0 := by
    by_cases y : s (250 + 12 * O i + 2) / 30 = mo
    · rw [if_pos y] at hl
      rw [hl, y]
      exact h2 (by omega)
    · rw [if_neg y] at hl
      have e : hr_so O (hr_gm s k kd (s (250 + 12 * O i + 2) / 30)) i = 0 := by
        refine hr_so_tail (i := 0) i (by omega) (fun j j1 j2 => ?_)
        unfold hr_gm
        rw [if_neg]
        intro w
        have := h3 j (by omega) j2 w.2
        have w1 := w.1
        omega
      rw [e, hl]
      unfold hh_max
      split <;> omega
  refine ⟨key, Or.inr ⟨i, by omega, by omega, rfl⟩, fun _ => ?_, fun j j1 j2 y => ?_⟩
  · show _ = hh_max (fee - (hr_so O (hr_gm s k kd (s (250 + 12 * O i + 2) / 30)) i + hr_gm s k kd (s (250 + 12 * O i + 2) / 30) (O i))) 0
    have e : hr_gm s k kd (s (250 + 12 * O i + 2) / 30) (O i) = hr_wo s (O i) k := by
      unfold hr_gm
      rw [if_pos ⟨rfl, z⟩]
    have w0 := hw i (by omega) (by omega)
    rw [e, key]
    generalize hr_so O (hr_gm s k kd (s (250 + 12 * O i + 2) / 30)) i = X
    generalize hr_wo s (O i) k = W at w0 ⊢
    unfold hh_max hh_min
    repeat' split
    all_goals omega
  · by_cases x : j = i
    · rw [x]; omega
    · have := h3 j j1 (by omega) y
      omega
set_option maxHeartbeats 2000000 in
theorem c_chargeMatter {d : Nat} {σ : hh_S} {s : Int → Int} {m k : Int} {Q : Int → hh_S → Prop} (h : hr_N σ s) (hm : 0 ≤ m ∧ m < s 6) (hq : ∀ ρ : hh_S, (∀ r : Nat, r ≠ 113 → r ≠ 114 → r ≠ 116 → ρ r = σ r) → (∀ e : Nat, (e : Int) < s 7 → hr_q s m k e → ρ 116 e = hr_ch s e k m (s (50 + 20 * m))) → Q (hr_se s m k (fun e => hr_ch s e k m (s (50 + 20 * m))) (s 7).toNat) ρ) : hh_Sp (d + 7) hm_X10_chargeMatter [hh_R 112, hh_I m, hh_I k] σ Q := by
  have h' := h
  obtain ⟨hU, hP, hC, hM, hE, hD, hB, hK, hT⟩ := h'
  have e1 := hE.1
  have m1 := hM.1
  have hm1 := (hM.2 _ hm.1 hm.2).1
  refine wp_X10_chargeMatter _ _ (fun _ _ _ => ?_)
  unfold P_X10_chargeMatter
  refine ⟨by omega, ?_⟩
  obtain ⟨kd, hkd⟩ : ∃ kd : Int, kd = s (50 + 20 * m) := ⟨_, rfl⟩
  rw [← hkd] at hq hm1
  rw [hm1.1.1]
  have MAIN : ∀ c4 : Int, (¬ c4 = 0 → kd = 2 ∨ kd = 3) → (c4 = 0 → kd = 0 ∨ kd = 1) → hh_Sp (d + 6) hm_X10_putInOrder [hh_R 112, hh_I m, hh_I k] σ (fun r30 σ30 => ∃ n, hh_lp9 (B_X10_chargeMatter_47 (d + 6) Q) n m k kd c4 r30 (-1) 0 0 0 σ30) := by
    intro c4 hc1 hc2
    refine c_putInOrder hE (fun π M r0 ho => ?_)
    obtain ⟨O, hO⟩ : ∃ O : Int → Int, O = π 114 := ⟨_, rfl⟩
    rw [← hO] at ho
    have hMN := ho.1
    have ob : ∀ i : Int, 0 ≤ i → i < M → (0 ≤ O i ∧ O i < s 7) ∧ hr_q s m k (O i) := fun i i1 i2 => ⟨by have := ho.2.1 i i1 i2; omega, (ho.2.1 i i1 i2).2⟩
    have cb : ∀ i : Int, 0 ≤ i → i < M → 0 ≤ hr_ch s (O i) k m kd ∧ hr_ch s (O i) k m kd ≤ 239976 := fun i i1 i2 => hr_ch_b h (ob i i1 i2).1
    refine hh_lp9_of (fun n x1 x2 x3 x4 x5 x6 x7 x8 x9 τ => (x1 = m ∧ x2 = k ∧ x3 = kd ∧ x4 = c4 ∧ x5 = M) ∧ (∀ r : Nat, r ≠ 113 → r ≠ 116 → τ r = π r) ∧ ∃ i : Nat, (x9 = i ∧ i ≤ M ∧ M - i ≤ n ∧ x8 = hr_so O (fun e => hr_ch s e k m kd) i) ∧ (∀ j : Int, 0 ≤ j → j < i → τ 116 (O j) = hr_ch s (O j) k m kd) ∧ (¬ c4 = 0 → hr_cap s k kd (s (50 + 20 * m + 2)) O i x6 x7)) ?_ M m k kd c4 M (-1) 0 0 0 π ⟨⟨rfl, rfl, rfl, rfl, rfl⟩, fun _ _ _ => rfl, 0, ⟨rfl, by omega, by omega, rfl⟩, fun j j1 j2 => by omega, fun _ => ⟨Or.inl rfl, fun y => by omega, fun j j1 j2 => by omega⟩⟩
    rintro n x1 x2 x3 x4 x5 x6 x7 x8 x9 τ kk ⟨⟨rfl, rfl, rfl, rfl, rfl⟩, r1, i, ⟨rfl, f1, f2, rfl⟩, g1, g2⟩ hk
    have fr : ∀ r : Nat, r ≠ 113 → r ≠ 114 → r ≠ 116 → τ r = σ r := fun r q1 q2 q3 => by rw [r1 r q1 q3, r0 r q2]
    unfold B_X10_chargeMatter_47
    refine ⟨fun c => ?_, fun c => ⟨by omega, ?_⟩⟩
    · have hiM : i = M := by omega
      rw [hiM, ho.2.2.2]
      refine hq τ fr (fun e e2 e3 => ?_)
      have s1 := ho.2.2.2 (fun o => if o = (e : Int) then 1 else 0)
      have ex : ∃ j : Int, 0 ≤ j ∧ j < M ∧ O j = e := by
        refine Classical.byContradiction (fun hn => ?_)
        have z0 : hr_so O (fun o => if o = (e : Int) then 1 else 0) M = 0 := by
          refine hr_so_tail (i := 0) M (by omega) (fun j j1 j2 => ?_)
          show (if O j = (e : Int) then 1 else 0) = (0 : Int)
          rw [if_neg (fun y => hn ⟨j, by omega, j2, y⟩)]
        have z1 := hr_se_mono (s := s) (m := x1) (k := x2) (g := fun o => if o = (e : Int) then 1 else 0) (N := (s 7).toNat) (fun o _ => by show 0 ≤ (if (o : Int) = (e : Int) then (1 : Int) else 0); split <;> omega) (a := e + 1) (s 7).toNat (by omega) (by omega)
        have z2 : hr_se s x1 x2 (fun o => if o = (e : Int) then 1 else 0) (e + 1) = hr_se s x1 x2 (fun o => if o = (e : Int) then 1 else 0) e + 1 := by
          show _ + (if hr_q s x1 x2 e then (if (e : Int) = (e : Int) then (1 : Int) else 0) else 0) = _
          rw [if_pos e3, if_pos rfl]
        have z3 := hr_se_mono (s := s) (m := x1) (k := x2) (g := fun o => if o = (e : Int) then 1 else 0) (N := (s 7).toNat) (fun o _ => by show 0 ≤ (if (o : Int) = (e : Int) then (1 : Int) else 0); split <;> omega) (a := 0) e (by omega) (by omega)
        have z4 : hr_se s x1 x2 (fun o => if o = (e : Int) then 1 else 0) 0 = 0 := rfl
        omega
      obtain ⟨j, j1, j2, j3⟩ := ex
      rw [← j3]
      exact g1 j j1 (by omega)
    have oi := ob i (by omega) (by omega)
    have ci := cb i (by omega) (by omega)
    obtain ⟨⟨w1, w2, w3, w4, w5, w6, w7⟩, w8, w10⟩ := hE.2 (O i) oi.1.1 oi.1.2
    have bs := hr_so_b (O := O) (g := fun e => hr_ch s e x2 x1 x3) (c := 239976) i (fun j j1 j2 => cb j j1 (by omega))
    have tO : τ 114 i = O i := by rw [r1 114 (by omega) (by omega), hO]
    rw [tO]
    have NX : ∀ (τ' : hh_S) (y6 y7 : Int), (∀ r : Nat, r ≠ 113 → τ' r = τ r) → ∀ c : Int, c = hr_ch s (O i) x2 x1 x3 → (¬ x4 = 0 → hr_cap s x2 x3 (s (50 + 20 * x1 + 2)) O (i + 1) y6 y7) → B_X10_chargeMatter_189 (d + 6) Q kk x1 x2 x3 x4 M y6 y7 (hr_so O (fun e => hr_ch s e x2 x1 x3) i) i (O i) c τ' := by
      intro τ' y6 y7 t1 c hc hcap
      unfold B_X10_chargeMatter_189
      rw [hc]
      refine ⟨by omega, hk (n - 1) _ _ _ _ _ _ _ _ _ _ (by omega) ⟨⟨rfl, rfl, rfl, rfl, rfl⟩, fun r q1 q2 => by rw [hh_up_ne q2, t1 r q1, r1 r q1 q2], i + 1, ⟨by omega, by omega, by omega, rfl⟩, fun j j1 j2 => ?_, hcap⟩⟩
      by_cases y : j = i
      · rw [y, hh_up_at]
      · have l := ho.2.2.1 j i j1 (by omega) (by omega)
        have ne : O j ≠ O i := fun y => by rw [y] at l; omega
        rw [hh_up_off ne, t1 116 (by omega)]
        exact g1 j j1 (by omega)
    have hgm : hr_se s x1 x2 (hr_ga s (O i) x2 x3) (s 7).toNat = hr_so O (hr_gm s x2 x3 (s (250 + 12 * O i + 2) / 30)) i := by
      rw [← ho.2.2.2, hr_so_tail (i := i) M (by omega) (fun j j1 j2 => ?_)]
      · refine hr_so_cg i (fun j j1 j2 => ?_)
        have l := ho.2.2.1 j i j1 j2 (by omega)
        unfold hr_ga hr_gm
        by_cases y : s (250 + 12 * O j + 2) / 30 = s (250 + 12 * O i + 2) / 30 ∧ (x3 = 2 ∨ s (250 + 12 * O j + 5) ≠ 5)
        · rw [if_pos y, if_pos ⟨⟨l, y.1⟩, y.2⟩]
        · rw [if_neg y, if_neg (fun x => y ⟨x.1.2, x.2⟩)]
      · unfold hr_ga
        rw [if_neg]
        intro y
        have y1 := y.1.1
        by_cases x : j = i
        · rw [x] at y1
          omega
        · have l := ho.2.2.1 i j (by omega) (by omega) j2
          have l' : s (250 + 12 * O i + 2) < s (250 + 12 * O j + 2) ∨ (s (250 + 12 * O i + 2) = s (250 + 12 * O j + 2) ∧ O i < O j) := l
          omega
    have A79 : ∀ (τ' : hh_S) (c : Int), (∀ r : Nat, r ≠ 113 → τ' r = τ r) → (c = if x3 = 1 then 0 else hr_wo s (O i) x2) → B_X10_chargeMatter_79 (d + 6) Q kk x1 x2 x3 x4 M x6 x7 (hr_so O (fun e => hr_ch s e x2 x1 x3) i) i (O i) c τ' := by
      intro τ' c t1 hc
      have A0 : x4 = 0 → c = hr_ch s (O i) x2 x1 x3 := by
        intro y
        rw [hc]
        unfold hr_ch
        rcases hc2 y with z | z
        · rw [if_neg (by omega), if_neg (by omega), if_pos (Or.inl z)]
        · rw [if_pos z, if_pos z]
      have AS : ∀ s0 : Int, (¬ s0 = 0 → x3 = 3 ∧ s (250 + 12 * O i + 5) = 5) → (s0 = 0 → ¬ (x3 = 3 ∧ s (250 + 12 * O i + 5) = 5)) → B_X10_chargeMatter_108 (d + 6) Q kk x1 x2 x3 x4 M x6 x7 (hr_so O (fun e => hr_ch s e x2 x1 x3) i) i (O i) c s0 τ' := by
        intro s0 a1 a2
        unfold B_X10_chargeMatter_108
        refine ⟨fun y => NX τ' _ _ t1 c (A0 y) (fun y2 => absurd y y2), fun y => ⟨fun y2 => ?_, fun y2 => ?_⟩⟩
        · have as := a1 y2
          refine NX τ' _ _ t1 c ?_ (fun y3 => (g2 y3).no (by omega))
          rw [hc]
          unfold hr_ch
          rw [if_neg (by omega), if_neg (by omega), if_pos (Or.inr as)]
        · have na := a2 y2
          have kk3 := hc1 y
          have zc : x3 = 2 ∨ s (250 + 12 * O i + 5) ≠ 5 := by omega
          rw [if_neg (by omega)] at hc
          have F : ∀ y7 : Int, (y7 = if s (250 + 12 * O i + 2) / 30 = x6 then x7 else s (50 + 20 * x1 + 2)) → B_X10_chargeMatter_173 (d + 6) Q kk x1 x2 x3 x4 M (s (250 + 12 * O i + 2) / 30) y7 (hr_so O (fun e => hr_ch s e x2 x1 x3) i) i (O i) c τ' := by
            intro y7 hy7
            have Y := hr_cap.yes ho (by omega) (g2 y) (by omega) (fun j j1 j2 => (hE.2 (O j) (ob j j1 j2).1.1 (ob j j1 j2).1.2).1.2.2.1.2.1) (fun j j1 j2 => (hr_wo_b h (ob j j1 j2).1).2.1) zc y7 hy7
            have bw := (hr_wo_b (k := x2) h oi.1).2
            have y7b : 0 ≤ y7 := by
              rw [Y.1]
              unfold hh_max
              split <;> omega
            have y7c : y7 ≤ 99999 := by
              rw [Y.1]
              have sb := hr_so_b (O := O) (g := hr_gm s x2 x3 (s (250 + 12 * O i + 2) / 30)) (c := 239976) i (fun j j1 j2 => by
                have := (hr_wo_b (k := x2) h (ob j j1 (by omega)).1).2
                unfold hr_gm
                split <;> omega)
              unfold hh_max
              split <;> omega
            unfold B_X10_chargeMatter_173
            rw [hc]
            refine ⟨?_, NX τ' _ _ t1 _ ?_ (fun _ => Y.2)⟩
            · unfold hh_min
              split <;> omega
            · unfold hr_ch
              rw [if_neg (by omega), if_neg (by omega), hgm, ← Y.1]
          rw [t1 27 (by omega), fr 27 (by omega) (by omega) (by omega), w3.1, t1 16 (by omega), fr 16 (by omega) (by omega) (by omega), hm1.2.2.1.1]
          refine ⟨by omega, fun y3 => ?_, fun y3 => ⟨by omega, F _ (by rw [if_neg y3])⟩⟩
          have := F x7 (by rw [if_pos y3])
          rw [y3] at this
          exact this
      unfold B_X10_chargeMatter_79 B_X10_chargeMatter_107
      rw [t1 30 (by omega), fr 30 (by omega) (by omega) (by omega), w6.1]
      exact ⟨fun y => AS 0 (fun x => by omega) (fun _ x => y x.1), fun y => ⟨by omega, fun y2 => AS 0 (fun x => by omega) (fun _ x => y2 x.2), fun y2 => AS 1 (fun _ => ⟨y, y2⟩) (fun x => by omega)⟩⟩
    refine ⟨fun y => ?_, fun y => A79 τ 0 (fun _ _ => rfl) (by rw [if_pos y])⟩
    refine c_X10_worthOf (h.cg (fun r q1 q2 => fr r (by omega) (by omega) (by omega)) (fun _ _ _ => rfl)) oi.1 (fun ρ t1 => A79 ρ _ t1 (by rw [if_neg y]))
  refine c_X5_isUnder (by omega) (fun z => MAIN 1 (fun _ => ?_) (fun y => by omega)) (fun z => MAIN 0 (fun y => by omega) (fun _ => ?_)) <;> rw [hm1.1.1] at z <;> omega
