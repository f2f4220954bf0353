/-! terms -/
theorem hr_ow {f g : Int → Int} {o0 a : Int} : ∀ l : hr_wl, hr_ol f o0 l → hr_orl g a l → ∀ k : Int, 0 ≤ k → k < l.length → hr_wd (f (o0 + k)) (g (a + 1 + 2 * k)) (g (a + 2 + 2 * k))
  | [], _, _, k, k1, k2 => by have : k < 0 := k2; omega
  | p :: l, h1, h2, k, k1, k2 => by
    rw [List.length_cons] at k2
    rcases (show k < l.length ∨ k = l.length by omega) with z | z
    · exact hr_ow l h1.2 h2.2.2 k k1 z
    · rw [z, h2.1, h2.2.1]; exact h1.1
theorem hr_ol_dp {f : Int → Int} {o0 : Int} : ∀ l : hr_wl, hr_ol f o0 l → hr_dp (fun i => f (o0 + i)) l.length = hr_ld l
  | [], _ => rfl
  | p :: l, h => by
    have i := hr_ol_dp l h.2
    show hr_dp (fun i => f (o0 + i)) l.length + (if 0 ≤ f (o0 + l.length) then 1 else if f (o0 + l.length) = -33 then 0 else -1) = hr_ld l + (if p.1 = 1 ∨ p.1 = 2 then 1 else if p.1 = 3 then 0 else -1)
    rw [i]
    rcases h.1 with ⟨w, c, v1, v2⟩ | ⟨w, c, v⟩ | ⟨w, c⟩ | ⟨w, c⟩
    · rw [if_pos (Or.inl w), if_pos (by omega)]
    · unfold hr_isnm at v
      rw [if_pos (Or.inr w), if_pos (by omega)]
    · rw [if_neg (by omega), if_pos c, if_neg (by omega), if_pos w]
    · have e : hr_op p.1 < 0 ∧ hr_op p.1 ≠ -33 := by
        unfold hr_isop at w
        rcases w with w | w | w | w | w | w | w | w | w <;> (rw [w]; decide)
      unfold hr_isop at w
      rw [if_neg (by omega), if_neg (by omega), if_neg (by omega), if_neg (by omega)]
theorem hr_ol_at {f : Int → Int} {o0 : Int} : ∀ l : hr_wl, hr_ol f o0 l → hr_lw l → ∀ k : Nat, k < l.length → (f (o0 + k) = -33 → 1 ≤ hr_dp (fun i => f (o0 + i)) k) ∧ (f (o0 + k) < 0 → f (o0 + k) ≠ -33 → 2 ≤ hr_dp (fun i => f (o0 + i)) k)
  | [], _, _, k, kk => absurd kk (Nat.not_lt_zero k)
  | p :: l, h, w, k, kk => by
    rw [List.length_cons] at kk
    rcases (show k < l.length ∨ k = l.length by omega) with z | z
    · exact hr_ol_at l h.2 w.2.2 k z
    · subst z
      rw [hr_ol_dp l h.2]
      have w1 := w.1
      have w2 := w.2.1
      rcases h.1 with ⟨y, c, v1, v2⟩ | ⟨y, c, v⟩ | ⟨y, c⟩ | ⟨y, c⟩
      · omega
      · unfold hr_isnm at v
        omega
      · exact ⟨fun _ => w1 y, fun _ q => absurd c q⟩
      · have e : hr_op p.1 < 0 ∧ hr_op p.1 ≠ -33 := by
          unfold hr_isop at y
          rcases y with y | y | y | y | y | y | y | y | y <;> (rw [y]; decide)
        unfold hr_isop at y
        exact ⟨fun q => by omega, fun _ _ => w2 (by omega) (by omega) (by omega)⟩
theorem hr_wf_of {f : Int → Int} {o0 : Int} {l : hr_wl} (h : hr_ol f o0 l) (w : hr_lw l) (d : hr_ld l = 1) : hr_wf (fun i => f (o0 + i)) l.length := by
  refine ⟨fun k kk => hr_ol_at l h w k (by omega), ?_⟩
  rw [show ((l.length : Int)).toNat = l.length by omega, hr_ol_dp l h]
  exact d
theorem hr_ct_z {s : Int → Int} {c : Int} : ∀ n : Nat, (∀ t : Nat, t < n → s (1840 + 484 * t) ≠ c) → hr_ct s c n = 0
  | 0, _ => rfl
  | n + 1, h => by
    show hr_ct s c n + _ = 0
    rw [hr_ct_z n (fun t t1 => h t (by omega)), if_neg (h n (by omega))]
    rfl
theorem hr_ct_all {s : Int → Int} : ∀ n : Nat, (∀ t : Nat, t < n → 0 ≤ s (1840 + 484 * t) ∧ s (1840 + 484 * t) < 5) → hr_ct s 0 n + hr_ct s 1 n + hr_ct s 2 n + hr_ct s 3 n + hr_ct s 4 n = n
  | 0, _ => rfl
  | n + 1, h => by
    have i := hr_ct_all n (fun t t1 => h t (by omega))
    have hn := h n (by omega)
    have E : ∀ c : Int, hr_ct s c (n + 1) = hr_ct s c n + (if s (1840 + 484 * (n : Int)) = c then 1 else 0) := fun _ => rfl
    rw [E, E, E, E, E]
    rcases (show s (1840 + 484 * (n : Int)) = 0 ∨ s (1840 + 484 * (n : Int)) = 1 ∨ s (1840 + 484 * (n : Int)) = 2 ∨ s (1840 + 484 * (n : Int)) = 3 ∨ s (1840 + 484 * (n : Int)) = 4 by omega) with z | z | z | z | z
    all_goals (rw [z]; simp only [show ¬ (0 : Int) = 1 by decide, show ¬ (0 : Int) = 2 by decide, show ¬ (0 : Int) = 3 by decide, show ¬ (0 : Int) = 4 by decide, show ¬ (1 : Int) = 0 by decide, show ¬ (1 : Int) = 2 by decide, show ¬ (1 : Int) = 3 by decide, show ¬ (1 : Int) = 4 by decide, show ¬ (2 : Int) = 0 by decide, show ¬ (2 : Int) = 1 by decide, show ¬ (2 : Int) = 3 by decide, show ¬ (2 : Int) = 4 by decide, show ¬ (3 : Int) = 0 by decide, show ¬ (3 : Int) = 1 by decide, show ¬ (3 : Int) = 2 by decide, show ¬ (3 : Int) = 4 by decide, show ¬ (4 : Int) = 0 by decide, show ¬ (4 : Int) = 1 by decide, show ¬ (4 : Int) = 2 by decide, show ¬ (4 : Int) = 3 by decide, if_false, if_true]; omega)
theorem hr_T.room {σ : hh_S} {s : Int → Int} (hT : hr_T σ s) (h5 : s 5 ≤ 5) {c : Int} (c1 : 0 ≤ c) (c2 : c < s 5) (h3 : hr_ct s c (s 9).toNat ≠ 3) : s 9 ≤ 14 := by
  have t1 := hT.1
  have cl : ∀ t : Nat, t < (s 9).toNat → 0 ≤ s (1840 + 484 * t) ∧ s (1840 + 484 * t) < s 5 := fun t ht => (hT.2.2 t (by omega)).1
  have sm := hr_ct_all (s := s) (s 9).toNat (fun t ht => by have := cl t ht; omega)
  have B : ∀ c' : Int, 0 ≤ c' → hr_ct s c' (s 9).toNat ≤ 3 := by
    intro c' z
    by_cases y : c' < s 5
    · exact (hT.2.1 c' z y).2
    · rw [hr_ct_z _ (fun t ht w => by have := cl t ht; omega)]
      omega
  have b0 := B 0 (by omega)
  have b1 := B 1 (by omega)
  have b2 := B 2 (by omega)
  have b3 := B 3 (by omega)
  have b4 := B 4 (by omega)
  rcases (show c = 0 ∨ c = 1 ∨ c = 2 ∨ c = 3 ∨ c = 4 by omega) with z | z | z | z | z <;> (rw [z] at h3; omega)
theorem hr_T.add {σ σ' : hh_S} {s s' : Int → Int} {c day q : Int} {n : Nat} (hT : hr_T σ s) (hn : s 9 = n) (h5 : s 5 ≤ 5) (c1 : 0 ≤ c) (c2 : c < s 5) (hd : 0 ≤ day ∧ day ≤ 900) (h3 : hr_ct s c n < 3) (hq : q = 3 * c + hr_ct s c n)
    (e9 : s' 9 = s 9 + 1) (e5 : s' 5 = s 5) (es : ∀ k : Int, 1840 ≤ k → k < 1840 + 484 * n → s' k = s k) (eb : s' (1840 + 484 * n) = c ∧ s' (1840 + 484 * n + 1) = day)
    (g8 : ∀ j : Int, σ' 8 j = if j = c then σ 8 c + 1 else σ 8 j) (g9 : ∀ j : Int, σ' 9 j = if j = q then day else σ 9 j) (g10 : ∀ j : Int, j ≠ q → σ' 10 j = σ 10 j ∧ σ' 11 j = σ 11 j) (g12 : ∀ j : Int, j < 120 * q ∨ 120 * q + 120 ≤ j → σ' 12 j = σ 12 j) (tx : hr_tx σ' s' q (1840 + 484 * n + 2)) : hr_T σ' s' := by
  have hT' := hT
  obtain ⟨t1, t2, t3⟩ := hT'
  have nT : (s 9).toNat = n := by omega
  rw [nT] at t2
  have r14 := hT.room h5 c1 c2 (by rw [nT]; omega)
  have CT : ∀ (c' : Int) (m : Nat), m ≤ n → hr_ct s' c' m = hr_ct s c' m := fun c' m hm => hr_ct.cg m (fun t ht => es _ (by omega) (by omega))
  have nn : (s' 9).toNat = n + 1 := by omega
  refine ⟨by omega, fun c' z1 z2 => ?_, fun t ht => ?_⟩
  · rw [e5] at z2
    rw [nn, g8]
    have E : hr_ct s' c' (n + 1) = hr_ct s' c' n + (if s' (1840 + 484 * (n : Int)) = c' then 1 else 0) := rfl
    rw [E, CT c' n (Nat.le_refl _), eb.1]
    have a := t2 c' z1 z2
    have ac := t2 c c1 c2
    by_cases w : c' = c
    · rw [if_pos w, if_pos w.symm, w]
      omega
    · rw [if_neg w, if_neg (fun y => w y.symm)]
      omega
  · rcases (show t < n ∨ t = n by omega) with z | z
    · have T1 := t3 t (by omega)
      have cl := T1.1
      have ct1 := hr_ct_nn s (s (1840 + 484 * (t : Int))) t
      have ct2 : hr_ct s (s (1840 + 484 * (t : Int))) (t + 1) ≤ hr_ct s (s (1840 + 484 * (t : Int))) n := hr_ct_mono s _ (by omega)
      have E : hr_ct s (s (1840 + 484 * (t : Int))) (t + 1) = hr_ct s (s (1840 + 484 * (t : Int))) t + 1 := by
        show hr_ct s (s (1840 + 484 * (t : Int))) t + (if s (1840 + 484 * (t : Int)) = s (1840 + 484 * (t : Int)) then 1 else 0) = _
        rw [if_pos rfl]
      have ct3 := (t2 _ cl.1 cl.2).2
      have cn := hr_ct_nn s c n
      have NE : ∀ q' : Int, q' = 3 * s (1840 + 484 * (t : Int)) + hr_ct s (s (1840 + 484 * (t : Int))) t → q' ≠ q := by
        intro q' hq' y
        by_cases w : s (1840 + 484 * (t : Int)) = c
        · rw [w] at hq' ct2 E ct1
          omega
        · omega
      refine T1.cg (fun q' hq' => ?_) (by omega) (fun k k1 k2 => es k k1 (by omega))
      have ne := NE q' hq'
      refine ⟨by rw [g9, if_neg ne], (g10 q' ne).1, (g10 q' ne).2, fun i i1 i2 => g12 _ ?_⟩
      rcases (show q' < q ∨ q < q' by omega) with w | w <;> omega
    · subst z
      unfold hr_T1
      rw [eb.1, eb.2, CT c t (Nat.le_refl _), ← hq, e5]
      exact ⟨⟨c1, c2⟩, ⟨by rw [g9, if_pos rfl], hd⟩, tx⟩
theorem c_termsOf {d : Nat} {σ : hh_S} {c : Int} {Q : Int → hh_S → Prop} (h : 0 ≤ σ 129 9 ∧ σ 129 9 ≤ 15) (hq : Q (hr_ct (σ 129) c (σ 129 9).toNat) σ) : hh_Sp (d + 1) hm_X12_termsOf [hh_R 128, hh_I c] σ Q := by
  refine wp_X12_termsOf _ (fun _ _ => ?_)
  refine hh_lp3_of (fun n x1 x2 x3 τ => τ = σ ∧ x1 = c ∧ ∃ t : Nat, x3 = t ∧ (t : Int) ≤ σ 129 9 ∧ x2 = hr_ct (σ 129) c t ∧ (σ 129 9).toNat - t ≤ n) ?_ 15 c 0 0 σ ⟨rfl, rfl, 0, rfl, by omega, rfl, by omega⟩
  rintro n x1 x2 x3 τ kk ⟨rfl, rfl, t, rfl, i1, rfl, i2⟩ hk
  have bd : ∀ m : Nat, 0 ≤ hr_ct (τ 129) x1 m ∧ hr_ct (τ 129) x1 m ≤ m := by
    intro m
    refine ⟨hr_ct_nn _ _ m, ?_⟩
    induction m with
    | zero => exact Int.le_refl _
    | succ m ih => show hr_ct (τ 129) x1 m + _ ≤ _; split <;> omega
  have bt := bd t
  unfold B_X12_termsOf_4 B_X12_termsOf_39
  refine ⟨fun z => ?_, fun z => ⟨by omega, fun y => ⟨by omega, hk (n - 1) _ _ _ _ (by omega) ⟨rfl, rfl, t + 1, by omega, by omega, ?_, by omega⟩⟩, fun y => ⟨by omega, hk (n - 1) _ _ _ _ (by omega) ⟨rfl, rfl, t + 1, by omega, by omega, ?_, by omega⟩⟩⟩⟩
  · rw [show (τ 129 9).toNat = t by omega] at hq
    exact hq
  · show _ = hr_ct (τ 129) x1 t + (if τ 129 (1840 + 484 * (t : Int)) = x1 then 1 else 0)
    rw [if_neg y]
  · show _ = hr_ct (τ 129) x1 t + (if τ 129 (1840 + 484 * (t : Int)) = x1 then 1 else 0)
    rw [if_pos y]
def hr_rt2 (τ ρ : hh_S) : Prop := (∀ r : Nat, r ≠ 128 → r ≠ 129 → r ≠ 134 → r ≠ 135 → ρ r = τ r) ∧ ρ 128 6 = 0 ∧ ρ 128 2 = τ 128 2 ∧ ρ 128 31 = τ 128 31
set_option maxHeartbeats 2000000 in
theorem c_rterms {τ : hh_S} {a1 a2 N : Int} {b : Int → Int} {Z : hr_zs} {n : Nat} {Q : Int → hh_S → Prop} (h5 : 0 ≤ τ 129 5 ∧ τ 129 5 ≤ 5) (ha : 0 ≤ a1 ∧ a1 < τ 129 5) (hd : 0 ≤ a2 ∧ a2 ≤ 900) (h6 : τ 128 6 = N ∧ 0 ≤ N ∧ N ≤ 120) (hb : τ 133 = b) (h9 : τ 129 9 = n ∧ n ≤ 15) (h14 : hr_ct (τ 129) a1 n ≠ 3 → n ≤ 14) (hZ : hr_Z b N Z) (hp : ∀ p : Int, Z = .inl p → 0 ≤ p ∧ p ≤ 120)
    (hB : ∀ (ρ : hh_S) (p : Int), Z = .inl p → hr_rt2 τ ρ → ρ 129 = τ 129 → Q (-100 - p) ρ)
    (hF : ∀ ρ : hh_S, hr_ct (τ 129) a1 n = 3 → (∃ v, Z = .inr v) → hr_rt2 τ ρ → ρ 129 = τ 129 → Q (-1000000003) ρ)
    (hG : ∀ (ρ : hh_S) (o1 o2 : hr_wl) (ty : Int) (W : Int → Int), Z = .inr (o1, o2, ty) → hr_ct (τ 129) a1 n ≠ 3 → hr_rt2 τ ρ → (W 0 = o1.length ∧ hr_orl W 0 o1) → (W 241 = o2.length ∧ hr_orl W 241 o2) → ρ 129 9 = τ 129 9 + 1 → (ρ 129 (1840 + 484 * n) = a1 ∧ ρ 129 (1840 + 484 * n + 1) = a2) → (∀ i : Int, 0 ≤ i → i < 482 → ρ 129 (1840 + 484 * n + 2 + i) = W i) → (∀ k : Int, k ≠ 9 → (k < 1840 + 484 * n ∨ 1840 + 484 * n + 484 ≤ k) → ρ 129 k = τ 129 k) → Q ty ρ) : hh_Sp 200 hm_X12_terms [hh_R 128, hh_I a1, hh_I a2] τ Q := by
  refine wp_X12_terms _ _ (fun _ _ _ => ?_)
  unfold P_X12_terms
  have e5 : hh_up (hh_up τ 128 9 (τ 128 6)) 128 6 0 129 = τ 129 := by rw [hh_up_ne (by omega), hh_up_ne (by omega)]
  refine c_isClient (by rw [e5]; exact h5) (fun z1 z2 => ⟨fun z => by omega, fun _ => c_in (fun y1 y2 => ⟨fun _ => ?_, fun z => by omega⟩) (fun y => by omega)⟩) (fun z => by rw [e5] at z; omega)
  refine hh_name (P := fun κ => hh_Sp 199 hm_X12_next [hh_R 128] κ _) (fun κ hκ => ?_)
  have k1 : ∀ r : Nat, r ≠ 128 → κ r = τ r := fun r hr => by rw [hκ]; simp (disch := omega) only [hh_up_ne]
  have k2 : κ 128 9 = N ∧ κ 128 6 = 0 ∧ κ 128 2 = τ 128 2 ∧ κ 128 31 = τ 128 31 ∧ (κ 128 8 = 0 ∧ κ 128 10 = 0 ∧ κ 128 12 = 0 ∧ κ 128 15 = 0) := by rw [hκ]; simp (disch := omega) only [hh_up_at, hh_up_off, and_self]; exact ⟨h6.1, trivial⟩
  clear hκ
  refine c_rtext (d := 192) (b := b) (N := N) (Z := Z) ⟨⟨k2.1, h6.2⟩, by rw [k1 133 (by omega)]; exact hb⟩ hZ k2.2.2.2.2 (fun ρ g => ?_)
  obtain ⟨⟨g1, g2, g3, g4⟩, g5⟩ := g
  have r2 : hr_rt2 τ ρ := ⟨fun r q1 q2 q3 q4 => by rw [g1 r q1 q3 q4, k1 r q1], by rw [g2 6 (by omega)]; exact k2.2.1, by rw [g2 2 (by omega)]; exact k2.2.2.1, by rw [g2 31 (by omega)]; exact k2.2.2.2.1⟩
  have e129 : ρ 129 = τ 129 := by rw [g1 129 (by omega) (by omega) (by omega), k1 129 (by omega)]
  unfold B_X12_terms_114
  rcases g5 with ⟨p, q1, q2⟩ | ⟨o1, o2, ty, q1, q2, q3, q4, q5⟩
  · have pp := hp p q1
    refine ⟨fun z => by have := q2.1; omega, fun _ => ?_⟩
    rw [q2.2]
    exact ⟨by omega, hB ρ p q1 r2 e129⟩
  refine ⟨fun _ => ?_, fun z => absurd q2 z⟩
  refine c_termsOf (by rw [e129]; omega) ?_
  rw [e129, h9.1, show ((n : Int)).toNat = n by omega]
  refine ⟨fun z => ⟨by have := h14 z; omega, ?_⟩, fun z => hF ρ z ⟨_, q1⟩ r2 e129⟩
  have n14 := h14 z
  refine hh_lp2_of (fun m x3 x4 θ => x3 = 1840 + 484 * (n : Int) ∧ (0 ≤ x4 ∧ x4 ≤ 482 ∧ 482 - x4 ≤ m) ∧ (∀ r : Nat, r ≠ 129 → θ r = ρ r) ∧ (θ 129 (1840 + 484 * n) = a1 ∧ θ 129 (1840 + 484 * n + 1) = a2) ∧ (∀ i : Int, 0 ≤ i → i < x4 → θ 129 (1840 + 484 * n + 2 + i) = ρ 134 i) ∧ (∀ k : Int, (k < 1840 + 484 * n ∨ 1840 + 484 * n + 484 ≤ k) → θ 129 k = τ 129 k)) ?_ 482 _ 0 _ ⟨by omega, by omega, fun r hr => by rw [hh_up_ne hr, hh_up_ne hr], ⟨?_, ?_⟩, fun i i1 i2 => by omega, fun k hk => ?_⟩
  · rintro m x3 x4 θ kk ⟨rfl, i1, i2, i3, i4, i5⟩ hk
    unfold B_X12_terms_176 B_X12_terms_208
    refine ⟨fun w => ?_, fun w => ⟨by omega, hk (m - 1) _ _ _ (by omega) ⟨rfl, by omega, fun r hr => by rw [hh_up_ne hr]; exact i2 r hr, ⟨by rw [hh_up_off (by omega)]; exact i3.1, by rw [hh_up_off (by omega)]; exact i3.2⟩, fun i j1 j2 => ?_, fun k hk => by rw [hh_up_off (by omega)]; exact i5 k hk⟩⟩⟩
    · have e9 : θ 129 9 = τ 129 9 := i5 9 (by omega)
      refine ⟨by rw [e9]; omega, ?_⟩
      rw [i2 128 (by omega), q3]
      refine hG _ o1 o2 ty (ρ 134) q1 z ⟨fun r y1 y2 y3 y4 => by rw [hh_up_ne y2, i2 r y2]; exact r2.1 r y1 y2 y3 y4, by rw [hh_up_ne (by omega), i2 128 (by omega)]; exact r2.2.1, by rw [hh_up_ne (by omega), i2 128 (by omega)]; exact r2.2.2.1, by rw [hh_up_ne (by omega), i2 128 (by omega)]; exact r2.2.2.2⟩ q4 q5 (by rw [hh_up_at, e9]) ⟨by rw [hh_up_off (by omega)]; exact i3.1, by rw [hh_up_off (by omega)]; exact i3.2⟩ (fun i j1 j2 => by rw [hh_up_off (by omega)]; exact i4 i j1 (by omega)) (fun k y1 y2 => by rw [hh_up_off y1]; exact i5 k y2)
    · rcases (show i < x4 ∨ i = x4 by omega) with y | y
      · rw [hh_up_off (by omega)]; exact i4 i j1 y
      · rw [y, hh_up_at, i2 134 (by omega)]
  · simp (disch := omega) only [hh_up_at, hh_up_off]
  · simp (disch := omega) only [hh_up_at]
  · rw [hh_up_off (by omega), hh_up_off (by omega), e129]
theorem hr_n100 {f : Int} (h : 0 ≤ f ∧ f ≤ 120) : -2147483648 ≤ -100 - f ∧ -100 - f ≤ 2147483647 := by omega
theorem hr_R.tm {σ ρ : hh_S} (h : hr_R σ) (er : ∀ r : Nat, 55 ≤ r → r < 109 → ρ r = σ r) (e0 : ρ 0 = σ 0) (e1 : ρ 122 = σ 122) (e2 : ρ 123 = σ 123) (e3 : ρ 124 = σ 124) (e4 : ρ 130 = σ 130) (e5 : ρ 144 = σ 144) (e6 : ρ 145 = σ 145) (e7 : ρ 146 = σ 146) (e8 : ρ 128 2 = σ 128 2) (e9 : ρ 128 31 = σ 128 31) (z1 : ρ 109 1 = 0) (z2 : ρ 128 6 = 0) (hn : hr_N ρ (ρ 129)) : hr_R ρ := by
  obtain ⟨hN, hI, hH, hW, hA⟩ := h
  exact ⟨hn, hI.cg (by rw [e0]) e8 er e4, hH.cg e2 e3 e6 e7, hW.cg (by rw [e0]) e9 e1 e5, ⟨by omega, fun j j1 j2 => by omega⟩⟩
set_option maxHeartbeats 2000000 in
theorem o_terms {σ : hh_S} {a1 a2 : Int} (h : hr_R σ) : hr_op2 hm_X11_terms hm_X12_terms [hh_I a1, hh_I a2] σ := by
  obtain ⟨hU, hP, hC, hM, hE, hD, hB, hK, hT⟩ := h.1
  have u := hU
  unfold hr_U at u
  have p1 := hP.1
  have c1 := hC.1
  have m1 := hM.1
  have e1 := hE.1
  have d1 := hD.1
  have b1 := hB.1
  have k1 := hK.1
  have t1 := hT.1
  have hA := h.2.2.2.2
  have hA1 := hA.1
  have tb : hr_tb σ (σ 133) (σ 128 6) := ⟨⟨hA1.1, hA1.2⟩, fun j j1 j2 => hA.2 j j1 j2⟩
  have SAME : ∀ (τ ρ : hh_S), (∀ r : Nat, r ≠ 109 → r ≠ 111 → τ r = σ r) → τ 109 1 = 0 → hr_rt2 τ ρ → ρ 129 = τ 129 → hr_R ρ := by
    intro τ ρ w1 w2 w3 w4
    have e : ∀ r : Nat, r ≠ 109 → r ≠ 111 → r ≠ 128 → r ≠ 134 → r ≠ 135 → ρ r = σ r := by
      intro r q1 q2 q3 q4 q5
      by_cases y : r = 129
      · rw [y, w4, w1 129 (by omega) (by omega)]
      · rw [w3.1 r q3 y q4 q5, w1 r q1 q2]
    exact h.tm (fun r r1 r2 => e r (by omega) (by omega) (by omega) (by omega) (by omega)) (e 0 (by omega) (by omega) (by omega) (by omega) (by omega)) (e 122 (by omega) (by omega) (by omega) (by omega) (by omega)) (e 123 (by omega) (by omega) (by omega) (by omega) (by omega)) (e 124 (by omega) (by omega) (by omega) (by omega) (by omega)) (e 130 (by omega) (by omega) (by omega) (by omega) (by omega)) (e 144 (by omega) (by omega) (by omega) (by omega) (by omega)) (e 145 (by omega) (by omega) (by omega) (by omega) (by omega)) (e 146 (by omega) (by omega) (by omega) (by omega) (by omega)) (by rw [w3.2.2.1, w1 128 (by omega) (by omega)]) (by rw [w3.2.2.2, w1 128 (by omega) (by omega)]) (by rw [w3.1 109 (by omega) (by omega) (by omega) (by omega)]; exact w2) w3.2.1 (h.1.cg (fun r r1 r2 => e r (by omega) (by omega) (by omega) (by omega) (by omega)) (fun k _ _ => by rw [e 129 (by omega) (by omega) (by omega) (by omega) (by omega)]))
  have BAD : (a1 < 0 ∨ σ 129 5 ≤ a1 ∨ a2 < 0 ∨ 900 < a2) → hh_Sp 200 hm_X12_terms [hh_R 128, hh_I a1, hh_I a2] (hh_up σ 109 1 0) (fun r' σ2 => -1000000001 = r' ∧ hr_R σ2) := by
    intro z
    refine wp_X12_terms _ _ (fun _ _ _ => ?_)
    unfold P_X12_terms
    refine hh_name (P := fun κ => hh_Sp 199 hm_X12_isClient [hh_R 128, hh_I a1] κ _) (fun κ hκ => ?_)
    have e1 : κ 129 = σ 129 := by rw [hκ]; simp (disch := omega) only [hh_up_ne]
    have K : hr_R κ := SAME (hh_up σ 109 1 0) κ (fun r r1 r2 => hh_up_ne r1) (hh_up_at _ _ _ _) ⟨fun r q1 q2 q3 q4 => by rw [hκ, hh_up_ne q1, hh_up_ne q1], by rw [hκ, hh_up_at], by rw [hκ, hh_up_off (by omega), hh_up_off (by omega)], by rw [hκ, hh_up_off (by omega), hh_up_off (by omega)]⟩ (by rw [e1, hh_up_ne (by omega)])
    refine c_isClient (by rw [e1]; omega) (fun z1 z2 => ⟨fun y => by omega, fun _ => c_in (fun y1 y2 => by rw [e1] at z2; omega) (fun y => ⟨fun w => by omega, fun _ => ⟨rfl, K⟩⟩)⟩) (fun y => ⟨fun _ => ⟨rfl, K⟩, fun w => by omega⟩)
  have BADX : (a1 < 0 ∨ σ 129 5 ≤ a1 ∨ a2 < 0 ∨ 900 < a2) → B_X11_terms_29 199 (fun r σ1 => hh_Sp 200 hm_X12_terms (hh_R 128 :: [hh_I a1, hh_I a2]) σ1 (fun r' σ2 => r = r' ∧ hr_R σ2)) a1 a2 σ := by
    intro z
    unfold B_X11_terms_29 B_X11_terms_30 B_X11_terms_47
    exact ⟨fun _ => ⟨fun w => absurd rfl w, fun _ => BAD z⟩, fun w => absurd rfl w⟩
  refine wp_X11_terms _ _ (fun hs h1 h2 => ?_)
  unfold P_X11_terms
  refine c_X1_has (by omega) (fun z1 z2 => ⟨fun y => by omega, fun _ => c_within (fun y1 y2 => ⟨fun w => by omega, fun _ => ?_⟩) (fun y => ⟨fun _ => BADX (by omega), fun w => by omega⟩)⟩) (fun y => ⟨fun _ => BADX (by omega), fun w => by omega⟩)
  unfold B_X11_terms_30
  refine ⟨fun w => by omega, fun _ => ?_⟩
  refine c_readText (d := 99) tb (fun ρ f Z got => ?_)
  obtain ⟨⟨g1, g2⟩, hZ, gf, gb, gg⟩ := got
  have ac : 0 ≤ a1 ∧ a1 < σ 129 5 := by omega
  obtain ⟨n, hn⟩ : ∃ n : Nat, σ 129 9 = n := ⟨(σ 129 9).toNat, by omega⟩
  have nT : (σ 129 9).toNat = n := by omega
  have tc := hT.2.1 a1 ac.1 ac.2
  rw [nT] at tc
  have ctn := hr_ct_nn (σ 129) a1 n
  have e8 : ρ 8 a1 = hr_ct (σ 129) a1 n := by rw [g1 8 (by omega) (by omega)]; exact tc.1
  unfold B_X11_terms_47
  rw [e8]
  have HP : ∀ p : Int, Z = .inl p → 0 ≤ p ∧ p ≤ 120 := by
    intro p hp
    rcases gf with w | w
    · obtain ⟨o1, o2, ty, q, -⟩ := gg w
      rw [hp] at q
      cases q
    · have q := gb (by omega)
      rw [hp] at q
      have := Sum.inl.inj q
      omega
  have REF : ∀ (τ : hh_S) (Q : Int → hh_S → Prop), (∀ r : Nat, (109 ≤ r ∨ r = 5 ∨ r = 6) → r ≠ 109 → r ≠ 111 → τ r = σ r) →
      (∀ (ρ' : hh_S) (p : Int), Z = .inl p → hr_rt2 τ ρ' → ρ' 129 = τ 129 → Q (-100 - p) ρ') → (∀ ρ' : hh_S, hr_ct (τ 129) a1 n = 3 → (∃ v, Z = .inr v) → hr_rt2 τ ρ' → ρ' 129 = τ 129 → Q (-1000000003) ρ') →
      (∀ (ρ' : hh_S) (o1 o2 : hr_wl) (ty : Int) (W : Int → Int), Z = .inr (o1, o2, ty) → hr_ct (τ 129) a1 n ≠ 3 → hr_rt2 τ ρ' → (W 0 = o1.length ∧ hr_orl W 0 o1) → (W 241 = o2.length ∧ hr_orl W 241 o2) → ρ' 129 9 = τ 129 9 + 1 → (ρ' 129 (1840 + 484 * n) = a1 ∧ ρ' 129 (1840 + 484 * n + 1) = a2) → (∀ i : Int, 0 ≤ i → i < 482 → ρ' 129 (1840 + 484 * n + 2 + i) = W i) → (∀ k : Int, k ≠ 9 → (k < 1840 + 484 * n ∨ 1840 + 484 * n + 484 ≤ k) → ρ' 129 k = τ 129 k) → Q ty ρ') → hh_Sp 200 hm_X12_terms [hh_R 128, hh_I a1, hh_I a2] τ Q := by
    intro τ Q w k1 k2 k3
    have e9 := w 129 (by omega) (by omega) (by omega)
    refine c_rterms (b := σ 133) (N := σ 128 6) (Z := Z) (n := n) (by rw [e9]; omega) (by rw [e9]; exact ac) ⟨y1, y2⟩ ⟨by rw [w 128 (by omega) (by omega) (by omega)], hA1.2⟩ (w 133 (by omega) (by omega) (by omega)) ⟨by rw [e9]; exact hn, by omega⟩ (fun z => ?_) hZ HP k1 k2 k3
    rw [e9] at z
    have := hT.room (by omega) ac.1 ac.2 (by rw [nT]; exact z)
    omega
  refine ⟨fun _ => ⟨fun w => ?_, fun w => ?_⟩, fun w => by omega⟩
  · obtain ⟨o1, o2, ty, q, ⟨p5, p5b⟩, ⟨p4, p3, p34⟩, ⟨l1, l2⟩, ⟨w1, w2⟩, d1, d2⟩ := gg w
    refine ⟨by omega, fun y => ⟨by omega, ?_⟩, fun y => ?_⟩
    · rw [p5, p4, p3]
      refine hh_name (P := fun τ => hh_Sp 200 hm_X12_terms [hh_R 128, hh_I a1, hh_I a2] τ (fun r' σ2 => ty = r' ∧ hr_R σ2)) (fun τ hτ => ?_)
      obtain ⟨qq, hqq⟩ : ∃ qq : Int, qq = 3 * a1 + hr_ct (σ 129) a1 n := ⟨_, rfl⟩
      rw [show a1 * 3 + hr_ct (σ 129) a1 n = qq by omega] at hτ
      have u1 : ∀ r : Nat, r ≠ 8 → r ≠ 9 → r ≠ 10 → r ≠ 11 → r ≠ 12 → r ≠ 109 → τ r = ρ r := fun r v1 v2 v3 v4 v5 v6 => by rw [hτ, hh_up_ne v1, hh_cpy_ne v5, hh_up_ne v4, hh_up_ne v3, hh_up_ne v2, hh_up_ne v6]
      have u2 : τ 109 1 = 0 := by rw [hτ, hh_up_ne (by omega), hh_cpy_ne (by omega), hh_up_ne (by omega), hh_up_ne (by omega), hh_up_ne (by omega), hh_up_at]
      have u8 : ∀ j : Int, τ 8 j = if j = a1 then σ 8 a1 + 1 else σ 8 j := fun j => by
        rw [hτ, hh_up_eq, hh_cpy_ne (by omega), hh_up_ne (by omega), hh_up_ne (by omega), hh_up_ne (by omega), hh_up_ne (by omega), g1 8 (by omega) (by omega), tc.1]
      have u9 : ∀ j : Int, τ 9 j = if j = qq then a2 else σ 9 j := fun j => by
        rw [hτ, hh_up_ne (by omega), hh_cpy_ne (by omega), hh_up_ne (by omega), hh_up_ne (by omega), hh_up_eq, hh_up_ne (by omega), g1 9 (by omega) (by omega)]
      have u10 : ∀ j : Int, τ 10 j = if j = qq then (o1.length : Int) else σ 10 j := fun j => by
        rw [hτ, hh_up_ne (by omega), hh_cpy_ne (by omega), hh_up_ne (by omega), hh_up_eq, hh_up_ne (by omega), hh_up_ne (by omega), g1 10 (by omega) (by omega)]
      have u11 : ∀ j : Int, τ 11 j = if j = qq then (o1.length : Int) + o2.length else σ 11 j := fun j => by
        rw [hτ, hh_up_ne (by omega), hh_cpy_ne (by omega), hh_up_eq, hh_up_ne (by omega), hh_up_ne (by omega), hh_up_ne (by omega), g1 11 (by omega) (by omega)]
      have u12 : ∀ j : Int, τ 12 j = if qq * 120 ≤ j ∧ j < qq * 120 + 120 then ρ 111 (0 + (j - qq * 120)) else σ 12 j := fun j => by
        rw [hτ, hh_up_ne (by omega), hh_cpy_eq, hh_up_ne (by omega), hh_up_ne (by omega), hh_up_ne (by omega), hh_up_ne (by omega), hh_up_ne (by omega), hh_up_ne (by omega), hh_up_ne (by omega), hh_up_ne (by omega), g1 12 (by omega) (by omega)]
      clear hτ
      have t9 : τ 129 = σ 129 := by rw [u1 129 (by omega) (by omega) (by omega) (by omega) (by omega) (by omega), g1 129 (by omega) (by omega)]
      refine REF τ _ (fun r v1 v2 v3 => by rw [u1 r (by omega) (by omega) (by omega) (by omega) (by omega) v2, g1 r v2 v3]) (fun ρ' p v => by rw [q] at v; cases v) (fun ρ' v => by rw [t9] at v; omega) (fun ρ' o1' o2' ty' W v1 v2 v3 v4 v5 v6 v7 v8 v9 => ?_)
      rw [q] at v1
      cases v1
      refine ⟨rfl, ?_⟩
      rw [t9] at v6 v9
      have e : ∀ r : Nat, r ≠ 8 → r ≠ 9 → r ≠ 10 → r ≠ 11 → r ≠ 12 → r ≠ 109 → r ≠ 111 → r ≠ 128 → r ≠ 129 → r ≠ 134 → r ≠ 135 → ρ' r = σ r := fun r x1 x2 x3 x4 x5 x6 x7 x8 x9 x10 x11 => by rw [v3.1 r x8 x9 x10 x11, u1 r x1 x2 x3 x4 x5 x6, g1 r x6 x7]
      have E (r : Nat) (x : (13 ≤ r ∨ r < 8) ∧ r ≠ 109 ∧ r ≠ 111 ∧ r ≠ 128 ∧ r ≠ 129 ∧ r ≠ 134 ∧ r ≠ 135) : ρ' r = σ r := e r (by omega) (by omega) (by omega) (by omega) (by omega) (by omega) (by omega) (by omega) (by omega) (by omega) (by omega)
      have r14 := hT.room (by omega) ac.1 ac.2 (by rw [nT]; omega)
      have es : ∀ k : Int, (k ≠ 9 ∧ k < 1840) → ρ' 129 k = σ 129 k := fun k hk => v9 k hk.1 (by omega)
      have k8 : ρ' 8 = τ 8 := v3.1 8 (by omega) (by omega) (by omega) (by omega)
      have k9 : ρ' 9 = τ 9 := v3.1 9 (by omega) (by omega) (by omega) (by omega)
      have k10 : ρ' 10 = τ 10 := v3.1 10 (by omega) (by omega) (by omega) (by omega)
      have k11 : ρ' 11 = τ 11 := v3.1 11 (by omega) (by omega) (by omega) (by omega)
      have k12 : ρ' 12 = τ 12 := v3.1 12 (by omega) (by omega) (by omega) (by omega)
      have w0 : ρ' 129 (1840 + 484 * (n : Int) + 2) = o1.length := by have := v8 0 (by omega) (by omega); rw [Int.add_zero] at this; rw [this]; exact v4.1
      have w241 : ρ' 129 (1840 + 484 * (n : Int) + 2 + 241) = o2.length := by rw [v8 241 (by omega) (by omega)]; exact v5.1
      have c12 : ∀ i : Int, 0 ≤ i → i < 120 → ρ' 12 (120 * qq + i) = ρ 111 i := fun i i1 i2 => by
        rw [k12, u12, if_pos (by omega), show (0 : Int) + (120 * qq + i - qq * 120) = i by omega]
      have TX : hr_tx ρ' (ρ' 129) qq (1840 + 484 * (n : Int) + 2) := by
        refine ⟨?_, fun k j1 j2 => ?_, fun k j1 j2 => ?_, ?_, ?_⟩
        · rw [k10, k11, u10, u11, if_pos rfl, if_pos rfl, w0, w241]
          omega
        · rw [w0] at j2
          have := hr_ow o1 l1 v4.2 k j1 j2
          rw [Int.zero_add, Int.zero_add, Int.zero_add] at this
          rw [c12 k j1 (by omega), show 1840 + 484 * (n : Int) + 2 + 1 + 2 * k = 1840 + 484 * (n : Int) + 2 + (1 + 2 * k) by omega, show 1840 + 484 * (n : Int) + 2 + 2 + 2 * k = 1840 + 484 * (n : Int) + 2 + (2 + 2 * k) by omega, v8 _ (by omega) (by omega), v8 _ (by omega) (by omega)]
          exact this
        · rw [w241] at j2
          have := hr_ow o2 l2 v5.2 k j1 j2
          rw [w0, show 120 * qq + (o1.length : Int) + k = 120 * qq + (o1.length + k) by omega, c12 _ (by omega) (by omega), show 1840 + 484 * (n : Int) + 2 + 241 + 1 + 2 * k = 1840 + 484 * (n : Int) + 2 + (241 + 1 + 2 * k) by omega, show 1840 + 484 * (n : Int) + 2 + 241 + 2 + 2 * k = 1840 + 484 * (n : Int) + 2 + (241 + 2 + 2 * k) by omega, v8 _ (by omega) (by omega), v8 _ (by omega) (by omega)]
          exact this
        · rw [w0]
          refine (hr_wf_of l1 w1 d1).cg (fun i i1 i2 => ?_)
          show ρ' 12 (120 * qq + i) = ρ 111 (0 + i)
          rw [c12 i i1 (by omega), Int.zero_add]
        · rw [w0, w241]
          refine (hr_wf_of l2 w2 d2).cg (fun i i1 i2 => ?_)
          show ρ' 12 (120 * qq + (o1.length : Int) + i) = ρ 111 (o1.length + i)
          rw [show 120 * qq + (o1.length : Int) + i = 120 * qq + (o1.length + i) by omega, c12 _ (by omega) (by omega)]
      have hT' : hr_T ρ' (ρ' 129) := hT.add hn (by omega) ac.1 ac.2 ⟨y1, y2⟩ y hqq v6 (es 5 (by omega)) (fun k j1 j2 => v9 k (by omega) (by omega)) v7 (fun j => by rw [k8]; exact u8 j) (fun j => by rw [k9]; exact u9 j) (fun j j1 => ⟨by rw [k10, u10, if_neg j1], by rw [k11, u11, if_neg j1]⟩) (fun j j1 => by rw [k12, u12, if_neg (by omega)]) TX
      have P (r : Nat) (x : (13 ≤ r ∨ r < 8) ∧ r ≠ 109 ∧ r ≠ 111 ∧ r ≠ 128 ∧ r ≠ 129 ∧ r ≠ 134 ∧ r ≠ 135 := by omega) : ρ' r = σ r := E r x
      have LE : ∀ k : Int, (k ≠ 9 ∧ k < 1840) → σ 129 k ≤ ρ' 129 k := fun k hk => by rw [es k hk]; exact Int.le_refl _
      refine h.tm (fun r r1 r2 => P r) (P 0) (P 122) (P 123) (P 124) (P 130) (P 144) (P 145) (P 146) (by rw [v3.2.2.1, u1 128 (by omega) (by omega) (by omega) (by omega) (by omega) (by omega), g1 128 (by omega) (by omega)]) (by rw [v3.2.2.2, u1 128 (by omega) (by omega) (by omega) (by omega) (by omega) (by omega), g1 128 (by omega) (by omega)]) (by rw [v3.1 109 (by omega) (by omega) (by omega) (by omega)]; exact u2) v3.2.1 ⟨hU.cg (P 1) (P 54) (fun k _ _ => es k (by omega)), hP.cg (P 2) (P 3) (P 4) (P 5) (fun k hk => es k (by omega)), hC.cg (P 6) (P 7) (fun k hk => es k (by omega)), hM.cg (P 13) (P 14) (P 15) (P 16) (P 17) (P 18) (P 19) (P 20) (P 21) (P 22) (P 23) (LE 5 (by omega)) (fun k hk => es k (by omega)), hE.cg (fun r r1 r2 => P r) (LE 4 (by omega)) (LE 6 (by omega)) (LE 0 (by omega)) (LE 10 (by omega)) (fun k hk => es k (by omega)) (fun b b1 b2 => es _ (by omega)), hD.cg (fun r r1 r2 => P r) (LE 4 (by omega)) (fun k hk => es k (by omega)), hB.cg hC hM (fun r r1 r2 => P r) (LE 6 (by omega)) (LE 0 (by omega)) (fun k hk => es k (by omega)) (fun m m1 m2 m3 k k1 k2 => es k (by omega)), hK.cg (P 50) (P 51) (P 52) (P 53) (LE 6 (by omega)) (fun k hk => es k (by omega)), hT'⟩
    · have t9 : hh_up ρ 109 1 0 129 = σ 129 := by rw [hh_up_ne (by omega), g1 129 (by omega) (by omega)]
      refine REF (hh_up ρ 109 1 0) _ (fun r v1 v2 v3 => by rw [hh_up_ne v2, g1 r v2 v3]) (fun ρ' p v => by rw [q] at v; cases v) (fun ρ' v1 v2 v3 v4 => ⟨rfl, SAME _ ρ' (fun r r1 r2 => by rw [hh_up_ne r1, g1 r r1 r2]) (hh_up_at _ _ _ _) v3 v4⟩) (fun ρ' o1' o2' ty' W v1 v2 => by rw [t9] at v2; omega)
  · have Zf := gb w
    refine ⟨hr_n100 (gf.resolve_left w), ?_⟩
    refine REF (hh_up ρ 109 1 0) _ (fun r v1 v2 v3 => by rw [hh_up_ne v2, g1 r v2 v3]) (fun ρ' p v1 v3 v4 => ⟨?_, SAME _ ρ' (fun r r1 r2 => by rw [hh_up_ne r1, g1 r r1 r2]) (hh_up_at _ _ _ _) v3 v4⟩) (fun ρ' v1 v2 => ?_) (fun ρ' o1' o2' ty' W v1 v2 => ?_)
    · rw [Zf] at v1
      rw [Sum.inl.inj v1]
    · obtain ⟨v, v2⟩ := v2
      rw [Zf] at v2
      cases v2
    · rw [Zf] at v1
      cases v1
