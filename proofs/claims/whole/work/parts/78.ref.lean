/-! terms: the reference's reading, parts and expressions -/
section hr_rex
variable {π : hh_S} {b : Int → Int} {N x : Int}
theorem c_X12_isName {d : Nat} {σ : hh_S} {v : Int} {Q : Int → hh_S → Prop} (h1 : hr_isnm v → Q 1 σ) (h0 : ¬ hr_isnm v → Q 0 σ) : hh_Sp (d + 1) hm_X12_isName [hh_R 128, hh_I v] σ Q := by
  refine wp_X12_isName _ (fun _ _ => ?_)
  unfold P_X12_isName B_X12_isName_42
  unfold hr_isnm at h1 h0
  refine ⟨fun z => h1 (by omega), fun z1 => ⟨fun z => h1 (by omega), fun z2 => ⟨fun z => h1 (by omega), fun z3 => ⟨fun z => h1 (by omega), fun z4 => ⟨fun z => h1 (by omega), fun z5 => ⟨fun z => h1 (by omega), fun z6 => ⟨fun z => h0 (by omega), fun z => h1 (by omega)⟩⟩⟩⟩⟩⟩⟩
set_option maxHeartbeats 2000000 in
theorem c_X12_begins {d : Nat} {R : hr_rs} {σ : hh_S} {S : List Int} {k s e : Int} {o : hr_wl} {ty : Int} {m : Nat} {Q : Int → hh_S → Prop} (h : hr_rst π b N x σ S k s e o ty) (h4 : k ≠ 4) (hr : hr_rn b N R m 0 S k s e o ty)
    (hw : ∀ (ρ : hh_S) (p : Int), R = .inl p → hr_rw π b N x ρ p → Q 0 ρ)
    (h1 : ∀ (ρ : hh_S) (S' : List Int) (k' s' e' : Int) (m' : Nat), m' + 1 ≤ m → hr_rst π b N x ρ S' k' s' e' o ty → hr_rn b N R m' 0 S' k' s' e' o ty → Q 1 ρ)
    (h0 : ∀ (ρ : hh_S) (S' : List Int) (k' s' e' : Int) (o' : hr_wl) (ty' : Int) (m' : Nat), m' + 1 ≤ m → hr_rst π b N x ρ S' k' s' e' o' ty' → hr_rn b N R m' 2 S' k' s' e' o' ty' → Q 0 ρ) : hh_Sp (d + 4) hm_X12_begins [hh_R 128] σ Q := by
  cases m with
  | zero => exact absurd hr (fun z => z)
  | succ m =>
  obtain ⟨ok, hs0, -, -⟩ := hr
  obtain ⟨sA, sB, sC, sD, sE⟩ := (hs0 rfl).2 h4
  have h' := h
  obtain ⟨⟨r1, r2, r3, r4, r5⟩, f2, f3, f4, f5, f6, f7⟩ := h'
  have hN := r4.2.1
  have hb := r4.2.2
  have t1 := f7.1
  have t2 := f7.2.1
  have t3 := f7.2.2.2.1
  have k10 := (f6.1 h4).1
  have n1 := hr_c1_nn S
  have n3 := hr_c3_nn S
  have sl : (0 : Int) ≤ S.length := by omega
  have WR : R = .inl s → hh_Sp (d + 3) hm_X12_wrong [hh_R 128] σ (fun _ σ46 => Q 0 σ46) := fun z => c_X12_wrong h h4 (fun ρ hρ => hw ρ s z hρ)
  have T247 : ∀ (ρ : hh_S) (w v : Int), hr_rst π b N x ρ S k s e ((w, v) :: o) ty → hr_on b N (hr_rn b N R m) 1 S k e ((w, v) :: o) (ty + 1) → B_X12_begins_247 (d + 3) Q ρ := by
    intro ρ w v hρ on
    obtain ⟨⟨g1, g2, g3, g4, g5⟩, y2, y3, y4, y5, y6, y7⟩ := hρ
    unfold B_X12_begins_247
    rw [y5.1]
    refine ⟨by omega, ?_⟩
    refine c_rnx (S' := S) (ty' := ty + 1) ⟨⟨g1, g2, g3, g4, g5⟩, y2, y3, y4, y5, y6, y7⟩ h4 (fun r z1 z2 => by rw [hh_up_ne z1]) (fun f z1 z2 z3 z4 => by rw [hh_up_off z1]) (by rw [hh_up_at]) (by rw [hh_up_off (by omega), hh_up_ne (by omega)]; exact y3) (by rw [hh_up_off (by omega), hh_up_off (by omega)]; exact y4) (fun ρ2 k' s' e' nt c => ?_)
    obtain ⟨k2, s2, e2, nt2, rn2⟩ := on
    obtain ⟨q1, q2, q3⟩ := nt.un nt2
    subst q1; subst q2; subst q3
    exact c_X12_parted c rn2 (fun ρ3 S3 o3 m3 hm3 c3 rn3 => h0 ρ3 S3 k' s' e' o3 (ty + 1) m3 (by omega) c3 rn3)
  have PUSH : ∀ (τ : hh_S) (t : Int), (t = 1 ∨ t = 3) → (∀ r : Nat, r ≠ 128 → r ≠ 135 → τ r = σ r) → (∀ f : Int, f ≠ 18 → f ≠ 19 → f ≠ 20 → τ 128 f = σ 128 f) → τ 128 18 = S.length + 1 → (τ 135 S.length = t ∧ ∀ i : Int, i < S.length → τ 135 i = σ 135 i) → τ 128 19 = hr_c1 (t :: S) → τ 128 20 = hr_c3 (t :: S) → hr_c1 (t :: S) ≤ 8 → hr_c3 (t :: S) ≤ 8 → hr_on b N (hr_rn b N R m) 0 (t :: S) k e o ty → hh_Sp (d + 3) hm_X12_next [hh_R 128] τ (fun _ σ116 => Q 1 σ116) := by
    intro τ t ht a1 a2 a3 a4 a5 a6 a7 a8 on
    refine c_rnx (S' := t :: S) (ty' := ty) h h4 a1 (fun f z1 z2 z3 z4 => a2 f z2 z3 z4) (by rw [a2 15 (by omega) (by omega) (by omega)]; exact f5.1) ⟨by rw [a3, List.length_cons]; omega, a4.1, by omega, hr_st5.cg S f3.2 (fun i _ i2 => a4.2 i i2)⟩ ⟨a5, a6, a7, a8⟩ (fun ρ2 k' s' e' nt c => ?_)
    obtain ⟨k2, s2, e2, nt2, rn2⟩ := on
    obtain ⟨q1, q2, q3⟩ := nt.un nt2
    subst q1; subst q2; subst q3
    exact h1 ρ2 (t :: S) k' s' e' m (Nat.le_refl _) c rn2
  have A18 : k = 3 → (b s = 33 ∨ b s = 40) → B_X12_begins_18 (d + 3) Q σ := by
    intro k3 bs
    have t3' := t3 (by omega)
    unfold B_X12_begins_18
    refine c_X12_isSign h h4 (fun _ y => ⟨fun z => by omega, fun _ => ?_⟩) (fun y => ⟨fun _ => ?_, fun z => by omega⟩)
    · have A := sA ⟨k3, y⟩
      unfold B_X12_begins_40 B_X12_begins_68 B_X12_begins_93 B_X12_begins_111
      rw [f4.2.1]
      refine ⟨fun z => ⟨fun z2 => by omega, fun _ => ?_⟩, fun z => WR (A.1 (by omega))⟩
      rw [f3.1]
      refine ⟨by omega, fun z2 => by omega, fun _ => ⟨?_, fun z2 => by omega, fun _ => ⟨?_, ?_⟩⟩⟩
      · omega
      · first | omega | (simp (disch := omega) only [hh_up_ne, hh_up_at, hh_up_off]; omega)
      · refine PUSH _ 3 (Or.inr rfl) (fun r z1 z2 => ?_) (fun f z1 z2 z3 => ?_) ?_ ⟨?_, fun i hi => ?_⟩ ?_ ?_ ?_ ?_ (A.2 (by omega))
        · simp (disch := omega) only [hh_up_ne]
        · simp (disch := omega) only [hh_up_ne, hh_up_off]
        · simp (disch := omega) only [hh_up_ne, hh_up_at, hh_up_off]
        · simp (disch := omega) only [hh_up_ne, hh_up_at, hh_up_off]
        · simp (disch := omega) only [hh_up_ne, hh_up_at, hh_up_off]
        · simp (disch := omega) only [hh_up_ne, hh_up_at, hh_up_off]
          rw [hr_c1_o (by omega), f4.1]; omega
        · simp (disch := omega) only [hh_up_ne, hh_up_at, hh_up_off]
          rw [hr_c3_3]
        · rw [hr_c1_o (by omega)]; omega
        · rw [hr_c3_3]; omega
    · have b40 : b s = 40 := by omega
      have A := sB ⟨k3, b40⟩
      unfold B_X12_begins_40 B_X12_begins_68 B_X12_begins_93 B_X12_begins_111
      rw [f4.1]
      refine ⟨fun z => ⟨fun _ => ?_, fun z2 => by omega⟩, fun z => WR (A.1 (by omega))⟩
      rw [f3.1, f4.2.1]
      refine ⟨by omega, fun _ => ⟨?_, fun _ => ⟨?_, ?_⟩, fun z2 => by omega⟩, fun z2 => by omega⟩
      · omega
      · simp (disch := omega) only [hh_up_ne, hh_up_at, hh_up_off]; omega
      · refine PUSH _ 1 (Or.inl rfl) (fun r z1 z2 => ?_) (fun f z1 z2 z3 => ?_) ?_ ⟨?_, fun i hi => ?_⟩ ?_ ?_ ?_ ?_ (A.2 (by omega))
        · simp (disch := omega) only [hh_up_ne]
        · simp (disch := omega) only [hh_up_ne, hh_up_off]
        · simp (disch := omega) only [hh_up_ne, hh_up_at, hh_up_off]
        · simp (disch := omega) only [hh_up_ne, hh_up_at, hh_up_off]
        · simp (disch := omega) only [hh_up_ne, hh_up_at, hh_up_off]
        · simp (disch := omega) only [hh_up_ne, hh_up_at, hh_up_off]
          rw [hr_c1_1, f4.1]
        · simp (disch := omega) only [hh_up_ne, hh_up_at, hh_up_off]
          rw [hr_c3_o (by omega)]; omega
        · rw [hr_c1_1]; omega
        · rw [hr_c3_o (by omega)]; omega
  have W241 : ¬ hr_sA b k s → ¬ hr_sB b k s → ¬ hr_sC k s e → ¬ hr_sD b k s e → B_X12_begins_241 (d + 3) Q σ := by
    intro a1 a2 a3 a4
    unfold B_X12_begins_241
    exact WR (sE a1 a2 a3 a4)
  have A187 : ¬ hr_sA b k s → ¬ hr_sB b k s → ¬ hr_sC k s e → B_X12_begins_187 (d + 3) Q σ := by
    intro a1 a2 a3
    unfold B_X12_begins_187
    rw [k10, f5.2.1, f5.2.2, hb]
    refine ⟨fun z => W241 a1 a2 a3 (by unfold hr_sD; omega), fun z => ⟨by omega, fun y => W241 a1 a2 a3 (by unfold hr_sD; omega), fun y => ⟨by omega, ?_⟩⟩⟩
    refine c_X12_isName (fun w => ⟨fun z => by omega, fun _ => ?_⟩) (fun w => ⟨fun _ => W241 a1 a2 a3 (fun w2 => w w2.2.2), fun z => by omega⟩)
    rw [f5.2.1, hb]
    refine ⟨by omega, ?_⟩
    refine c_X12_emit (S' := S) h (fun _ _ => rfl) (fun _ _ _ => rfl) f3.1 f4.2.1 f3.2 ⟨rfl, f4.2.2.2⟩ ?_ (fun ρ hρ => T247 ρ _ _ hρ (sD ⟨z, y, w⟩))
    have t3' := t3 (by omega)
    omega
  refine wp_X12_begins (fun _ => ?_)
  unfold P_X12_begins
  refine c_X12_isSign h h4 (fun z1 z2 => ⟨fun _ => A18 z1 (Or.inl z2), fun z => by omega⟩) (fun y1 => ⟨fun z => by omega, fun _ => c_X12_isSign h h4 (fun z1 z2 => ⟨fun z => by omega, fun _ => A18 z1 (Or.inr z2)⟩) (fun y2 => ⟨fun _ => ?_, fun z => by omega⟩)⟩)
  have nA : ¬ hr_sA b k s := by unfold hr_sA; omega
  have nB : ¬ hr_sB b k s := by unfold hr_sB; omega
  rw [k10, f5.2.1, f5.2.2]
  refine ⟨fun z => A187 nA nB (by unfold hr_sC; omega), fun z => ⟨by omega, fun y => A187 nA nB (by unfold hr_sC; omega), fun y => ?_⟩⟩
  have t3' := t3 (by omega)
  have t6 := f7.2.2.2.2.2.1 z
  have C : hr_sC k s e := ⟨z, by omega⟩
  refine hh_lp2_of (fun n x1 x2 τ => τ = σ ∧ ∃ i : Nat, x2 = s + i ∧ i ≤ (e - s).toNat ∧ x1 = hr_num b s i ∧ (e - s).toNat - i ≤ n) ?_ 5 0 s σ ⟨rfl, 0, by omega, by omega, rfl, by omega⟩
  rintro n x1 x2 τ kk ⟨rfl, i, rfl, i1, rfl, i2⟩ hk2
  have nr := hr_num_r (b := b) (s := s) i (by omega) (fun j j1 j2 => t6 j j1 (by omega))
  unfold B_X12_begins_149 B_X12_begins_178
  rw [f5.2.2, hb]
  refine ⟨fun w => ?_, fun w => ⟨?_, ?_⟩⟩
  · have ie : i = (e - s).toNat := by omega
    rw [ie]
    exact c_X12_emit (S' := S) h (fun _ _ => rfl) (fun _ _ _ => rfl) f3.1 f4.2.1 f3.2 ⟨rfl, f4.2.2.2⟩ (by omega) (fun ρ hρ => T247 ρ _ _ hρ (sC C))
  · have hb2 := t6 (s + i) (by omega) (by omega)
    have := nr.2.2 (by omega)
    omega
  · exact hk2 (n - 1) _ _ _ (by omega) ⟨rfl, i + 1, by omega, by omega, rfl, by omega⟩
theorem hr_rn.wr {R : hr_rs} {k s e ty : Int} (h4 : k ≠ 4) (w0 : hr_wk k (b s) = 0) (hn : ¬ (k = 3 ∧ b s = 41)) : ∀ (m : Nat) (S : List Int) (o : hr_wl), hr_rn b N R m 2 S k s e o ty → 0 < hr_c1 S → R = .inl s
  | 0, _, _, h, _ => absurd h (fun z => z)
  | m + 1, S, o, h, hc => by
    have h2 := (h.2.2.2 rfl).2 h4
    by_cases z : hr_pb S (hr_wk k (b s))
    · cases S with
      | nil => exact absurd hc (by show ¬ (0 : Int) < 0; omega)
      | cons t S' =>
        have t10 : 10 ≤ t := z.1
        exact hr_rn.wr h4 w0 hn m S' _ (h2.1 z t S' rfl) (by rw [← hr_c1_o (show t ≠ 1 by omega)]; exact hc)
    · exact ((h2.2 z).2 w0).2.1 hn hc
/-- how an expression ends -/
def hr_rout (π : hh_S) (b : Int → Int) (N x : Int) (ρ : hh_S) (R : hr_rs) : Prop := (∃ p : Int, R = .inl p ∧ hr_rw π b N x ρ p) ∨ ∃ (S : List Int) (k s e : Int) (o : hr_wl) (ty : Int), R = .inr (k, s, e, o, ty) ∧ hr_rst π b N x ρ S k s e o ty ∧ k ≠ 4 ∧ ((o.length : Int) ≤ s ∧ 0 ≤ ty ∧ ty ≤ s)
theorem hr_rst.f4 {σ : hh_S} {S : List Int} {k s e : Int} {o : hr_wl} {ty : Int} (h : hr_rst π b N x σ S k s e o ty) (h4 : k = 4) : hr_rw π b N x σ s := ⟨h.1, h.2.2.2.2.2.1.2 h4⟩
set_option maxHeartbeats 2000000 in
theorem c_X12_expression {d : Nat} {R : hr_rs} {σ : hh_S} {Q : Int → hh_S → Prop} (h : (∃ p : Int, R = .inl p ∧ hr_rw π b N x (hh_up (hh_up (hh_up σ 128 18 0) 128 19 0) 128 20 0) p) ∨ ∃ (k s e ty : Int) (m : Nat), hr_rst π b N x (hh_up (hh_up (hh_up σ 128 18 0) 128 19 0) 128 20 0) [] k s e [] ty ∧ hr_rn b N R m 0 [] k s e [] ty) (hq : ∀ ρ : hh_S, hr_rout π b N x ρ R → Q 0 ρ) : hh_Sp (d + 5) hm_X12_expression [hh_R 128] σ Q := by
  refine wp_X12_expression (fun _ => ?_)
  unfold P_X12_expression
  have IN : ∃ n0 : Nat, (∃ p : Int, R = .inl p ∧ hr_rw π b N x (hh_up (hh_up (hh_up σ 128 18 0) 128 19 0) 128 20 0) p) ∨ ∃ (S : List Int) (k s e : Int) (o : hr_wl) (ty : Int) (m : Nat), hr_rst π b N x (hh_up (hh_up (hh_up σ 128 18 0) 128 19 0) 128 20 0) S k s e o ty ∧ ((m + 1 ≤ n0 ∧ (1 : Int) = 1 ∧ (((1 : Int) = 1 ∧ hr_rn b N R m 0 S k s e o ty) ∨ ((1 : Int) = 0 ∧ hr_rn b N R m 2 S k s e o ty))) ∨ ((1 : Int) = 0 ∧ hr_rn b N R m 2 S k s e o ty ∧ k ≠ 4 ∧ hr_wk k (b s) = 0 ∧ hr_c1 S ≤ 0)) := by
    rcases h with h | ⟨k, s, e, ty, m, h1, h2⟩
    · exact ⟨0, Or.inl h⟩
    · exact ⟨m + 1, Or.inr ⟨[], k, s, e, [], ty, m, h1, Or.inl ⟨Nat.le_refl _, rfl, Or.inl ⟨rfl, h2⟩⟩⟩⟩
  obtain ⟨n0, IN⟩ := IN
  refine hh_lp2_of (fun n x1 x2 τ => (∃ p : Int, R = .inl p ∧ hr_rw π b N x τ p) ∨ ∃ (S : List Int) (k s e : Int) (o : hr_wl) (ty : Int) (m : Nat), hr_rst π b N x τ S k s e o ty ∧ ((m + 1 ≤ n ∧ x2 = 1 ∧ ((x1 = 1 ∧ hr_rn b N R m 0 S k s e o ty) ∨ (x1 = 0 ∧ hr_rn b N R m 2 S k s e o ty))) ∨ (x2 = 0 ∧ hr_rn b N R m 2 S k s e o ty ∧ k ≠ 4 ∧ hr_wk k (b s) = 0 ∧ hr_c1 S ≤ 0))) ?_ n0 1 1 _ IN
  clear IN h
  rintro n x1 x2 τ kk I hk
  have BAD : (∃ p : Int, R = .inl p ∧ hr_rw π b N x τ p) → B_X12_expression_19 (d + 4) Q kk x1 x2 τ := by
    rintro ⟨p, z1, z2⟩
    have E : B_X12_expression_208 (d + 4) Q τ := by
      unfold B_X12_expression_208
      exact ⟨fun _ => hq τ (Or.inl ⟨p, z1, z2⟩), fun z => by have := z2.2.1; omega⟩
    unfold B_X12_expression_19
    exact ⟨fun _ => E, fun _ => ⟨fun _ => E, fun z => by have := z2.2.1; omega⟩⟩
  rcases I with I | ⟨S, k, s, e, o, ty, m, h, I⟩
  · exact BAD I
  rcases I with ⟨mn, rfl, I⟩ | ⟨rfl, hr, h4, w0, hc⟩
  · by_cases h4 : k = 4
    · refine BAD ⟨s, ?_, h.f4 h4⟩
      rcases I with ⟨_, hr⟩ | ⟨_, hr⟩
      · exact hr_Rn.i4 (Or.inl rfl) h4 ⟨m, hr⟩
      · exact hr_Rn.i4 (Or.inr rfl) h4 ⟨m, hr⟩
    have k12 := h.2.2.2.2.2.1.1 h4
    unfold B_X12_expression_19
    refine ⟨fun z => by omega, fun _ => ⟨fun z => absurd k12.2 z, fun _ => ⟨fun z => ?_, fun z => ?_⟩⟩⟩
    · subst z
      rcases I with ⟨z, _⟩ | ⟨-, hr⟩
      · omega
      refine c_X12_signHere h h4 ⟨fun w0 => ?_, fun w0 => ?_⟩
      · have f4 := h.2.2.2.1
        have E192 : ¬ (k = 3 ∧ b s = 41 ∧ 0 < hr_c1 S) → B_X12_expression_192 (d + 4) Q kk 0 τ := by
          intro y
          unfold B_X12_expression_192 B_X12_expression_205
          rw [f4.1]
          refine ⟨fun z => hk (n - 1) _ _ _ (by omega) (Or.inr ⟨S, k, s, e, o, ty, m, h, Or.inr ⟨rfl, hr, h4, w0, z⟩⟩), fun z => c_X12_wrong h h4 (fun ρ hρ => hk (n - 1) _ _ _ (by omega) (Or.inl ⟨s, hr_rn.wr h4 w0 (fun w => y ⟨w.1, w.2, by omega⟩) m S o hr (by omega), hρ⟩))⟩
        refine c_X12_isSign h h4 (fun y1 y2 => ⟨fun z => by omega, fun _ => ?_⟩) (fun y => ⟨fun _ => E192 (by omega), fun z => by omega⟩)
        rw [f4.1]
        refine ⟨fun z => E192 (by omega), fun z => ?_⟩
        refine c_X12_works h h4 hr (by rw [w0]; rfl) (fun ρ S' o' m' mm c rn np c1 => ?_)
        cases m' with
        | zero => exact absurd rn (fun z => z)
        | succ m' =>
        have h2 := (rn.2.2.2 rfl).2 h4
        obtain ⟨S'', rfl, on⟩ := ((h2.2 np).2 w0).1 ⟨y1, y2, by omega⟩
        have g3 := c.2.2.1
        have g4 := c.2.2.2.1
        have es : ((1 :: S'').length : Int) = S''.length + 1 := by rw [List.length_cons]; omega
        rw [es] at g3
        have n1 := hr_c1_nn S''
        have n3 := hr_c3_nn S''
        have e1 : hr_c1 (1 :: S'') = hr_c1 S'' + 1 := hr_c1_1
        have e3 : hr_c3 (1 :: S'') = hr_c3 S'' := hr_c3_o (by omega)
        rw [e1, e3] at g4
        have ok := rn.1
        have tt := c.2.2.2.2.2.2.1
        have hN := c.1.2.2.2.1.2.1
        refine ⟨by first | omega | (simp (disch := omega) only [hh_up_ne, hh_up_at, hh_up_off]; omega), ?_⟩
        refine c_rnx (S' := S'') (ty' := ty) c h4 (fun r z1 z2 => by rw [hh_up_ne z1, hh_up_ne z1]) (fun f z1 z2 z3 z4 => by rw [hh_up_off z3, hh_up_off z2]) (by rw [hh_up_off (by omega), hh_up_off (by omega)]; exact c.2.2.2.2.1.1) ⟨by rw [hh_up_off (by omega), hh_up_at, g3.1]; omega, by rw [hh_up_ne (by omega), hh_up_ne (by omega)]; exact g3.2.2.2⟩ ⟨?_, by rw [hh_up_off (by omega), hh_up_off (by omega)]; exact g4.2.1, by omega, by omega⟩ (fun ρ2 k' s' e' nt c2 => ?_)
        · simp (disch := omega) only [hh_up_at, hh_up_off]
          rw [g4.1]; omega
        · obtain ⟨k2, s2, e2, nt2, rn2⟩ := on
          obtain ⟨q1, q2, q3⟩ := nt.un nt2
          subst q1; subst q2; subst q3
          refine c_X12_parted c2 rn2 (fun ρ3 S3 o3 m3 hm3 c3 rn3 => ?_)
          unfold B_X12_expression_205
          exact hk (n - 1) _ _ _ (by omega) (Or.inr ⟨S3, k', s', e', o3, ty, m3, c3, Or.inl ⟨by omega, rfl, Or.inr ⟨rfl, rn3⟩⟩⟩)
      · have wr := hr_wk_r k (b s)
        have nd := hr_nd_d (hr_wk k (b s))
        have B68 : ∀ q : Int, q = hr_nd (hr_wk k (b s)) → B_X12_expression_68 (d + 4) Q kk 0 1 (hr_wk k (b s)) q τ := by
          intro q hq0
          unfold B_X12_expression_68
          refine c_X12_works h h4 hr hq0 (fun ρ S' o' m' mm c rn np c1 => ?_)
          cases m' with
          | zero => exact absurd rn (fun z => z)
          | succ m' =>
          have h2 := ((((rn.2.2.2 rfl).2 h4).2 np).1 w0)
          have ok := rn.1
          have tt := c.2.2.2.2.2.2.1
          have t3 := c.2.2.2.2.2.2.2.2.2.1
          have hN := c.1.2.2.2.1.2.1
          have g3 := c.2.2.1
          have g4 := c.2.2.2.1
          have PU : ¬ (hr_wk k (b s) / 10 = 3 ∧ hr_tp S' / 10 = 3) → B_X12_expression_111 (d + 4) Q kk 1 (hr_wk k (b s)) ρ := by
            intro y
            unfold B_X12_expression_111
            rw [g3.1]
            refine ⟨by omega, ?_⟩
            refine c_rnx (S' := hr_wk k (b s) :: S') (ty' := ty) c h4 (fun r z1 z2 => by rw [hh_up_ne z1, hh_up_ne z2]) (fun f z1 z2 z3 z4 => by rw [hh_up_off z2, hh_up_ne (by omega)]) (by rw [hh_up_off (by omega), hh_up_ne (by omega)]; exact c.2.2.2.2.1.1) ⟨by rw [hh_up_at, List.length_cons]; omega, by rw [hh_up_ne (by omega), hh_up_at], by omega, hr_st5.cg S' g3.2 (fun i i1 i2 => by rw [hh_up_ne (by omega), hh_up_off (by omega)])⟩ (by rw [hr_c1_o (by omega), hr_c3_o (by omega), hh_up_off (by omega), hh_up_off (by omega), hh_up_ne (by omega)]; exact g4) (fun ρ2 k' s' e' nt c2 => ?_)
            obtain ⟨k2, s2, e2, nt2, rn2⟩ := h2.2 y
            obtain ⟨q1, q2, q3⟩ := nt.un nt2
            subst q1; subst q2; subst q3
            unfold B_X12_expression_205
            exact hk (n - 1) _ _ _ (by omega) (Or.inr ⟨_, k', s', e', o', ty, m', c2, Or.inl ⟨by omega, rfl, Or.inl ⟨rfl, rn2⟩⟩⟩)
          refine ⟨by omega, fun y => PU (fun w => y w.1), fun y => ?_⟩
          rw [g3.1]
          cases S' with
          | nil => exact ⟨fun _ => PU (fun w => absurd w.2 (by show ¬ (0 : Int) / 10 = 3; decide)), fun z => absurd (Int.le_refl 0) z⟩
          | cons t S'' =>
            have es : ((t :: S'').length : Int) = S''.length + 1 := by rw [List.length_cons]; omega
            have g3b := g3.2
            rw [es, show (S''.length : Int) + 1 - 1 = S''.length by omega, g3b.1]
            rw [es] at ok
            have tbd := g3b.2.1
            refine ⟨fun z => by omega, fun _ => ⟨by omega, fun z => PU (fun w => z w.2), fun z => ?_⟩⟩
            refine c_X12_wrong c h4 (fun ρ2 hρ2 => ?_)
            unfold B_X12_expression_205
            exact hk (n - 1) _ _ _ (by omega) (Or.inl ⟨s, h2.1 ⟨y, z⟩, hρ2⟩)
        refine ⟨by omega, fun y => ⟨by omega, B68 _ (by omega)⟩, fun y => B68 _ (by omega)⟩
    · rcases I with ⟨-, hr⟩ | ⟨z2, _⟩
      · refine c_X12_begins h h4 hr (fun ρ p z1 z2 => hk (n - 1) _ _ _ (by omega) (Or.inl ⟨p, z1, z2⟩)) (fun ρ S' k' s' e' m' mm c rn => hk (n - 1) _ _ _ (by omega) (Or.inr ⟨S', k', s', e', o, ty, m', c, Or.inl ⟨by omega, rfl, Or.inl ⟨rfl, rn⟩⟩⟩)) (fun ρ S' k' s' e' o' ty' m' mm c rn => hk (n - 1) _ _ _ (by omega) (Or.inr ⟨S', k', s', e', o', ty', m', c, Or.inl ⟨by omega, rfl, Or.inr ⟨rfl, rn⟩⟩⟩))
      · exact absurd z2 z
  · have k12 := h.2.2.2.2.2.1.1 h4
    have E : B_X12_expression_208 (d + 4) Q τ := by
      unfold B_X12_expression_208
      refine ⟨fun z => absurd k12.2 z, fun _ => c_X12_works h h4 hr (by rw [w0]; rfl) (fun ρ S' o' m' mm c rn np c1 => ?_)⟩
      cases m' with
      | zero => exact absurd rn (fun z => z)
      | succ m' =>
      have h2 := (((rn.2.2.2 rfl).2 h4).2 np).2 w0
      have ok := rn.1
      exact hq ρ (Or.inr ⟨S', k, s, e, o', ty, h2.2.2 (by omega), c, h4, by omega⟩)
    unfold B_X12_expression_19
    exact ⟨fun _ => E, fun z => absurd rfl z⟩
end hr_rex
