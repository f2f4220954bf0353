/-! terms: the reference's reading, its leaves -/
def hr_orl (g : Int → Int) (a : Int) : hr_wl → Prop
  | [] => True
  | p :: l => g (a + 1 + 2 * l.length) = p.1 ∧ g (a + 2 + 2 * l.length) = p.2 ∧ hr_orl g a l
theorem hr_orl.cg {f g : Int → Int} {a : Int} : ∀ l : hr_wl, hr_orl f a l → (∀ i : Int, a + 1 ≤ i → i < a + 1 + 2 * l.length → g i = f i) → hr_orl g a l
  | [], _, _ => True.intro
  | p :: l, h, e => by
    have el : ((p :: l).length : Int) = l.length + 1 := by rw [List.length_cons]; omega
    rw [el] at e
    exact ⟨by rw [e _ (by omega) (by omega)]; exact h.1, by rw [e _ (by omega) (by omega)]; exact h.2.1, hr_orl.cg l h.2.2 (fun i i1 i2 => e i i1 (by omega))⟩
def hr_st5 (g : Int → Int) : List Int → Prop
  | [] => True
  | t :: S => g S.length = t ∧ (1 ≤ t ∧ t ≤ 51) ∧ hr_st5 g S
theorem hr_st5.cg {f g : Int → Int} : ∀ S : List Int, hr_st5 f S → (∀ i : Int, 0 ≤ i → i < S.length → g i = f i) → hr_st5 g S
  | [], _, _ => True.intro
  | t :: S, h, e => by
    have el : ((t :: S).length : Int) = S.length + 1 := by rw [List.length_cons]; omega
    rw [el] at e
    exact ⟨by rw [e _ (by omega) (by omega)]; exact h.1, h.2.1, hr_st5.cg S h.2.2 (fun i i1 i2 => e i i1 (by omega))⟩
/-- what the reading leaves as it was -/
def hr_rf (π : hh_S) (b : Int → Int) (N x : Int) (σ : hh_S) : Prop := (∀ r : Nat, r ≠ 128 → r ≠ 134 → r ≠ 135 → σ r = π r) ∧ (∀ f : Int, f < 7 ∨ f = 9 ∨ 20 < f → σ 128 f = π 128 f) ∧ (∀ i : Int, i < 241 * x + 1 → σ 134 i = π 134 i) ∧ ((x = 0 ∨ x = 1) ∧ hr_rb σ b N) ∧ (0 ≤ σ 128 7 ∧ σ 128 7 ≤ 120 ∧ σ 128 8 ≤ 120)
/-- the reference's state within an expression -/
def hr_rst (π : hh_S) (b : Int → Int) (N x : Int) (σ : hh_S) (S : List Int) (k s e : Int) (o : hr_wl) (ty : Int) : Prop :=
  hr_rf π b N x σ ∧ (σ 128 13 = x ∧ σ 128 14 = o.length ∧ hr_orl (σ 134) (241 * x) o) ∧ (σ 128 18 = S.length ∧ hr_st5 (σ 135) S) ∧ (σ 128 19 = hr_c1 S ∧ σ 128 20 = hr_c3 S ∧ hr_c1 S ≤ 8 ∧ hr_c3 S ≤ 8) ∧ (σ 128 15 = ty ∧ σ 128 7 = s ∧ σ 128 8 = e) ∧ ((k ≠ 4 → σ 128 10 = k ∧ σ 128 12 = 0) ∧ (k = 4 → σ 128 12 = 1 ∧ σ 128 11 = s)) ∧ hr_tf b N k s e
/-- it has gone wrong at p -/
def hr_rw (π : hh_S) (b : Int → Int) (N x : Int) (σ : hh_S) (p : Int) : Prop := hr_rf π b N x σ ∧ σ 128 12 = 1 ∧ σ 128 11 = p
section hr_ref
variable {π : hh_S} {b : Int → Int} {N x : Int}
theorem c_X12_isSign {d : Nat} {σ : hh_S} {S : List Int} {k s e a : Int} {o : hr_wl} {ty : Int} {Q : Int → hh_S → Prop} (h : hr_rst π b N x σ S k s e o ty) (h4 : k ≠ 4) (h1 : k = 3 → b s = a → Q 1 σ) (h0 : (k ≠ 3 ∨ b s ≠ a) → Q 0 σ) : hh_Sp (d + 1) hm_X12_isSign [hh_R 128, hh_I a] σ Q := by
  obtain ⟨f1, f2, f3, f4, f5, f6, f7⟩ := h
  refine wp_X12_isSign _ (fun _ _ => ?_)
  unfold P_X12_isSign
  have q := (f6.1 h4).1
  have hN := f1.2.2.2.1.2.1
  rw [q, f5.2.1, f1.2.2.2.1.2.2]
  have t1 := f7.1
  have t3 := f7.2.2.2.1
  refine ⟨fun z => h0 (Or.inl z), fun z => ⟨?_, fun y => h0 (Or.inr y), fun y => h1 z y⟩⟩
  have := t3 (by omega)
  omega
theorem c_X12_wrong {d : Nat} {σ : hh_S} {S : List Int} {k s e : Int} {o : hr_wl} {ty : Int} {Q : Int → hh_S → Prop} (h : hr_rst π b N x σ S k s e o ty) (h4 : k ≠ 4) (hq : ∀ ρ : hh_S, hr_rw π b N x ρ s → Q 0 ρ) : hh_Sp (d + 1) hm_X12_wrong [hh_R 128] σ Q := by
  obtain ⟨⟨r1, r2, r3, r4, r5⟩, f2, f3, f4, f5, f6, f7⟩ := h
  refine wp_X12_wrong (fun _ => ?_)
  unfold P_X12_wrong B_X12_wrong_15
  refine ⟨fun z => absurd (f6.1 h4).2 z, fun _ => hq _ ⟨⟨fun r z1 z2 z3 => by rw [hh_up_ne z1, hh_up_ne z1]; exact r1 r z1 z2 z3, fun f hf => by rw [hh_up_off (by omega), hh_up_off (by omega)]; exact r2 f hf, fun i hi => by rw [hh_up_ne (by omega), hh_up_ne (by omega)]; exact r3 i hi, ⟨r4.1, ?_⟩, ?_⟩, by rw [hh_up_at], by rw [hh_up_off (by omega), hh_up_at, f5.2.1]⟩⟩
  · unfold hr_rb
    rw [hh_up_off (by omega), hh_up_off (by omega), hh_up_ne (by omega), hh_up_ne (by omega)]
    exact r4.2
  · rw [hh_up_off (by omega), hh_up_off (by omega), hh_up_off (by omega), hh_up_off (by omega)]
    exact r5
/-- a word is written -/
theorem c_X12_emit {d : Nat} {σ τ : hh_S} {S S' : List Int} {k s e w v : Int} {o : hr_wl} {ty : Int} {Q : Int → hh_S → Prop} (h : hr_rst π b N x σ S k s e o ty) (e1 : ∀ r : Nat, r ≠ 128 → τ r = σ r) (e2 : ∀ f : Int, f ≠ 18 → f ≠ 20 → τ 128 f = σ 128 f) (e18 : τ 128 18 = S'.length) (e20 : τ 128 20 = hr_c3 S') (hs : hr_st5 (σ 135) S') (hc : hr_c1 S' = hr_c1 S ∧ hr_c3 S' ≤ 8) (hl : (o.length : Int) ≤ 119) (hq : ∀ ρ : hh_S, hr_rst π b N x ρ S' k s e ((w, v) :: o) ty → Q 0 ρ) : hh_Sp (d + 1) hm_X12_emit [hh_R 128, hh_I w, hh_I v] τ Q := by
  obtain ⟨⟨r1, r2, r3, r4, r5⟩, f2, f3, f4, f5, f6, f7⟩ := h
  have hx := r4.1
  have el : (((w, v) :: o).length : Int) = o.length + 1 := by rw [List.length_cons]; omega
  refine wp_X12_emit _ _ (fun _ _ _ => ?_)
  unfold P_X12_emit
  rw [e2 13 (by omega) (by omega), e2 14 (by omega) (by omega), f2.1, f2.2.1]
  refine ⟨by omega, ?_⟩
  refine hh_name (P := fun ρ => Q 0 ρ) (fun ρ hρ => ?_)
  have a1 : ∀ r : Nat, r ≠ 128 → r ≠ 134 → ρ r = σ r := fun r z1 z2 => by rw [hρ, hh_up_ne z1, hh_up_ne z2, hh_up_ne z2, e1 r z1]
  have a2 : ∀ f : Int, f ≠ 14 → ρ 128 f = τ 128 f := fun f hf => by rw [hρ, hh_up_off hf, hh_up_ne (by omega), hh_up_ne (by omega)]
  have a3 : ∀ f : Int, f ≠ 14 → f ≠ 18 → f ≠ 20 → ρ 128 f = σ 128 f := fun f z1 z2 z3 => by rw [a2 f z1, e2 f z2 z3]
  have a14 : ρ 128 14 = o.length + 1 := by rw [hρ, hh_up_at]
  have a4 : ∀ i : Int, i < 241 * x + 1 + 2 * o.length → ρ 134 i = σ 134 i := fun i hi => by rw [hρ, hh_up_ne (by omega), hh_up_off (by omega), hh_up_off (by omega), e1 134 (by omega)]
  have a5 : ρ 134 (241 * x + 1 + 2 * o.length) = w := by rw [hρ, hh_up_ne (by omega), hh_up_off (by omega), hh_up_at]
  have a6 : ρ 134 (241 * x + 2 + 2 * o.length) = v := by rw [hρ, hh_up_ne (by omega), show 241 * x + 2 + 2 * (o.length : Int) = 241 * x + 1 + 2 * o.length + 1 by omega, hh_up_at]
  clear hρ
  refine hq ρ ⟨⟨fun r z1 z2 z3 => by rw [a1 r z1 z2]; exact r1 r z1 z2 z3, fun f hf => by rw [a3 f (by omega) (by omega) (by omega)]; exact r2 f hf, fun i hi => by rw [a4 i (by omega)]; exact r3 i hi, ⟨hx, ?_⟩, by rw [a3 7 (by omega) (by omega) (by omega), a3 8 (by omega) (by omega) (by omega)]; exact r5⟩, ⟨by rw [a3 13 (by omega) (by omega) (by omega)]; exact f2.1, by rw [a14, el], a5, a6, hr_orl.cg o f2.2.2 (fun i i1 i2 => a4 i i2)⟩, ⟨by rw [a2 18 (by omega)]; exact e18, by rw [a1 135 (by omega) (by omega)]; exact hs⟩, ⟨by rw [a3 19 (by omega) (by omega) (by omega), hc.1]; exact f4.1, by rw [a2 20 (by omega)]; exact e20, by rw [hc.1]; exact f4.2.2.1, hc.2⟩, by rw [a3 15 (by omega) (by omega) (by omega), a3 7 (by omega) (by omega) (by omega), a3 8 (by omega) (by omega) (by omega)]; exact f5, by rw [a3 10 (by omega) (by omega) (by omega), a3 12 (by omega) (by omega) (by omega), a3 11 (by omega) (by omega) (by omega)]; exact f6, f7⟩
  unfold hr_rb
  rw [a3 9 (by omega) (by omega) (by omega), a1 133 (by omega) (by omega)]
  exact r4.2
/-- the words that stand above are worked off -/
theorem c_X12_works {d : Nat} {R : hr_rs} {σ : hh_S} {S : List Int} {k s e : Int} {o : hr_wl} {ty : Int} {m : Nat} {q : Int} {Q : Int → hh_S → Prop} (h : hr_rst π b N x σ S k s e o ty) (h4 : k ≠ 4) (hr : hr_rn b N R m 2 S k s e o ty) (hq0 : q = hr_nd (hr_wk k (b s))) (hq : ∀ (ρ : hh_S) (S' : List Int) (o' : hr_wl) (m' : Nat), m' ≤ m → hr_rst π b N x ρ S' k s e o' ty → hr_rn b N R m' 2 S' k s e o' ty → ¬ hr_pb S' (hr_wk k (b s)) → hr_c1 S' = hr_c1 S → Q 0 ρ) : hh_Sp (d + 2) hm_X12_works [hh_R 128, hh_I q] σ Q := by
  refine wp_X12_works _ (fun _ _ => ?_)
  refine hh_lp1_of (fun n y τ => y = q ∧ ∃ (S' : List Int) (o' : hr_wl), n ≤ m ∧ hr_rst π b N x τ S' k s e o' ty ∧ hr_rn b N R n 2 S' k s e o' ty ∧ hr_c1 S' = hr_c1 S) ?_ m q σ ⟨rfl, S, o, Nat.le_refl _, h, hr, rfl⟩
  clear h hr
  rintro n y τ kk ⟨rfl, S', o', nm, h, hr, hc⟩ hk
  cases n with
  | zero => exact absurd hr (fun z => z)
  | succ n =>
  obtain ⟨ok, -, -, h2⟩ := hr
  have h2 := (h2 rfl).2 h4
  have ht := h.2.2.2.2.2.2
  have hN := h.1.2.2.2.1.2.1
  have t1 := ht.1
  have f3 := h.2.2.1
  have END : ¬ hr_pb S' (hr_wk k (b s)) → Q 0 τ := fun z => hq τ S' o' (n + 1) nm h ⟨ok, fun y => by omega, fun y => by omega, fun _ => ⟨fun y => absurd y h4, fun _ => h2⟩⟩ z hc
  unfold B_X12_works_0
  rw [f3.1]
  cases S' with
  | nil =>
    refine ⟨fun _ => END (fun z => ?_), fun z => absurd (Int.le_refl 0) z⟩
    have : (10 : Int) ≤ 0 := z.1
    omega
  | cons t S'' =>
    have el : ((t :: S'').length : Int) = S''.length + 1 := by rw [List.length_cons]; omega
    have f3b := f3.2
    rw [el, show (S''.length : Int) + 1 - 1 = S''.length by omega, f3b.1]
    rw [el] at ok
    have ol : (0 : Int) ≤ o'.length := by omega
    refine ⟨fun z => by omega, fun _ => ⟨by omega, fun z => END (fun y => ?_), fun z => ⟨by omega, fun z2 => END (fun y => ?_), fun z2 => ⟨by omega, ?_⟩⟩⟩⟩
    · have : (10 : Int) ≤ t := y.1
      omega
    · have y2 : hr_nd (hr_wk k (b s)) ≤ t / 10 := y.2
      omega
    · have pb : hr_pb (t :: S'') (hr_wk k (b s)) := ⟨by show 10 ≤ t; omega, by show hr_nd (hr_wk k (b s)) ≤ t / 10; omega⟩
      have nxt := h2.1 pb t S'' rfl
      have c1 : hr_c1 (t :: S'') = hr_c1 S'' := hr_c1_o (by omega)
      have c3 : hr_c3 (t :: S'') = hr_c3 S'' := hr_c3_o (by omega)
      have f4 := h.2.2.2.1
      refine c_X12_emit (S' := S'') h (fun r hr => by rw [hh_up_ne hr]) (fun f z1 z2 => by rw [hh_up_off z1]) (by rw [hh_up_at]) (by rw [hh_up_off (by omega), f4.2.1, c3]) f3b.2.2 ⟨c1.symm, by rw [← c3]; exact f4.2.2.2⟩ (by omega) (fun ρ hρ => ?_)
      exact hk n _ ρ rfl ⟨rfl, S'', _, by omega, hρ, nxt, by rw [← c1]; exact hc⟩
/-- behind a part -/
theorem c_X12_parted {d : Nat} {R : hr_rs} {σ : hh_S} {S : List Int} {k s e : Int} {o : hr_wl} {ty : Int} {m : Nat} {Q : Int → hh_S → Prop} (h : hr_rst π b N x σ S k s e o ty) (hr : hr_rn b N R m 1 S k s e o ty) (hq : ∀ (ρ : hh_S) (S' : List Int) (o' : hr_wl) (m' : Nat), m' + 1 ≤ m → hr_rst π b N x ρ S' k s e o' ty → hr_rn b N R m' 2 S' k s e o' ty → Q 0 ρ) : hh_Sp (d + 2) hm_X12_parted [hh_R 128] σ Q := by
  refine wp_X12_parted (fun _ => ?_)
  refine hh_lp0_of (fun n τ => ∃ (S' : List Int) (o' : hr_wl), n ≤ m ∧ hr_rst π b N x τ S' k s e o' ty ∧ hr_rn b N R n 1 S' k s e o' ty) ?_ m σ ⟨S, o, Nat.le_refl _, h, hr⟩
  clear h hr
  rintro n τ kk ⟨S', o', nm, h, hr⟩ hk
  cases n with
  | zero => exact absurd hr (fun z => z)
  | succ n =>
  obtain ⟨ok, -, h1, -⟩ := hr
  have h1 := h1 rfl
  have ht := h.2.2.2.2.2.2
  have hN := h.1.2.2.2.1.2.1
  have t1 := ht.1
  have f3 := h.2.2.1
  unfold B_X12_parted_0
  rw [f3.1]
  cases S' with
  | nil => exact ⟨fun _ => hq τ [] o' n nm h (h1.2 (by show (0 : Int) ≠ 3; omega)), fun z => absurd (Int.le_refl 0) z⟩
  | cons t S'' =>
    have el : ((t :: S'').length : Int) = S''.length + 1 := by rw [List.length_cons]; omega
    have f3b := f3.2
    rw [el, show (S''.length : Int) + 1 - 1 = S''.length by omega, f3b.1]
    rw [el] at ok
    have f4 := h.2.2.2.1
    refine ⟨fun z => by omega, fun _ => ⟨by omega, fun z => hq τ _ o' n nm h (h1.2 z), fun z => ?_⟩⟩
    subst z
    have c1 : hr_c1 (3 :: S'') = hr_c1 S'' := hr_c1_o (by omega)
    have c3 : hr_c3 (3 :: S'') = hr_c3 S'' + 1 := hr_c3_3
    have n3 := hr_c3_nn S''
    have q20 : τ 128 20 = hr_c3 S'' + 1 := by rw [f4.2.1, c3]
    refine ⟨by rw [q20]; omega, ?_⟩
    refine c_X12_emit (S' := S'') h (fun r hr => by rw [hh_up_ne hr, hh_up_ne hr]) (fun f z1 z2 => by rw [hh_up_off z2, hh_up_off z1]) (by rw [hh_up_off (by omega), hh_up_at]) (by rw [hh_up_at, q20]; omega) f3b.2.2 ⟨c1.symm, by omega⟩ (by omega) (fun ρ hρ => ?_)
    exact hk n ρ rfl ⟨S'', _, by omega, hρ, h1.1 S'' rfl⟩
theorem c_X12_signHere {d : Nat} {σ : hh_S} {S : List Int} {k s e : Int} {o : hr_wl} {ty : Int} {Q : Int → hh_S → Prop} (h : hr_rst π b N x σ S k s e o ty) (h4 : k ≠ 4) (hq : Q (hr_wk k (b s)) σ) : hh_Sp (d + 1) hm_X12_signHere [hh_R 128] σ Q := by
  obtain ⟨f1, f2, f3, f4, f5, f6, f7⟩ := h
  refine wp_X12_signHere (fun _ => ?_)
  unfold P_X12_signHere
  have q := (f6.1 h4).1
  have hN := f1.2.2.2.1.2.1
  rw [q, f5.2.1, f1.2.2.2.1.2.2]
  have t1 := f7.1
  have t3 := f7.2.2.2.1
  refine ⟨fun z => ?_, fun z => ?_⟩
  · rw [z, hr_wk_3] at hq
    have g := hr_sg_d (b s)
    have t3' := t3 (by omega)
    refine ⟨by omega, fun y => ?_, fun y => ?_, fun y => ?_, fun y => ?_, fun y => ?_, fun y => ?_, fun y => ?_, fun y => ?_, fun y => ?_, fun y => ?_⟩
    · rw [g.1 y] at hq; exact hq
    · rw [g.2.1 y] at hq; exact hq
    · rw [g.2.2.1 y] at hq; exact hq
    · rw [g.2.2.2.1 y] at hq; exact hq
    · rw [g.2.2.2.2.1 y] at hq; exact hq
    · rw [g.2.2.2.2.2.1 y] at hq; exact hq
    · rw [g.2.2.2.2.2.2.1 y] at hq; exact hq
    · rw [g.2.2.2.2.2.2.2.1 y] at hq; exact hq
    · rw [g.2.2.2.2.2.2.2.2.1 y] at hq; exact hq
    · rw [g.2.2.2.2.2.2.2.2.2 y] at hq; exact hq
  · rw [hr_wk_n _ z] at hq
    exact hq
/-- reading on -/
theorem hr_rst.nx {σ τ ρ : hh_S} {S S' : List Int} {k s e k' s' e' : Int} {o o' : hr_wl} {ty ty' : Int} (h : hr_rst π b N x σ S k s e o ty) (e1 : ∀ r : Nat, r ≠ 128 → r ≠ 135 → τ r = σ r) (e2 : ∀ f : Int, f ≠ 15 → f ≠ 18 → f ≠ 19 → f ≠ 20 → τ 128 f = σ 128 f) (e15 : τ 128 15 = ty') (e18 : τ 128 18 = S'.length ∧ hr_st5 (τ 135) S') (e19 : τ 128 19 = hr_c1 S' ∧ τ 128 20 = hr_c3 S' ∧ hr_c1 S' ≤ 8 ∧ hr_c3 S' ≤ 8) (fm : hr_fm τ ρ) (nt : hr_nt b N k e k' s' e') (q7 : ρ 128 7 = s') (q8 : ρ 128 8 = e') (q10 : k' ≠ 4 → ρ 128 10 = k' ∧ ρ 128 12 = 0) (q12 : k' = 4 → ρ 128 12 = 1 ∧ ρ 128 11 = s') : hr_rst π b N x ρ S' k' s' e' o ty' := by
  obtain ⟨⟨r1, r2, r3, r4, r5⟩, f2, f3, f4, f5, f6, f7⟩ := h
  have t1 := f7.1
  have n1 := nt.1
  have hN := r4.2.1
  refine ⟨⟨fun r z1 z2 z3 => by rw [fm.1 r z1, e1 r z1 z3]; exact r1 r z1 z2 z3, fun f hf => by rw [fm.2 f (by omega), e2 f (by omega) (by omega) (by omega) (by omega)]; exact r2 f hf, fun i hi => by rw [fm.1 134 (by omega), e1 134 (by omega) (by omega)]; exact r3 i hi, ⟨r4.1, ?_⟩, by omega⟩, ⟨by rw [fm.2 13 (by omega), e2 13 (by omega) (by omega) (by omega) (by omega)]; exact f2.1, by rw [fm.2 14 (by omega), e2 14 (by omega) (by omega) (by omega) (by omega)]; exact f2.2.1, by rw [fm.1 134 (by omega), e1 134 (by omega) (by omega)]; exact f2.2.2⟩, ⟨by rw [fm.2 18 (by omega)]; exact e18.1, by rw [fm.1 135 (by omega)]; exact e18.2⟩, ⟨by rw [fm.2 19 (by omega)]; exact e19.1, by rw [fm.2 20 (by omega)]; exact e19.2.1, e19.2.2⟩, ⟨by rw [fm.2 15 (by omega)]; exact e15, q7, q8⟩, ⟨q10, q12⟩, nt.tf (by omega)⟩
  unfold hr_rb
  rw [fm.2 9 (by omega), e2 9 (by omega) (by omega) (by omega) (by omega), fm.1 133 (by omega), e1 133 (by omega) (by omega)]
  exact r4.2
theorem c_rnx {d : Nat} {σ τ : hh_S} {S S' : List Int} {k s e : Int} {o : hr_wl} {ty ty' : Int} {Q : Int → hh_S → Prop} (h : hr_rst π b N x σ S k s e o ty) (h4 : k ≠ 4) (e1 : ∀ r : Nat, r ≠ 128 → r ≠ 135 → τ r = σ r) (e2 : ∀ f : Int, f ≠ 15 → f ≠ 18 → f ≠ 19 → f ≠ 20 → τ 128 f = σ 128 f) (e15 : τ 128 15 = ty') (e18 : τ 128 18 = S'.length ∧ hr_st5 (τ 135) S') (e19 : τ 128 19 = hr_c1 S' ∧ τ 128 20 = hr_c3 S' ∧ hr_c1 S' ≤ 8 ∧ hr_c3 S' ≤ 8) (hq : ∀ (ρ : hh_S) (k' s' e' : Int), hr_nt b N k e k' s' e' → hr_rst π b N x ρ S' k' s' e' o ty' → Q 0 ρ) : hh_Sp (d + 3) hm_X12_next [hh_R 128] τ Q := by
  have h' := h
  obtain ⟨⟨r1, r2, r3, r4, r5⟩, f2, f3, f4, f5, f6, f7⟩ := h'
  have t1 := f7.1
  have t2 := f7.2.1
  have k10 := f6.1 h4
  have q8 : τ 128 8 = e := by rw [e2 8 (by omega) (by omega) (by omega) (by omega), f5.2.2]
  have q10 : τ 128 10 = k := by rw [e2 10 (by omega) (by omega) (by omega) (by omega), k10.1]
  refine c_X12_next (b := b) (N := N) (k := k) ?_ (by rw [q8]; omega) (by rw [q10]; omega) (by rw [e2 12 (by omega) (by omega) (by omega) (by omega)]; exact k10.2) (by rw [q10]) (fun ρ k' s' e' fm nt q7 q8' q10' q12' => ?_)
  · unfold hr_rb
    rw [e2 9 (by omega) (by omega) (by omega) (by omega), e1 133 (by omega) (by omega)]
    exact r4.2
  · rw [q8] at nt
    exact hq ρ k' s' e' nt (h.nx (o' := o) e1 e2 e15 e18 e19 fm nt q7 q8' q10' q12')
end hr_ref
