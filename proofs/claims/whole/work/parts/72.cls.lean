/-! terms: the class's reading, its leaves -/
def hr_tf (b : Int → Int) (N k s e : Int) : Prop := (0 ≤ s ∧ s ≤ e ∧ e ≤ N) ∧ (0 ≤ k ∧ k ≤ 4) ∧ (k = 0 → s = N) ∧ (k ≠ 0 → s < N ∧ s < e) ∧ (k = 3 → e = s + 1 ∧ hr_srt (b s) = 3) ∧ (k = 2 → ∀ j : Int, s ≤ j → j < e → 48 ≤ b j ∧ b j ≤ 57) ∧ (k = 1 → ∀ j : Int, s ≤ j → j < e → 97 ≤ b j ∧ b j ≤ 122)
theorem hr_nt.tf {b : Int → Int} {N k e k' s' e' : Int} (h : hr_nt b N k e k' s' e') (he : 0 ≤ e) : hr_tf b N k' s' e' := by
  have := h.1
  exact ⟨by omega, h.f⟩
def hr_fp (π σ : hh_S) (o0 : Int) : Prop := (∀ r : Nat, r ≠ 109 → r ≠ 111 → σ r = π r) ∧ (∀ i : Int, i < o0 → σ 111 i = π 111 i) ∧ (∀ f : Int, f < 3 ∨ f = 4 ∨ 11 < f → σ 109 f = π 109 f)
def hr_live (b : Int → Int) (N o0 : Int) (σ : hh_S) (S : List Int) (k s e : Int) (o : hr_wl) (ty : Int) : Prop := (σ 109 7 = s ∧ σ 109 8 = e ∧ hr_ckr (σ 109 6) k s e) ∧ hr_tf b N k s e ∧ (σ 109 3 = o0 + o.length ∧ 0 ≤ o0 ∧ o0 + o.length + S.length ≤ s) ∧ (σ 109 5 = ty ∧ 0 ≤ ty ∧ ty ≤ s) ∧ hr_ol (σ 111) o0 o ∧ hr_lw o
/-- the class's state within an expression -/
def hr_cst (π : hh_S) (b : Int → Int) (N o0 : Int) (σ : hh_S) (S : List Int) (f k s e : Int) (o : hr_wl) (ty : Int) : Prop :=
  hr_fp π σ o0 ∧ (σ 109 11 = f ∧ (f = -1000000005 ∨ 0 ≤ f ∧ f ≤ 120)) ∧ (σ 109 9 = hr_c1 S ∧ σ 109 10 = hr_c3 S) ∧ (0 ≤ o0 ∧ o0 ≤ σ 109 3 ∧ σ 109 3 ≤ 120 ∧ 0 ≤ σ 109 5 ∧ σ 109 5 ≤ 120) ∧ (f = -1000000005 → hr_live b N o0 σ S k s e o ty)
section hr_cls
variable {π : hh_S} {b : Int → Int} {N o0 : Int}
theorem hr_cst.tb {σ : hh_S} {S : List Int} {f k s e : Int} {o : hr_wl} {ty : Int} (h : hr_cst π b N o0 σ S f k s e o ty) (ht : hr_tb π b N) : hr_tb σ b N := by
  refine ⟨by rw [h.1.2.2 1 (by omega)]; exact ht.1, fun j j1 j2 => by rw [h.1.1 110 (by omega) (by omega)]; exact ht.2 j j1 j2⟩
theorem c_X8_put {d : Nat} {σ : hh_S} {v : Int} {Q : Int → hh_S → Prop} (h3 : 0 ≤ σ 109 3 ∧ σ 109 3 ≤ 120) (hq : ∀ ρ : hh_S, (∀ r : Nat, r ≠ 109 → r ≠ 111 → ρ r = σ r) → (∀ f : Int, f ≠ 3 → ρ 109 f = σ 109 f) → (σ 109 3 < 120 → ρ 109 3 = σ 109 3 + 1 ∧ ρ 111 (σ 109 3) = v ∧ ∀ i : Int, i ≠ σ 109 3 → ρ 111 i = σ 111 i) → (120 ≤ σ 109 3 → ρ = σ) → Q 0 ρ) : hh_Sp (d + 1) hm_X8_put [hh_R 109, hh_I v] σ Q := by
  refine wp_X8_put _ (fun _ _ => ?_)
  unfold P_X8_put
  refine ⟨fun c => hq σ (fun _ _ _ => rfl) (fun _ _ => rfl) (fun z => by omega) (fun _ => rfl), fun c => ⟨by omega, ?_⟩⟩
  refine hq _ (fun r r1 r2 => by rw [hh_up_ne r1, hh_up_ne r2]) (fun f hf => by rw [hh_up_off hf, hh_up_ne (by omega)]) (fun _ => ⟨by rw [hh_up_at], by rw [hh_up_ne (by omega), hh_up_at], fun i hi => by rw [hh_up_ne (by omega), hh_up_off hi]⟩) (fun z => absurd z c)
theorem hr_cst.pt {σ ρ : hh_S} {S : List Int} {f k s e t v : Int} {o : hr_wl} {ty : Int} (h : hr_cst π b N o0 σ (t :: S) f k s e o ty) (hN : N ≤ 120) (e1 : ∀ r : Nat, r ≠ 109 → r ≠ 111 → ρ r = σ r) (e2 : ∀ g : Int, g ≠ 3 → g ≠ 9 → g ≠ 10 → ρ 109 g = σ 109 g) (e9 : ρ 109 9 = hr_c1 S) (e10 : ρ 109 10 = hr_c3 S) (e3 : σ 109 3 < 120 → ρ 109 3 = σ 109 3 + 1 ∧ ρ 111 (σ 109 3) = v ∧ ∀ i : Int, i ≠ σ 109 3 → ρ 111 i = σ 111 i) (e4 : 120 ≤ σ 109 3 → ρ 109 3 = σ 109 3 ∧ ρ 111 = σ 111) (hw : f = -1000000005 → hr_wd v t 0 ∧ hr_lw ((t, 0) :: o)) : hr_cst π b N o0 ρ S f k s e ((t, 0) :: o) ty := by
  obtain ⟨⟨f1, f2, f3⟩, f4, f5, f6, f7⟩ := h
  refine ⟨⟨fun r r1 r2 => by rw [e1 r r1 r2]; exact f1 r r1 r2, fun i hi => ?_, fun g hg => by rw [e2 g (by omega) (by omega) (by omega)]; exact f3 g hg⟩, by rw [e2 11 (by omega) (by omega) (by omega)]; exact f4, ⟨e9, e10⟩, ?_, fun z => ?_⟩
  · rcases (show σ 109 3 < 120 ∨ 120 ≤ σ 109 3 by omega) with z | z
    · rw [(e3 z).2.2 i (by omega)]; exact f2 i hi
    · rw [(e4 z).2]; exact f2 i hi
  · rw [e2 5 (by omega) (by omega) (by omega)]
    rcases (show σ 109 3 < 120 ∨ 120 ≤ σ 109 3 by omega) with z | z
    · rw [(e3 z).1]; omega
    · rw [(e4 z).1]; omega
  · obtain ⟨g1, g2, g3, g4, g5, g6⟩ := f7 z
    have g7 := g2.1
    have el : (((t, (0 : Int)) :: o).length : Int) = o.length + 1 := by rw [List.length_cons]; omega
    have es : ((t :: S).length : Int) = S.length + 1 := by rw [List.length_cons]; omega
    rw [es] at g3
    have z3 : σ 109 3 < 120 := by omega
    obtain ⟨y1, y2, y3⟩ := e3 z3
    refine ⟨by rw [e2 7 (by omega) (by omega) (by omega), e2 8 (by omega) (by omega) (by omega), e2 6 (by omega) (by omega) (by omega)]; exact g1, g2, ?_, ?_, ⟨?_, ?_⟩, (hw z).2⟩
    · rw [y1, el]; omega
    · rw [e2 5 (by omega) (by omega) (by omega)]; exact g4
    · rw [← g3.1, y2]; exact (hw z).1
    · exact hr_ol.cg o g5 (fun i i1 i2 => y3 i (by omega))
theorem hr_cst.nx {σ ρ : hh_S} {S : List Int} {k k' s' e' : Int} {o : hr_wl} {ty : Int} (hN : N ≤ 120) (hf : hr_fp π σ o0) (h11 : σ 109 11 = -1000000005) (h9 : σ 109 9 = hr_c1 S ∧ σ 109 10 = hr_c3 S) (h3 : σ 109 3 = o0 + o.length ∧ 0 ≤ o0 ∧ o0 + o.length + S.length ≤ σ 109 8) (h5 : σ 109 5 = ty ∧ 0 ≤ ty ∧ ty ≤ σ 109 8) (ol : hr_ol (σ 111) o0 o) (lw : hr_lw o) (he : 0 ≤ σ 109 8) (fn : hr_fn σ ρ) (nt : hr_nt b N k (σ 109 8) k' s' e') (e7 : ρ 109 7 = s') (e8 : ρ 109 8 = e') (ck : hr_ckr (ρ 109 6) k' s' e') : hr_cst π b N o0 ρ S (-1000000005) k' s' e' o ty := by
  have n1 := nt.1
  obtain ⟨f1, f2, f3⟩ := hf
  refine ⟨⟨fun r r1 r2 => by rw [fn.1 r r1]; exact f1 r r1 r2, fun i hi => by rw [fn.1 111 (by omega)]; exact f2 i hi, fun g hg => by rw [fn.2 g (by omega) (by omega) (by omega)]; exact f3 g hg⟩, ⟨by rw [fn.2 11 (by omega) (by omega) (by omega)]; exact h11, Or.inl rfl⟩, by rw [fn.2 9 (by omega) (by omega) (by omega), fn.2 10 (by omega) (by omega) (by omega)]; exact h9, ?_, fun _ => ⟨⟨e7, e8, ck⟩, nt.tf he, ?_, ?_, ?_, lw⟩⟩
  · rw [fn.2 3 (by omega) (by omega) (by omega), fn.2 5 (by omega) (by omega) (by omega)]; omega
  · rw [fn.2 3 (by omega) (by omega) (by omega)]; omega
  · rw [fn.2 5 (by omega) (by omega) (by omega)]; omega
  · rw [fn.1 111 (by omega)]; exact ol
theorem c_sign {d : Nat} {σ : hh_S} {S : List Int} {f k s e a : Int} {o : hr_wl} {ty : Int} {Q : Int → hh_S → Prop} (ht : hr_tb π b N) (h : hr_cst π b N o0 σ S f k s e o ty) (ha : 0 ≤ a ∧ a ≤ 127) (h1 : f = -1000000005 → k = 3 → b s = a → Q 1 σ) (h0 : (f ≠ -1000000005 ∨ k ≠ 3 ∨ b s ≠ a) → Q 0 σ) : hh_Sp (d + 1) hm_X8_isAtSign [hh_R 109, hh_I a] σ Q := by
  have tb := h.tb ht
  have hN := ht.1
  refine wp_X8_isAtSign _ (fun _ _ => ?_)
  unfold P_X8_isAtSign
  rw [h.2.1.1]
  refine ⟨fun z => h0 (Or.inl z), fun z => ?_⟩
  obtain ⟨⟨g1, g1b, g1c⟩, g2, -⟩ := h.2.2.2.2 z
  unfold hr_ckr at g1c
  have t1 := g2.1
  have t2 := g2.2.1
  have t3 := g2.2.2.2.1
  refine ⟨fun y => h0 (Or.inr (Or.inl (by omega))), fun y => ?_⟩
  have k3 : k = 3 := by omega
  rw [g1]
  have hb := tb.b (show 0 ≤ s by omega) (show s < N by omega)
  have hb2 := (tb.2 s (by omega) (by omega)).2
  refine ⟨by omega, fun w => h0 (Or.inr (Or.inr (by omega))), fun w => h1 z k3 (by omega)⟩
theorem c_X8_fail {d : Nat} {σ : hh_S} {S : List Int} {f k s e : Int} {o : hr_wl} {ty : Int} {Q : Int → hh_S → Prop} (hN : N ≤ 120) (h : hr_cst π b N o0 σ S f k s e o ty) (hq : ∀ (ρ : hh_S) (f' : Int), hr_cst π b N o0 ρ S f' k s e o ty → (f = -1000000005 → f' = s) → (f ≠ -1000000005 → f' = f) → f' ≠ -1000000005 → Q 0 ρ) : hh_Sp (d + 1) hm_X8_fail [hh_R 109] σ Q := by
  refine wp_X8_fail (fun _ => ?_)
  unfold P_X8_fail
  have h1 := h.2.1
  rw [h1.1]
  refine ⟨fun z => hq σ f h (fun y => absurd y z) (fun _ => rfl) z, fun z => ?_⟩
  obtain ⟨g1, g2, -⟩ := h.2.2.2.2 z
  have t1 := g2.1
  rw [g1.1]
  obtain ⟨⟨f1, f2, f3⟩, f4, f5, f6, f7⟩ := h
  refine hq _ s ⟨⟨fun r r1 r2 => by rw [hh_up_ne r1]; exact f1 r r1 r2, fun i hi => by rw [hh_up_ne (by omega)]; exact f2 i hi, fun g hg => by rw [hh_up_off (by omega)]; exact f3 g hg⟩, ⟨by rw [hh_up_at], by omega⟩, by rw [hh_up_off (by omega), hh_up_off (by omega)]; exact f5, by rw [hh_up_off (by omega), hh_up_off (by omega)]; exact f6, fun y => by omega⟩ (fun _ => rfl) (fun y => absurd z y) (by omega)
/-- a number or a name is put, counted, and the next token read -/
theorem c_emit {d : Nat} {σ : hh_S} {S : List Int} {k s e c w v : Int} {o : hr_wl} {ty : Int} {Q : Int → hh_S → Prop} (ht : hr_tb π b N) (h : hr_cst π b N o0 σ S (-1000000005) k s e o ty) (hw : hr_wd c w v) (hw2 : w = 1 ∨ w = 2) (hk : k = 1 ∨ (k = 2 ∧ e - s ≤ 5)) (hq : ∀ (ρ : hh_S) (k' s' e' : Int), hr_cst π b N o0 ρ S (-1000000005) k' s' e' ((w, v) :: o) (ty + 1) → hr_nt b N k e k' s' e' → Q 0 ρ) : hh_Sp (d + 3) hm_X8_put [hh_R 109, hh_I c] σ (fun _ σ46 => (-2147483648 ≤ σ46 109 5 + 1 ∧ σ46 109 5 + 1 ≤ 2147483647) ∧ hh_Sp (d + 3) hm_X8_readNext [hh_R 109] (hh_up σ46 109 5 (σ46 109 5 + 1)) (fun _ σ60 => Q 0 σ60)) := by
  have tb := h.tb ht
  have hN := ht.1
  have h6 := h.2.2.2.1
  obtain ⟨⟨g1, g1b, g1c⟩, g2, g3, g4, g5, g6⟩ := h.2.2.2.2 rfl
  unfold hr_ckr at g1c
  have t1 := g2.1
  have t3 := g2.2.2.2.1 (by omega)
  have sl : (0 : Int) ≤ S.length := by omega
  refine c_X8_put (by omega) (fun ρ e1 e2 e3 e4 => ?_)
  obtain ⟨y1, y2, y3⟩ := e3 (by omega)
  clear e3 e4
  have q5 : ρ 109 5 = ty := by rw [e2 5 (by omega), g4.1]
  rw [q5]
  refine ⟨by omega, ?_⟩
  refine hh_name (P := fun τ => hh_Sp (d + 3) hm_X8_readNext [hh_R 109] τ (fun _ σ60 => Q 0 σ60)) (fun τ hτ => ?_)
  have a1 : ∀ r : Nat, r ≠ 109 → τ r = ρ r := fun r hr => by rw [hτ, hh_up_ne hr]
  have a2 : ∀ g : Int, g ≠ 3 → g ≠ 5 → τ 109 g = σ 109 g := fun g h3 h5 => by rw [hτ, hh_up_off h5, e2 g h3]
  have a3 : τ 109 3 = σ 109 3 + 1 := by rw [hτ, hh_up_off (by omega), y1]
  have a5 : τ 109 5 = ty + 1 := by rw [hτ, hh_up_at]
  have a8 : τ 109 8 = e := by rw [a2 8 (by omega) (by omega), g1b]
  clear hτ
  have el : (((w, v) :: o).length : Int) = o.length + 1 := by rw [List.length_cons]; omega
  refine c_X8_readNext (k := k) (b := b) (N := N) ⟨by rw [a2 1 (by omega) (by omega)]; exact tb.1, fun j j1 j2 => by rw [a1 110 (by omega), e1 110 (by omega) (by omega)]; exact tb.2 j j1 j2⟩ (by omega) (by rw [a2 6 (by omega) (by omega)]; omega) (fun ρ' k' s' e' fn nt q7 q8 ck => ?_)
  refine hq ρ' k' s' e' (hr_cst.nx (σ := τ) hN.2.2 ⟨fun r r1 r2 => by rw [a1 r r1, e1 r r1 r2]; exact h.1.1 r r1 r2, fun i hi => by rw [a1 111 (by omega), y3 i (by omega)]; exact h.1.2.1 i hi, fun g hg => by rw [a2 g (by omega) (by omega)]; exact h.1.2.2 g hg⟩ (by rw [a2 11 (by omega) (by omega)]; exact h.2.1.1) (by rw [a2 9 (by omega) (by omega), a2 10 (by omega) (by omega)]; exact h.2.2.1) (by rw [a3, a8, el]; omega) (by rw [a5, a8]; omega) ⟨?_, ?_⟩ ⟨fun z => ?_, fun z1 z2 => ?_, g6⟩ (by omega) fn nt q7 q8 ck) (by rw [← a8]; exact nt)
  · rw [a1 111 (by omega), ← g3.1, y2]; exact hw
  · rw [a1 111 (by omega)]; exact hr_ol.cg o g5 (fun i i1 i2 => y3 i (by omega))
  · have : w = 3 := z
    omega
  · have : w ≠ 1 := z1
    have : w ≠ 2 := z2
    omega
theorem hr_num_r {b : Int → Int} {s : Int} : ∀ n : Nat, n ≤ 5 → (∀ j : Int, s ≤ j → j < s + n → 48 ≤ b j ∧ b j ≤ 57) → 0 ≤ hr_num b s n ∧ hr_num b s n ≤ 99999 ∧ (n ≤ 4 → hr_num b s n ≤ 9999) := by
  have K : ∀ n : Nat, n ≤ 5 → (∀ j : Int, s ≤ j → j < s + n → 48 ≤ b j ∧ b j ≤ 57) → 0 ≤ hr_num b s n ∧ hr_num b s n < 10 ^ n := by
    intro n
    induction n with
    | zero => intro _ _; exact ⟨Int.le_refl _, (by decide : (0 : Int) < 10 ^ 0)⟩
    | succ n ih =>
      intro h1 h2
      have i := ih (by omega) (fun j j1 j2 => h2 j j1 (by omega))
      have hb := h2 (s + n) (by omega) (by omega)
      show 0 ≤ 10 * hr_num b s n + b (s + n) - 48 ∧ 10 * hr_num b s n + b (s + n) - 48 < 10 ^ (n + 1)
      rw [Int.pow_succ]
      omega
  intro n h1 h2
  have k := K n h1 h2
  rcases (show n = 0 ∨ n = 1 ∨ n = 2 ∨ n = 3 ∨ n = 4 ∨ n = 5 by omega) with z | z | z | z | z | z <;> subst z <;> (simp only [show (10 : Int) ^ 0 = 1 from rfl, show (10 : Int) ^ 1 = 10 from rfl, show (10 : Int) ^ 2 = 100 from rfl, show (10 : Int) ^ 3 = 1000 from rfl, show (10 : Int) ^ 4 = 10000 from rfl, show (10 : Int) ^ 5 = 100000 from rfl] at k; omega)
theorem c_readNumber {d : Nat} {σ : hh_S} {S : List Int} {k s e : Int} {o : hr_wl} {ty : Int} {Q : Int → hh_S → Prop} (ht : hr_tb π b N) (h : hr_cst π b N o0 σ S (-1000000005) k s e o ty) (hk : k = 2 ∧ e - s ≤ 5) (hq : ∀ (ρ : hh_S) (k' s' e' : Int), hr_cst π b N o0 ρ S (-1000000005) k' s' e' ((1, hr_num b s (e - s).toNat) :: o) (ty + 1) → hr_nt b N k e k' s' e' → Q 0 ρ) : hh_Sp (d + 4) hm_X8_readNumber [hh_R 109] σ Q := by
  have tb := h.tb ht
  have hN := ht.1
  obtain ⟨⟨g1, g1b, g1c⟩, g2, g3, g4, g5, g6⟩ := h.2.2.2.2 rfl
  have t1 := g2.1
  have t3 := g2.2.2.2.1 (by omega)
  have t6 := g2.2.2.2.2.2.1 hk.1
  refine wp_X8_readNumber (fun _ => ?_)
  unfold P_X8_readNumber
  rw [g1]
  refine hh_lp2_of (fun n x1 x2 τ => τ = σ ∧ ∃ i : Nat, x2 = s + i ∧ i ≤ (e - s).toNat ∧ x1 = hr_num b s i ∧ (e - s).toNat - i ≤ n) ?_ 5 0 s σ ⟨rfl, 0, by omega, by omega, rfl, by omega⟩
  rintro n x1 x2 τ kk ⟨rfl, i, rfl, i1, rfl, i2⟩ hk2
  have nr := hr_num_r (b := b) (s := s) i (by omega) (fun j j1 j2 => t6 j j1 (by omega))
  unfold B_X8_readNumber_7
  rw [g1b, tb.1.1]
  have E : e ≤ s + i → B_X8_readNumber_44 (d + 3) Q (hr_num b s i) τ := by
    intro z
    have ie : i = (e - s).toNat := by omega
    rw [← ie] at hq
    unfold B_X8_readNumber_44
    exact c_emit ht h (Or.inl ⟨rfl, rfl, nr.1, nr.2.1⟩) (Or.inl rfl) (Or.inr hk) hq
  refine ⟨E, fun z => ⟨fun y => E (by omega), fun y => ⟨?_, ?_⟩⟩⟩
  · have hb := t6 (s + i) (by omega) (by omega)
    have hb2 := tb.b (show 0 ≤ s + i by omega) (show s + i < N by omega)
    have := nr.2.2 (by omega)
    omega
  · refine hk2 (n - 1) _ _ _ (by omega) ⟨rfl, i + 1, by omega, by omega, ?_, by omega⟩
    have hb := t6 (s + i) (by omega) (by omega)
    have hb2 := tb.b (show 0 ≤ s + i by omega) (show s + i < N by omega)
    show _ = 10 * hr_num b s i + b (s + i) - 48
    omega
theorem c_indexOf {d : Nat} {σ : hh_S} {v : Int} {Q : Int → hh_S → Prop} (hv : 97 ≤ v ∧ v ≤ 122) (h1 : hr_isnm v → ∀ r : Int, 0 ≤ r → Q r σ) (h0 : ¬ hr_isnm v → Q (-1) σ) : hh_Sp (d + 4) hm_J0_indexOf_0f7a4 [hh_R 1002, hh_I v] σ Q := by
  refine wp_J0_indexOf_0f7a4 _ (fun _ _ => wp_J0_indexOf_7cf53 _ _ (fun _ _ _ => ?_))
  refine wp_J0_isLatin1_aae02_i2 (fun _ => ⟨fun z => by omega, fun _ => wp_J0_length_8abf5_i2 (fun _ => wp_J0_coder_7d493_i2 (fun _ => ?_))⟩)
  show hh_Sp (d + 2) hm_J1_indexOf_4cfef [hh_R 2002, hh_I v, hh_I 0, hh_I (hh_shr 7 0)] σ (fun r17 σ17 => Q r17 σ17)
  rw [show hh_shr 7 0 = 7 by decide +kernel]
  refine wp_J1_indexOf_4cfef _ _ _ (fun _ _ _ _ => ?_)
  unfold P_J1_indexOf_4cfef
  refine wp_J1_canEncode_9a6ad _ (fun _ _ => ⟨fun z => by omega, fun _ => ⟨fun z => by omega, fun _ => ⟨fun _ => ⟨fun _ => ?_, fun z => absurd (show hh_max 0 0 < hh_min 7 7 by decide) z⟩, fun z => by omega⟩⟩⟩)
  rw [show hh_max 0 0 = 0 by decide, show hh_min 7 7 = 7 by decide]
  refine wp_J1_indexOfChar_4cfef _ _ _ (fun _ _ _ _ => ?_)
  unfold P_J1_indexOfChar_4cfef
  rw [(hr_i2b (by omega) (by omega)).1 (by omega)]
  refine hh_lp3_of (fun n x3 x4 x5 τ => τ = σ ∧ x3 = 7 ∧ x4 = v ∧ 0 ≤ x5 ∧ 7 - x5 ≤ n ∧ x5 ≤ 7 ∧ ∀ j : Int, 0 ≤ j → j < x5 → hh_sc 2 j ≠ v) ?_ 7 7 v 0 σ ⟨rfl, rfl, rfl, by omega, by omega, by omega, fun j j1 j2 => by omega⟩
  rintro n x3 x4 x5 τ kk ⟨rfl, rfl, rfl, i1, i2, i3, i4⟩ hk
  unfold B_J1_indexOfChar_4cfef_7
  refine ⟨fun z => h0 (fun y => ?_), fun z => ⟨by omega, fun y => ⟨by omega, hk (n - 1) _ _ _ _ (by omega) ⟨rfl, rfl, rfl, by omega, by omega, by omega, fun j j1 j2 => ?_⟩⟩, fun y => h1 ?_ x5 i1⟩⟩
  · have A : ∀ j : Int, 0 ≤ j → j < 7 → hh_sc 2 j ≠ x4 := fun j j1 j2 => i4 j j1 (by omega)
    unfold hr_isnm at y
    rcases y with y | y | y | y | y | y | y <;> (subst y; first | exact A 0 (by omega) (by omega) (by decide +kernel) | exact A 1 (by omega) (by omega) (by decide +kernel) | exact A 2 (by omega) (by omega) (by decide +kernel) | exact A 3 (by omega) (by omega) (by decide +kernel) | exact A 4 (by omega) (by omega) (by decide +kernel) | exact A 5 (by omega) (by omega) (by decide +kernel) | exact A 6 (by omega) (by omega) (by decide +kernel))
  · rcases (show j < x5 ∨ j = x5 by omega) with w | w
    · exact i4 j j1 w
    · rw [w]; exact y
  · rw [← y]
    have D : ∀ j : Fin 7, hr_isnm (hh_sc 2 (j.val : Int)) := by unfold hr_isnm; decide +kernel
    obtain ⟨j, rfl⟩ : ∃ j : Nat, x5 = j := ⟨x5.toNat, by omega⟩
    exact D ⟨j, by omega⟩
end hr_cls
