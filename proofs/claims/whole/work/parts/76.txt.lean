/-! terms: the class's whole text -/
def hr_w5 (b : Int → Int) (k s e : Int) : Prop := k = 1 ∧ e - s = 5 ∧ b s = 112 ∧ b (s + 1) = 97 ∧ b (s + 2) = 114 ∧ b (s + 3) = 116 ∧ b (s + 4) = 115
def hr_w4 (b : Int → Int) (k s e : Int) : Prop := k = 1 ∧ e - s = 4 ∧ b s = 114 ∧ b (s + 1) = 97 ∧ b (s + 2) = 116 ∧ b (s + 3) = 101
abbrev hr_zs : Type := Sum Int (hr_wl × hr_wl × Int)
/-- what a text says: the place of its fault, or its words and how many numbers and names it has -/
def hr_Z4 (Z : hr_zs) (o1 : hr_wl) (R2 : hr_rs) : Prop := (∃ p : Int, R2 = .inl p ∧ Z = .inl p) ∨ ∃ (k4 s4 e4 : Int) (o2 : hr_wl) (ty2 : Int), R2 = .inr (k4, s4, e4, o2, ty2) ∧ ((k4 ≠ 0 ∧ Z = .inl s4) ∨ (k4 = 0 ∧ Z = .inr (o1, o2, ty2)))
def hr_Z2 (b : Int → Int) (N : Int) (Z : hr_zs) (R1 : hr_rs) : Prop := (∃ p : Int, R1 = .inl p ∧ Z = .inl p) ∨ ∃ (k2 s2 e2 : Int) (o1 : hr_wl) (ty : Int), R1 = .inr (k2, s2, e2, o1, ty) ∧ ((¬ hr_w4 b k2 s2 e2 ∧ Z = .inl s2) ∨ (hr_w4 b k2 s2 e2 ∧ ∃ k3 s3 e3 : Int, hr_nt b N k2 e2 k3 s3 e3 ∧ ∃ R2 : hr_rs, hr_Rn b N R2 0 [] k3 s3 e3 [] ty ∧ hr_Z4 Z o1 R2))
def hr_Z (b : Int → Int) (N : Int) (Z : hr_zs) : Prop := ∃ k s e : Int, hr_nt b N 3 0 k s e ∧ ((¬ hr_w5 b k s e ∧ Z = .inl s) ∨ (hr_w5 b k s e ∧ ∃ k1 s1 e1 : Int, hr_nt b N k e k1 s1 e1 ∧ ∃ R1 : hr_rs, hr_Rn b N R1 0 [] k1 s1 e1 [] 0 ∧ hr_Z2 b N Z R1))
theorem hr_sc0v : hh_sc 0 0 = 112 ∧ hh_sc 0 1 = 97 ∧ hh_sc 0 2 = 114 ∧ hh_sc 0 3 = 116 ∧ hh_sc 0 4 = 115 := by decide +kernel
theorem hr_sc1v : hh_sc 1 0 = 114 ∧ hh_sc 1 1 = 97 ∧ hh_sc 1 2 = 116 ∧ hh_sc 1 3 = 101 := by decide +kernel
section hr_txt
variable {π : hh_S} {b : Int → Int} {N o0 : Int}
theorem c_word0 {d : Nat} {σ : hh_S} {S : List Int} {k s e : Int} {o : hr_wl} {ty : Int} {Q : Int → hh_S → Prop} (ht : hr_tb π b N) (h : hr_cst π b N o0 σ S (-1000000005) k s e o ty) (h1 : hr_w5 b k s e → Q 1 σ) (h0 : ¬ hr_w5 b k s e → Q 0 σ) : hh_Sp (d + 4) hm_X8_isAtWord [hh_R 109, hh_R 1000] σ Q := by
  have tb := h.tb ht
  have hN := ht.1
  obtain ⟨⟨g1, g1b, g1c⟩, g2, -⟩ := h.2.2.2.2 rfl
  unfold hr_ckr at g1c
  have t1 := g2.1
  have t2 := g2.2.1
  have v := hr_sc0v
  refine wp_X8_isAtWord_i0 (fun _ => ?_)
  unfold P_X8_isAtWord_i0
  rw [g1, g1b]
  refine ⟨fun z => h0 (fun y => ?_), fun z => ⟨by omega, c_length0 ⟨fun y => ?_, fun y => h0 (fun w => y w.2.1)⟩⟩⟩
  · have := y.1
    omega
  · have k1 : k = 1 := by omega
    have t7 := g2.2.2.2.2.2.2 k1
    refine hh_lp1_of (fun n x τ => τ = σ ∧ 0 ≤ x ∧ x ≤ 5 ∧ 5 - x ≤ n ∧ ∀ j : Int, 0 ≤ j → j < x → b (s + j) = hh_sc 0 j) ?_ 5 0 σ ⟨rfl, by omega, by omega, by omega, fun j j1 j2 => by omega⟩
    rintro n x τ kk ⟨rfl, i1, i2, i3, i4⟩ hk
    unfold B_X8_isAtWord_i0_28
    refine c_length0 ⟨fun c => h1 ?_, fun c => ?_⟩
    · have a0 := i4 0 (by omega) (by omega)
      have a1 := i4 1 (by omega) (by omega)
      have a2 := i4 2 (by omega) (by omega)
      have a3 := i4 3 (by omega) (by omega)
      have a4 := i4 4 (by omega) (by omega)
      rw [Int.add_zero] at a0
      exact ⟨k1, y, by rw [a0]; exact v.1, by rw [a1]; exact v.2.1, by rw [a2]; exact v.2.2.1, by rw [a3]; exact v.2.2.2.1, by rw [a4]; exact v.2.2.2.2⟩
    · rw [g1]
      have bl := t7 (s + x) (by omega) (by omega)
      have hb := tb.b (show 0 ≤ s + x by omega) (show s + x < N by omega)
      have eb : τ 110 (s + x) = b (s + x) := by omega
      rw [eb]
      refine ⟨by omega, c_charAt0 i1 (by omega) ⟨fun c2 => ⟨by omega, hk (n - 1) _ _ (by omega) ⟨rfl, by omega, by omega, by omega, fun j j1 j2 => ?_⟩⟩, fun c2 => h0 (fun w => c2 ?_)⟩⟩
      · rcases (show j < x ∨ j = x by omega) with q | q
        · exact i4 j j1 q
        · rw [q]; exact c2
      · obtain ⟨-, -, w0, w1, w2, w3, w4⟩ := w
        rcases (show x = 0 ∨ x = 1 ∨ x = 2 ∨ x = 3 ∨ x = 4 by omega) with q | q | q | q | q <;> subst q
        · rw [Int.add_zero, w0]; exact v.1.symm
        · rw [w1]; exact v.2.1.symm
        · rw [w2]; exact v.2.2.1.symm
        · rw [w3]; exact v.2.2.2.1.symm
        · rw [w4]; exact v.2.2.2.2.symm
theorem c_word1 {d : Nat} {σ : hh_S} {S : List Int} {k s e : Int} {o : hr_wl} {ty : Int} {Q : Int → hh_S → Prop} (ht : hr_tb π b N) (h : hr_cst π b N o0 σ S (-1000000005) k s e o ty) (h1 : hr_w4 b k s e → Q 1 σ) (h0 : ¬ hr_w4 b k s e → Q 0 σ) : hh_Sp (d + 4) hm_X8_isAtWord [hh_R 109, hh_R 1001] σ Q := by
  have tb := h.tb ht
  have hN := ht.1
  obtain ⟨⟨g1, g1b, g1c⟩, g2, -⟩ := h.2.2.2.2 rfl
  unfold hr_ckr at g1c
  have t1 := g2.1
  have t2 := g2.2.1
  have v := hr_sc1v
  refine wp_X8_isAtWord_i1 (fun _ => ?_)
  unfold P_X8_isAtWord_i1
  rw [g1, g1b]
  refine ⟨fun z => h0 (fun y => ?_), fun z => ⟨by omega, c_length1 ⟨fun y => ?_, fun y => h0 (fun w => y w.2.1)⟩⟩⟩
  · have := y.1
    omega
  · have k1 : k = 1 := by omega
    have t7 := g2.2.2.2.2.2.2 k1
    refine hh_lp1_of (fun n x τ => τ = σ ∧ 0 ≤ x ∧ x ≤ 4 ∧ 4 - x ≤ n ∧ ∀ j : Int, 0 ≤ j → j < x → b (s + j) = hh_sc 1 j) ?_ 4 0 σ ⟨rfl, by omega, by omega, by omega, fun j j1 j2 => by omega⟩
    rintro n x τ kk ⟨rfl, i1, i2, i3, i4⟩ hk
    unfold B_X8_isAtWord_i1_28
    refine c_length1 ⟨fun c => h1 ?_, fun c => ?_⟩
    · have a0 := i4 0 (by omega) (by omega)
      have a1 := i4 1 (by omega) (by omega)
      have a2 := i4 2 (by omega) (by omega)
      have a3 := i4 3 (by omega) (by omega)
      rw [Int.add_zero] at a0
      exact ⟨k1, y, by rw [a0]; exact v.1, by rw [a1]; exact v.2.1, by rw [a2]; exact v.2.2.1, by rw [a3]; exact v.2.2.2⟩
    · rw [g1]
      have bl := t7 (s + x) (by omega) (by omega)
      have hb := tb.b (show 0 ≤ s + x by omega) (show s + x < N by omega)
      have eb : τ 110 (s + x) = b (s + x) := by omega
      rw [eb]
      refine ⟨by omega, c_charAt1 i1 (by omega) ⟨fun c2 => ⟨by omega, hk (n - 1) _ _ (by omega) ⟨rfl, by omega, by omega, by omega, fun j j1 j2 => ?_⟩⟩, fun c2 => h0 (fun w => c2 ?_)⟩⟩
      · rcases (show j < x ∨ j = x by omega) with q | q
        · exact i4 j j1 q
        · rw [q]; exact c2
      · obtain ⟨-, -, w0, w1, w2, w3⟩ := w
        rcases (show x = 0 ∨ x = 1 ∨ x = 2 ∨ x = 3 by omega) with q | q | q | q <;> subst q
        · rw [Int.add_zero, w0]; exact v.1.symm
        · rw [w1]; exact v.2.1.symm
        · rw [w2]; exact v.2.2.1.symm
        · rw [w3]; exact v.2.2.2.symm
/-- reading a keyword and on -/
def hr_kw (π : hh_S) (b : Int → Int) (N o0 : Int) (w : Prop) (f k s e : Int) (o : hr_wl) (ty : Int) (ρ : hh_S) (f' k' s' e' : Int) : Prop := hr_cst π b N o0 ρ [] f' k' s' e' o ty ∧ (f ≠ -1000000005 → f' = f) ∧ (f = -1000000005 → ¬ w → f' = s) ∧ (f = -1000000005 → w → f' = -1000000005 ∧ hr_nt b N k e k' s' e')
theorem c_kwn {d : Nat} {σ : hh_S} {k s e : Int} {o : hr_wl} {ty : Int} {Q : Int → hh_S → Prop} (ht : hr_tb π b N) (h : hr_cst π b N o0 σ [] (-1000000005) k s e o ty) (k1 : k = 1) (hq : ∀ (ρ : hh_S) (k' s' e' : Int), hr_cst π b N o0 ρ [] (-1000000005) k' s' e' o ty → hr_nt b N k e k' s' e' → Q 0 ρ) : hh_Sp (d + 3) hm_X8_readNext [hh_R 109] σ Q := by
  have tb := h.tb ht
  have hN := ht.1
  obtain ⟨⟨g1, g1b, g1c⟩, g2, g3, g4, g5, g6⟩ := h.2.2.2.2 rfl
  unfold hr_ckr at g1c
  have t1 := g2.1
  refine c_X8_readNext (k := k) tb (by omega) (by omega) (fun ρ k' s' e' fn nt p7 p8 ck => ?_)
  refine hq ρ k' s' e' (hr_cst.nx hN.2.2 h.1 h.2.1.1 h.2.2.1 (by rw [g1b]; omega) (by rw [g1b]; omega) g5 g6 (by omega) fn nt p7 p8 ck) (by rw [← g1b]; exact nt)
theorem c_kw0 {d : Nat} {σ : hh_S} {f k s e : Int} {o : hr_wl} {ty : Int} {Q : Int → hh_S → Prop} (ht : hr_tb π b N) (h : hr_cst π b N o0 σ [] f k s e o ty) (hq : ∀ (ρ : hh_S) (f' k' s' e' : Int), hr_kw π b N o0 (hr_w5 b k s e) f k s e o ty ρ f' k' s' e' → Q 0 ρ) : hh_Sp (d + 5) hm_X8_readKeyword [hh_R 109, hh_R 1000] σ Q := by
  have hN := ht.1
  refine wp_X8_readKeyword_i0 (fun _ => ?_)
  unfold P_X8_readKeyword_i0
  rw [h.2.1.1]
  refine ⟨fun z => ?_, fun z => hq σ f k s e ⟨h, fun _ => rfl, fun y => absurd y z, fun y => absurd y z⟩⟩
  subst z
  refine c_word0 ht h (fun y => ⟨fun _ => ?_, fun z => by omega⟩) (fun y => ⟨fun z => by omega, fun _ => ?_⟩)
  · exact c_kwn ht h y.1 (fun ρ k' s' e' c nt => hq ρ _ k' s' e' ⟨c, fun z => absurd rfl z, fun _ z => absurd y z, fun _ _ => ⟨rfl, nt⟩⟩)
  · exact c_X8_fail hN.2.2 h (fun ρ f' c y1 y2 y3 => hq ρ f' k s e ⟨c, fun z => absurd rfl z, fun _ _ => y1 rfl, fun _ z => absurd z y⟩)
theorem c_kw1 {d : Nat} {σ : hh_S} {f k s e : Int} {o : hr_wl} {ty : Int} {Q : Int → hh_S → Prop} (ht : hr_tb π b N) (h : hr_cst π b N o0 σ [] f k s e o ty) (hq : ∀ (ρ : hh_S) (f' k' s' e' : Int), hr_kw π b N o0 (hr_w4 b k s e) f k s e o ty ρ f' k' s' e' → Q 0 ρ) : hh_Sp (d + 5) hm_X8_readKeyword [hh_R 109, hh_R 1001] σ Q := by
  have hN := ht.1
  refine wp_X8_readKeyword_i1 (fun _ => ?_)
  unfold P_X8_readKeyword_i1
  rw [h.2.1.1]
  refine ⟨fun z => ?_, fun z => hq σ f k s e ⟨h, fun _ => rfl, fun y => absurd y z, fun y => absurd y z⟩⟩
  subst z
  refine c_word1 ht h (fun y => ⟨fun _ => ?_, fun z => by omega⟩) (fun y => ⟨fun z => by omega, fun _ => ?_⟩)
  · exact c_kwn ht h y.1 (fun ρ k' s' e' c nt => hq ρ _ k' s' e' ⟨c, fun z => absurd rfl z, fun _ z => absurd y z, fun _ _ => ⟨rfl, nt⟩⟩)
  · exact c_X8_fail hN.2.2 h (fun ρ f' c y1 y2 y3 => hq ρ f' k s e ⟨c, fun z => absurd rfl z, fun _ _ => y1 rfl, fun _ z => absurd z y⟩)
theorem hr_pg.ff {S : List Int} {lv md f k s e : Int} {o : hr_wl} {ty f' k' s' e' : Int} {o' : hr_wl} {ty' : Int} (h : hr_pg b N lv md S f k s e o ty f' k' s' e' o' ty') (hf : f ≠ -1000000005) : f' = f := by
  have n : f' ≠ -1000000005 := fun z => hf (h.1 z).1
  have := (h.2 (.inl f') ⟨fun _ => rfl, fun z => absurd z n⟩).1 hf
  exact Sum.inl.inj this
/-- where an expression of its own ends -/
theorem hr_pg.en {lv f k s e : Int} {o : hr_wl} {ty f' k' s' e' : Int} {o' : hr_wl} {ty' : Int} {σ : hh_S} (h : hr_pg b N 1 2 [] f k s e o ty f' k' s' e' o' ty') (c : hr_cst π b N o0 σ [] f' k' s' e' o' ty') (hf : f = -1000000005) : ∃ R : hr_rs, hr_Rn b N R 0 [] k s e o ty ∧ ((f' ≠ -1000000005 ∧ R = .inl f') ∨ (f' = -1000000005 ∧ k' ≠ 1 ∧ k' ≠ 0 ∧ R = .inl s') ∨ (f' = -1000000005 ∧ R = .inr (k', s', e', o', ty'))) := by
  by_cases z : f' = -1000000005
  · have tc := (h.1 z).2.2.2
    have ok := (c.2.2.2.2 z).ok
    unfold hr_tkc at tc
    have wr := hr_wk_r k' (b s')
    by_cases y : hr_dm 1 (hr_wk k' (b s'))
    · refine ⟨.inl s', (h.2 _ ⟨fun w => absurd z w, fun _ => ⟨fun _ => rfl, fun w => absurd y w⟩⟩).2 hf, Or.inr (Or.inl ⟨z, ?_, ?_, rfl⟩)⟩
      · have := (hr_wk_e y.2.1 rfl).1
        omega
      · have := (hr_wk_e y.2.1 rfl).1
        omega
    · by_cases w : k' = 4
      · exact ⟨.inl s', (h.2 _ ⟨fun w => absurd z w, fun _ => ⟨fun _ => rfl, fun _ => hr_Rn.bad ok (Or.inr rfl) w rfl⟩⟩).2 hf, Or.inr (Or.inl ⟨z, by omega, by omega, rfl⟩)⟩
      · unfold hr_dm at y
        have w0 : hr_wk k' (b s') = 0 := by omega
        exact ⟨.inr (k', s', e', o', ty'), (h.2 _ ⟨fun w => absurd z w, fun _ => ⟨fun y2 => absurd w0 y2.2.1, fun _ => hr_Rn.fin ok w w0 rfl⟩⟩).2 hf, Or.inr (Or.inr ⟨z, rfl⟩)⟩
  · exact ⟨.inl f', (h.2 _ ⟨fun _ => rfl, fun w => absurd w z⟩).2 hf, Or.inl ⟨z, rfl⟩⟩
end hr_txt
/-- what the class has read -/
def hr_got (σ ρ : hh_S) (b : Int → Int) (N f : Int) (Z : hr_zs) : Prop := ((∀ r : Nat, r ≠ 109 → r ≠ 111 → ρ r = σ r) ∧ ∀ g : Int, g < 3 ∨ 11 < g → ρ 109 g = σ 109 g) ∧ hr_Z b N Z ∧ (f = -1000000005 ∨ 0 ≤ f ∧ f ≤ 120) ∧ (f ≠ -1000000005 → Z = .inl f) ∧ (f = -1000000005 → ∃ (o1 o2 : hr_wl) (ty : Int), Z = .inr (o1, o2, ty) ∧ (ρ 109 5 = ty ∧ 0 ≤ ty ∧ ty ≤ 120) ∧ (ρ 109 4 = o1.length ∧ ρ 109 3 = o1.length + o2.length ∧ (o1.length : Int) + o2.length ≤ 120) ∧ (hr_ol (ρ 111) 0 o1 ∧ hr_ol (ρ 111) o1.length o2) ∧ (hr_lw o1 ∧ hr_lw o2) ∧ hr_ld o1 = 1 ∧ hr_ld o2 = 1)
set_option maxHeartbeats 2000000 in
theorem c_readText {d : Nat} {σ : hh_S} {b : Int → Int} {N : Int} {Q : Int → hh_S → Prop} (ht : hr_tb σ b N) (hq : ∀ (ρ : hh_S) (f : Int) (Z : hr_zs), hr_got σ ρ b N f Z → Q f ρ) : hh_Sp (d + 100) hm_X8_readText [hh_R 109] σ Q := by
  have hN := ht.1
  refine wp_X8_readText (fun _ => ?_)
  unfold P_X8_readText
  refine hh_name (P := fun τ => hh_Sp (d + 99) hm_X8_readNext [hh_R 109] τ _) (fun τ hτ => ?_)
  have a1 : ∀ r : Nat, r ≠ 109 → τ r = σ r := fun r hr => by rw [hτ]; simp (disch := omega) only [hh_up_ne]
  have a2 : ∀ g : Int, g ≠ 3 → g ≠ 5 → g ≠ 6 → g ≠ 8 → g ≠ 9 → g ≠ 10 → g ≠ 11 → τ 109 g = σ 109 g := fun g z3 z5 z6 z8 z9 z10 z11 => by rw [hτ, hh_up_off z8, hh_up_off z6, hh_up_off z11, hh_up_off z10, hh_up_off z9, hh_up_off z5, hh_up_off z3]
  have a3 : τ 109 3 = 0 ∧ τ 109 5 = 0 ∧ τ 109 9 = 0 ∧ τ 109 10 = 0 ∧ τ 109 11 = -1000000005 ∧ τ 109 6 = 3 ∧ τ 109 8 = 0 := by rw [hτ]; simp (disch := omega) only [hh_up_at, hh_up_off, and_self]
  clear hτ
  refine c_X8_readNext (k := 3) (b := b) (N := N) ⟨by rw [a2 1 (by omega) (by omega) (by omega) (by omega) (by omega) (by omega) (by omega)]; exact hN, fun j j1 j2 => by rw [a1 110 (by omega)]; exact ht.2 j j1 j2⟩ (by omega) (by omega) (fun ρ0 k s e fn nt p7 p8 ck => ?_)
  have c0 := hr_cst.nx (π := σ) (o0 := 0) (S := []) (o := []) (ty := 0) hN.2.2 ⟨fun r r1 r2 => a1 r r1, fun i hi => by rw [a1 111 (by omega)], fun g hg => a2 g (by omega) (by omega) (by omega) (by omega) (by omega) (by omega) (by omega)⟩ a3.2.2.2.2.1 ⟨a3.2.2.1, a3.2.2.2.1⟩ (by rw [a3.1, a3.2.2.2.2.2.2]; decide) (by rw [a3.2.1, a3.2.2.2.2.2.2]; decide) True.intro True.intro (by omega) fn nt p7 p8 ck
  rw [a3.2.2.2.2.2.2] at nt
  refine c_kw0 ht c0 (fun ρ1 f1 k1 s1 e1 kw1 => ?_)
  obtain ⟨c1, -, kA, kB⟩ := kw1
  refine (C_all ht (d + 99)).2.2.2.2.2 ρ1 [] f1 k1 s1 e1 [] 0 _ (by show 7 * (8 - (0 : Int)) + (8 - 0) + 14 - 1 ≤ _ ∧ (0 : Int) ≤ 8 ∧ (0 : Int) ≤ 8; omega) (fun _ => ⟨by show (0 : Int) < 10 * 1; omega, by show (0 : Int) ≠ 3; omega⟩) c1 (fun ρ2 f2 k2 s2 e2 o1 ty c2 pg2 => ?_)
  have h3 := c2.2.2.2.1
  refine hh_name (P := fun τ => hh_Sp (d + 99) hm_X8_readKeyword [hh_R 109, hh_R 1001] τ _) (fun π2 hπ => ?_)
  have b1 : ∀ r : Nat, r ≠ 109 → π2 r = ρ2 r := fun r hr => by rw [hπ, hh_up_ne hr]
  have b2 : ∀ g : Int, g ≠ 4 → π2 109 g = ρ2 109 g := fun g hg => by rw [hπ, hh_up_off hg]
  have b4 : π2 109 4 = ρ2 109 3 := by rw [hπ, hh_up_at]
  clear hπ
  have ht2 : hr_tb π2 b N := ⟨by rw [b2 1 (by omega)]; exact (c2.tb ht).1, fun j j1 j2 => by rw [b1 110 (by omega)]; exact (c2.tb ht).2 j j1 j2⟩
  have c3 : hr_cst π2 b N (ρ2 109 3) π2 [] f2 k2 s2 e2 [] ty := by
    refine ⟨⟨fun _ _ _ => rfl, fun _ _ => rfl, fun _ _ => rfl⟩, by rw [b2 11 (by omega)]; exact c2.2.1, by rw [b2 9 (by omega), b2 10 (by omega)]; exact c2.2.2.1, by rw [b2 3 (by omega), b2 5 (by omega)]; omega, fun z => ?_⟩
    obtain ⟨y1, y2, y3, y4, y5, y6⟩ := c2.2.2.2.2 z
    refine ⟨by rw [b2 7 (by omega), b2 8 (by omega), b2 6 (by omega)]; exact y1, y2, ⟨by rw [b2 3 (by omega)]; exact (Int.add_zero _).symm, by omega, ?_⟩, by rw [b2 5 (by omega)]; exact y4, True.intro, True.intro⟩
    show ρ2 109 3 + (0 : Int) + (0 : Int) ≤ s2
    have y7 := y3.2.2
    rw [y3.1]
    omega
  refine c_kw1 ht2 c3 (fun ρ3 f3 k3 s3 e3 kw3 => ?_)
  obtain ⟨c4, kF, kC, kD⟩ := kw3
  refine (C_all ht2 (d + 99)).2.2.2.2.2 ρ3 [] f3 k3 s3 e3 [] ty _ (by show 7 * (8 - (0 : Int)) + (8 - 0) + 14 - 1 ≤ _ ∧ (0 : Int) ≤ 8 ∧ (0 : Int) ≤ 8; omega) (fun _ => ⟨by show (0 : Int) < 10 * 1; omega, by show (0 : Int) ≠ 3; omega⟩) c4 (fun ρ4 f4 k4 s4 e4 o2 ty2 c5 pg4 => ?_)
  have FIN : ∀ (ρ : hh_S) (f5 : Int), hr_cst π2 b N (ρ2 109 3) ρ [] f5 k4 s4 e4 o2 ty2 → (f4 ≠ -1000000005 → f5 = f4) → (f4 = -1000000005 → k4 ≠ 0 → f5 = s4) → (f4 = -1000000005 → k4 = 0 → f5 = -1000000005) → Q f5 ρ := by
    intro ρ f5 c6 q1 q2 q3
    have sn : ∀ {τ : hh_S} {π' : hh_S} {o' k' s' e' : Int} {oo : hr_wl} {t' : Int}, hr_cst π' b N o' τ [] (-1000000005) k' s' e' oo t' → 0 ≤ s' := fun c => (c.2.2.2.2 rfl).2.1.1.1
    have fr : (∀ r : Nat, r ≠ 109 → r ≠ 111 → ρ r = σ r) ∧ ∀ g : Int, g < 3 ∨ 11 < g → ρ 109 g = σ 109 g := ⟨fun r r1 r2 => by rw [c6.1.1 r r1 r2, b1 r r1]; exact c2.1.1 r r1 r2, fun g hg => by rw [c6.1.2.2 g (by omega), b2 g (by omega)]; exact c2.1.2.2 g (by omega)⟩
    by_cases w5 : hr_w5 b k s e
    · obtain ⟨z1, nt1⟩ := kB rfl w5
      subst z1
      obtain ⟨R1, r1, d1⟩ := pg2.en (lv := 0) c2 rfl
      have ZZ : ∀ Z : hr_zs, hr_Z2 b N Z R1 → hr_Z b N Z := fun Z h => ⟨k, s, e, nt, Or.inr ⟨w5, k1, s1, e1, nt1, R1, r1, h⟩⟩
      rcases d1 with ⟨x1, x2⟩ | ⟨x1, x2, x3, x4⟩ | ⟨x1, x2⟩
      · have e3' := kF x1
        have e4' := pg4.ff (by rw [e3']; exact x1)
        have e5' : f5 = f2 := by rw [q1 (by rw [e4', e3']; exact x1), e4', e3']
        refine hq ρ f5 (.inl f5) ⟨fr, ZZ _ (Or.inl ⟨f2, x2, by rw [e5']⟩), c6.2.1.2, fun _ => rfl, fun z => absurd (by rw [← e5']; exact z) x1⟩
      · have sp := sn (by rw [x1] at c2; exact c2)
        have e3' := kC x1 (fun w => x2 w.1)
        have e4' := pg4.ff (by rw [e3']; omega)
        have e5' : f5 = s2 := by rw [q1 (by rw [e4', e3']; omega), e4', e3']
        refine hq ρ f5 (.inl f5) ⟨fr, ZZ _ (Or.inl ⟨s2, x4, by rw [e5']⟩), c6.2.1.2, fun _ => rfl, fun z => by omega⟩
      · by_cases w4 : hr_w4 b k2 s2 e2
        · obtain ⟨z3, nt3⟩ := kD x1 w4
          subst z3
          obtain ⟨R2, r2, d2⟩ := pg4.en (lv := 0) c5 rfl
          have Z4 : ∀ Z : hr_zs, hr_Z4 Z o1 R2 → hr_Z b N Z := fun Z h => ZZ Z (Or.inr ⟨k2, s2, e2, o1, ty, x2, Or.inr ⟨w4, k3, s3, e3, nt3, R2, r2, h⟩⟩)
          rcases d2 with ⟨y1, y2⟩ | ⟨y1, y2, y3, y4⟩ | ⟨y1, y2⟩
          · have e5' := q1 y1
            refine hq ρ f5 (.inl f5) ⟨fr, Z4 _ (Or.inl ⟨f4, y2, by rw [e5']⟩), c6.2.1.2, fun _ => rfl, fun z => absurd (by rw [← e5']; exact z) y1⟩
          · have e5' := q2 y1 y3
            have sp := sn (by rw [y1] at c5; exact c5)
            refine hq ρ f5 (.inl f5) ⟨fr, Z4 _ (Or.inl ⟨s4, y4, by rw [e5']⟩), c6.2.1.2, fun _ => rfl, fun z => by omega⟩
          · by_cases k0 : k4 = 0
            · have e5' := q3 y1 k0
              subst e5'
              obtain ⟨u1, u2, u3, u4, u5, u6⟩ := c6.2.2.2.2 rfl
              obtain ⟨v1, v2, v3, v4, v5, v6⟩ := c2.2.2.2.2 x1
              have l1 := (pg2.1 x1).2.1
              have l2 := (pg4.1 y1).2.1
              have u7 := u2.1
              have u8 : (0 : Int) ≤ (([] : List Int).length : Int) := by omega
              have e31 : ρ2 109 3 = o1.length := by rw [v3.1]; omega
              refine hq ρ _ (.inr (o1, o2, ty2)) ⟨fr, Z4 _ (Or.inr ⟨k4, s4, e4, o2, ty2, y2, Or.inr ⟨k0, rfl⟩⟩), Or.inl rfl, fun z => absurd rfl z, fun _ => ⟨o1, o2, ty2, rfl, ⟨u4.1, u4.2.1, by omega⟩, ⟨by rw [c6.1.2.2 4 (by omega), b4, e31], by rw [u3.1, e31], by omega⟩, ⟨hr_ol.cg o1 v5 (fun i i1 i2 => by rw [c6.1.2.1 i (by omega), b1 111 (by omega)]), by rw [← e31]; exact u5⟩, ⟨v6, u6⟩, by rw [l1]; rfl, by rw [l2]; rfl⟩⟩
            · have e5' := q2 y1 k0
              have sp := sn (by rw [y1] at c5; exact c5)
              refine hq ρ f5 (.inl f5) ⟨fr, Z4 _ (Or.inr ⟨k4, s4, e4, o2, ty2, y2, Or.inl ⟨k0, by rw [e5']⟩⟩), c6.2.1.2, fun _ => rfl, fun z => by omega⟩
        · have sp := sn (by rw [x1] at c2; exact c2)
          have e3' := kC x1 w4
          have e4' := pg4.ff (by rw [e3']; omega)
          have e5' : f5 = s2 := by rw [q1 (by rw [e4', e3']; omega), e4', e3']
          refine hq ρ f5 (.inl f5) ⟨fr, ZZ _ (Or.inr ⟨k2, s2, e2, o1, ty, x2, Or.inl ⟨w4, by rw [e5']⟩⟩), c6.2.1.2, fun _ => rfl, fun z => by omega⟩
    · have sp := sn c0
      have e1' := kA rfl w5
      have e2' := pg2.ff (by rw [e1']; omega)
      have e3' := kF (by rw [e2', e1']; omega)
      have e4' := pg4.ff (by rw [e3', e2', e1']; omega)
      have e5' : f5 = s := by rw [q1 (by rw [e4', e3', e2', e1']; omega), e4', e3', e2', e1']
      refine hq ρ f5 (.inl f5) ⟨fr, ⟨k, s, e, nt, Or.inl ⟨w5, by rw [e5']⟩⟩, c6.2.1.2, fun _ => rfl, fun z => by omega⟩
  unfold B_X8_readText_79
  have ckk : f4 = -1000000005 → (ρ4 109 6 = 0 ↔ k4 = 0) := by
    intro z
    have g1c := (c5.2.2.2.2 z).1.2.2
    have t2 := (c5.2.2.2.2 z).2.1.2.1
    unfold hr_ckr at g1c
    omega
  refine ⟨fun z => ?_, fun z => ?_⟩
  · rw [c5.2.1.1]
    exact FIN ρ4 f4 c5 (fun _ => rfl) (fun y1 y2 => absurd ((ckk y1).1 z) y2) (fun y _ => y)
  · refine c_X8_fail hN.2.2 c5 (fun ρ f5 c6 y1 y2 y3 => ?_)
    rw [c6.2.1.1]
    exact FIN ρ f5 c6 y2 (fun z1 _ => y1 z1) (fun z1 z2 => absurd ((ckk z1).2 z2) z)
