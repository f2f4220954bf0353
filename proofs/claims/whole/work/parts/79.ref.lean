/-! terms: the reference's whole text -/
section hr_rtx
variable {b : Int → Int} {N : Int}
theorem c_X12_isLetter {d : Nat} {σ : hh_S} {a1 a2 : Int} {Q : Int → hh_S → Prop} (h : 0 ≤ a1 ∧ σ 128 8 ≤ 120) (h1 : (a2 ≠ 0 ∧ a1 < σ 128 8 ∧ σ 133 a1 = a2) ∨ (a2 = 0 ∧ a1 = σ 128 8) → Q 1 σ) (h0 : ¬ ((a2 ≠ 0 ∧ a1 < σ 128 8 ∧ σ 133 a1 = a2) ∨ (a2 = 0 ∧ a1 = σ 128 8)) → Q 0 σ) : hh_Sp (d + 1) hm_X12_isLetter [hh_R 128, hh_I a1, hh_I a2] σ Q := by
  refine wp_X12_isLetter _ _ (fun _ _ _ => ?_)
  unfold P_X12_isLetter
  refine ⟨fun z => ⟨fun y => h0 (by omega), fun y => ⟨by omega, fun w => h0 (by omega), fun w => h1 (by omega)⟩⟩, fun z => ⟨fun y => h0 (by omega), fun y => h1 (by omega)⟩⟩
theorem c_isW5 {d : Nat} {σ : hh_S} {Q : Int → hh_S → Prop} (h : 0 ≤ σ 128 7 ∧ σ 128 7 ≤ 120 ∧ σ 128 8 ≤ 120) (h1 : hr_w5 (σ 133) (σ 128 10) (σ 128 7) (σ 128 8) → Q 1 σ) (h0 : ¬ hr_w5 (σ 133) (σ 128 10) (σ 128 7) (σ 128 8) → Q 0 σ) : hh_Sp (d + 2) hm_X12_isWord [hh_R 128, hh_I 112, hh_I 97, hh_I 114, hh_I 116, hh_I 115] σ Q := by
  unfold hr_w5 at h1 h0
  refine wp_X12_isWord _ _ _ _ _ (fun _ _ _ _ _ _ => ?_)
  unfold P_X12_isWord B_X12_isWord_52 B_X12_isWord_53 B_X12_isWord_79 B_X12_isWord_83 B_X12_isWord_84 B_X12_isWord_111 B_X12_isWord_129
  have NO : (¬ hr_w5 (σ 133) (σ 128 10) (σ 128 7) (σ 128 8)) → (((0 : Int) = 0 → Q 0 σ) ∧ True) := fun z => ⟨fun _ => h0 z, trivial⟩
  refine ⟨fun z => ⟨fun _ => ⟨fun _ => h0 (fun w => z w.1), fun y => by omega⟩, fun y => by omega⟩, fun z => ?_⟩
  refine c_X12_isLetter (by omega) (fun y1 => ⟨fun w => by omega, fun _ => ⟨by omega, ?_⟩⟩) (fun y1 => ⟨fun _ => ⟨fun _ => ⟨fun _ => h0 (by omega), fun y => by omega⟩, fun y => by omega⟩, fun w => by omega⟩)
  refine c_X12_isLetter (by omega) (fun y2 => ⟨fun w => by omega, fun _ => ⟨by omega, ?_⟩⟩) (fun y2 => ⟨fun _ => ⟨fun _ => ⟨fun _ => h0 (by omega), fun y => by omega⟩, fun y => by omega⟩, fun w => by omega⟩)
  refine c_X12_isLetter (by omega) (fun y3 => ⟨fun w => by omega, fun _ => ⟨fun w => by omega, fun _ => ⟨fun w => by omega, fun _ => ⟨by omega, ?_⟩⟩⟩⟩) (fun y3 => ⟨fun _ => ⟨fun _ => ⟨fun _ => h0 (by omega), fun y => by omega⟩, fun y => by omega⟩, fun w => by omega⟩)
  refine c_X12_isLetter (by omega) (fun y4 => ⟨fun w => by omega, fun _ => ⟨fun w => by omega, fun _ => ⟨fun w => by omega, fun _ => ⟨by omega, ?_⟩⟩⟩⟩) (fun y4 => ⟨fun _ => ⟨fun _ => h0 (by omega), fun y => by omega⟩, fun w => by omega⟩)
  refine c_X12_isLetter (by omega) (fun y5 => ⟨fun w => by omega, fun _ => ⟨fun w => by omega, fun _ => ⟨by omega, fun w => h0 (by omega), fun w => h1 (by omega)⟩⟩⟩) (fun y5 => ⟨fun _ => h0 (by omega), fun w => by omega⟩)
theorem c_isW4 {d : Nat} {σ : hh_S} {Q : Int → hh_S → Prop} (h : 0 ≤ σ 128 7 ∧ σ 128 7 ≤ 120 ∧ σ 128 8 ≤ 120) (h1 : hr_w4 (σ 133) (σ 128 10) (σ 128 7) (σ 128 8) → Q 1 σ) (h0 : ¬ hr_w4 (σ 133) (σ 128 10) (σ 128 7) (σ 128 8) → Q 0 σ) : hh_Sp (d + 2) hm_X12_isWord [hh_R 128, hh_I 114, hh_I 97, hh_I 116, hh_I 101, hh_I 0] σ Q := by
  unfold hr_w4 at h1 h0
  refine wp_X12_isWord _ _ _ _ _ (fun _ _ _ _ _ _ => ?_)
  unfold P_X12_isWord B_X12_isWord_52 B_X12_isWord_53 B_X12_isWord_79 B_X12_isWord_83 B_X12_isWord_84 B_X12_isWord_111 B_X12_isWord_129
  refine ⟨fun z => ⟨fun _ => ⟨fun _ => h0 (fun w => z w.1), fun y => by omega⟩, fun y => by omega⟩, fun z => ?_⟩
  refine c_X12_isLetter (by omega) (fun y1 => ⟨fun w => by omega, fun _ => ⟨by omega, ?_⟩⟩) (fun y1 => ⟨fun _ => ⟨fun _ => ⟨fun _ => h0 (by omega), fun y => by omega⟩, fun y => by omega⟩, fun w => by omega⟩)
  refine c_X12_isLetter (by omega) (fun y2 => ⟨fun w => by omega, fun _ => ⟨by omega, ?_⟩⟩) (fun y2 => ⟨fun _ => ⟨fun _ => ⟨fun _ => h0 (by omega), fun y => by omega⟩, fun y => by omega⟩, fun w => by omega⟩)
  refine c_X12_isLetter (by omega) (fun y3 => ⟨fun w => by omega, fun _ => ⟨fun w => by omega, fun _ => ⟨fun w => by omega, fun _ => ⟨by omega, ?_⟩⟩⟩⟩) (fun y3 => ⟨fun _ => ⟨fun _ => ⟨fun _ => h0 (by omega), fun y => by omega⟩, fun y => by omega⟩, fun w => by omega⟩)
  refine c_X12_isLetter (by omega) (fun y4 => ⟨fun w => by omega, fun _ => ⟨fun w => by omega, fun _ => ⟨fun w => by omega, fun _ => ⟨by omega, ?_⟩⟩⟩⟩) (fun y4 => ⟨fun _ => ⟨fun _ => h0 (by omega), fun y => by omega⟩, fun w => by omega⟩)
  refine c_X12_isLetter (by omega) (fun y5 => ⟨fun w => by omega, fun _ => ⟨fun w => h1 (by omega), fun w => by omega⟩⟩) (fun y5 => ⟨fun _ => h0 (by omega), fun w => by omega⟩)
/-- between expressions -/
def hr_rfr (σ : hh_S) (b : Int → Int) (N : Int) (ρ : hh_S) : Prop := (∀ r : Nat, r ≠ 128 → r ≠ 134 → r ≠ 135 → ρ r = σ r) ∧ (∀ f : Int, f < 7 ∨ f = 9 ∨ 20 < f → ρ 128 f = σ 128 f) ∧ hr_rb ρ b N ∧ (0 ≤ ρ 128 7 ∧ ρ 128 7 ≤ 120 ∧ ρ 128 8 ≤ 120)
def hr_rtk (b : Int → Int) (N : Int) (ρ : hh_S) (k s e ty : Int) : Prop := (k ≠ 4 ∧ ρ 128 10 = k ∧ ρ 128 12 = 0 ∧ ρ 128 7 = s ∧ ρ 128 8 = e ∧ ρ 128 15 = ty) ∧ hr_tf b N k s e
def hr_rbd (ρ : hh_S) (p : Int) : Prop := ρ 128 12 = 1 ∧ ρ 128 11 = p
theorem c_reads0 {d : Nat} {σ : hh_S} {a1 a2 : Int} {Q : Int → hh_S → Prop} (h : σ 128 12 = 1) (hq : Q 0 σ) : hh_Sp (d + 1) hm_X12_reads [hh_R 128, hh_I a1, hh_I a2] σ Q := by
  refine wp_X12_reads _ _ (fun _ _ _ => ?_)
  unfold P_X12_reads
  exact ⟨fun z => by omega, fun _ => hq⟩
set_option maxHeartbeats 2000000 in
theorem c_reads {d : Nat} {σ : hh_S} {x a2 k s e ty : Int} {R : hr_rs} {Q : Int → hh_S → Prop} (hx : x = 0 ∨ x = 1) (hb : hr_rb σ b N) (ht : hr_rtk b N σ k s e ty) (h : (a2 = 0 ∧ R = .inl s) ∨ (a2 ≠ 0 ∧ ∃ k1 s1 e1 : Int, hr_nt b N k e k1 s1 e1 ∧ hr_Rn b N R 0 [] k1 s1 e1 [] ty))
    (hq : ∀ ρ : hh_S, hr_rfr σ b N ρ → (∀ i : Int, i < 241 * x → ρ 134 i = σ 134 i) → ((∃ p : Int, R = .inl p ∧ hr_rbd ρ p) ∨ (∃ (k' s' e' : Int) (o : hr_wl) (ty' : Int), R = .inr (k', s', e', o, ty') ∧ hr_rtk b N ρ k' s' e' ty' ∧ (ρ 134 (241 * x) = o.length ∧ (o.length : Int) ≤ 120 ∧ hr_orl (ρ 134) (241 * x) o) ∧ 0 ≤ ty' ∧ ty' ≤ 120)) → Q 0 ρ) : hh_Sp (d + 7) hm_X12_reads [hh_R 128, hh_I x, hh_I a2] σ Q := by
  obtain ⟨⟨h4, t10, t12, t7, t8, t15⟩, tf⟩ := ht
  have tf1 := tf.1
  have hN := hb.1
  have tf2 := tf.2.1
  refine wp_X12_reads _ _ (fun _ _ _ => ?_)
  unfold P_X12_reads
  refine ⟨fun _ => ?_, fun z => absurd t12 z⟩
  refine hh_name (P := fun τ => (¬ a2 = 0 → B_X12_reads_26 (d + 6) Q x τ) ∧ (a2 = 0 → hh_Sp (d + 6) hm_X12_wrong [hh_R 128] τ (fun _ σ23 => B_X12_reads_26 (d + 6) Q x σ23))) (fun τ hτ => ?_)
  have a1 : ∀ r : Nat, r ≠ 128 → τ r = σ r := fun r hr => by rw [hτ, hh_up_ne hr, hh_up_ne hr]
  have a3 : ∀ f : Int, f ≠ 13 → f ≠ 14 → τ 128 f = σ 128 f := fun f z1 z2 => by rw [hτ, hh_up_off z2, hh_up_off z1]
  have a13 : τ 128 13 = x := by rw [hτ, hh_up_off (by omega), hh_up_at]
  have a14 : τ 128 14 = 0 := by rw [hτ, hh_up_at]
  clear hτ
  have ENDE : ∀ ρ1 : hh_S, ((∃ p : Int, R = .inl p ∧ hr_rw σ b N x (hh_up (hh_up (hh_up ρ1 128 18 0) 128 19 0) 128 20 0) p) ∨ ∃ (k s e ty : Int) (m : Nat), hr_rst σ b N x (hh_up (hh_up (hh_up ρ1 128 18 0) 128 19 0) 128 20 0) [] k s e [] ty ∧ hr_rn b N R m 0 [] k s e [] ty) → hh_Sp (d + 6) hm_X12_expression [hh_R 128] ρ1 (fun _ σ31 => ((-2147483648 ≤ 241 * x ∧ 241 * x ≤ 2147483647) ∧ (0 ≤ 241 * x ∧ 241 * x < 482)) ∧ (Q 0 (hh_up σ31 134 (241 * x) (σ31 128 14)))) := by
    intro ρ1 hin
    refine c_X12_expression hin (fun ρ ho => ⟨by omega, ?_⟩)
    have FR : hr_rf σ b N x ρ → hr_rfr σ b N (hh_up ρ 134 (241 * x) (ρ 128 14)) ∧ (∀ i : Int, i < 241 * x → hh_up ρ 134 (241 * x) (ρ 128 14) 134 i = σ 134 i) := by
      rintro ⟨r1, r2, r3, r4, r5⟩
      refine ⟨⟨fun r z1 z2 z3 => by rw [hh_up_ne z2]; exact r1 r z1 z2 z3, fun f hf => by rw [hh_up_ne (by omega)]; exact r2 f hf, ?_, by rw [hh_up_ne (by omega)]; exact r5⟩, fun i hi => by rw [hh_up_off (by omega)]; exact r3 i (by omega)⟩
      unfold hr_rb
      rw [hh_up_ne (by omega), hh_up_ne (by omega)]
      exact r4.2
    rcases ho with ⟨p, z1, z2, z3, z4⟩ | ⟨S, k', s', e', o, ty', z1, c, z4, z5⟩
    · refine hq _ (FR z2).1 (FR z2).2 (Or.inl ⟨p, z1, ?_⟩)
      unfold hr_rbd
      rw [hh_up_ne (by omega)]
      exact ⟨z3, z4⟩
    · have fr := FR c.1
      obtain ⟨f1, f2, f3, f4, f5, f6, f7⟩ := c
      have k12 := f6.1 z4
      have u1 := f7.1
      refine hq _ fr.1 fr.2 (Or.inr ⟨k', s', e', o, ty', z1, ⟨⟨z4, ?_⟩, f7⟩, ⟨by rw [hh_up_at]; exact f2.2.1, by omega, hr_orl.cg o f2.2.2 (fun i i1 i2 => by rw [hh_up_off (by omega)])⟩, z5.2.1, by omega⟩)
      rw [hh_up_ne (by omega)]
      exact ⟨k12.1, k12.2, f5.2.1, f5.2.2, f5.1⟩
  rcases h with ⟨z, hR⟩ | ⟨z, k1, s1, e1, nt, m, rn⟩
  · refine ⟨fun y => absurd z y, fun _ => ?_⟩
    refine wp_X12_wrong (fun _ => ?_)
    unfold P_X12_wrong B_X12_wrong_15 B_X12_reads_26
    refine ⟨fun y => absurd (by rw [a3 12 (by omega) (by omega)]; exact t12) y, fun _ => ?_⟩
    refine hh_name (P := fun τ2 => hh_Sp (d + 6) hm_X12_next [hh_R 128] τ2 _) (fun τ2 hτ2 => ?_)
    have b1 : ∀ r : Nat, r ≠ 128 → τ2 r = σ r := fun r hr => by rw [hτ2, hh_up_ne hr, hh_up_ne hr, a1 r hr]
    have b2 : ∀ f : Int, f ≠ 11 → f ≠ 12 → f ≠ 13 → f ≠ 14 → τ2 128 f = σ 128 f := fun f z1 z2 z3 z4 => by rw [hτ2, hh_up_off z2, hh_up_off z1, a3 f z3 z4]
    have b12 : τ2 128 12 = 1 := by rw [hτ2, hh_up_at]
    have b11 : τ2 128 11 = s := by rw [hτ2, hh_up_off (by omega), hh_up_at, a3 7 (by omega) (by omega), t7]
    clear hτ2
    refine wp_X12_next (fun _ => ?_)
    unfold P_X12_next
    refine ⟨fun y => by omega, fun _ => ENDE τ2 (Or.inl ⟨s, hR, ?_, ?_, ?_⟩)⟩
    · refine ⟨fun r z1 z2 z3 => by rw [hh_up_ne z1, hh_up_ne z1, hh_up_ne z1]; exact b1 r z1, fun f hf => by rw [hh_up_off (by omega), hh_up_off (by omega), hh_up_off (by omega)]; exact b2 f (by omega) (by omega) (by omega) (by omega), fun i hi => by rw [hh_up_ne (by omega), hh_up_ne (by omega), hh_up_ne (by omega), b1 134 (by omega)], ⟨hx, ?_⟩, ?_⟩
      · unfold hr_rb
        simp (disch := omega) only [hh_up_off, hh_up_ne]
        rw [b2 9 (by omega) (by omega) (by omega) (by omega), b1 133 (by omega)]
        exact hb
      · simp (disch := omega) only [hh_up_off, hh_up_ne]
        rw [b2 7 (by omega) (by omega) (by omega) (by omega), b2 8 (by omega) (by omega) (by omega) (by omega)]
        omega
    · simp (disch := omega) only [hh_up_off]
      exact b12
    · simp (disch := omega) only [hh_up_off]
      exact b11
  · refine ⟨fun _ => ?_, fun y => absurd y z⟩
    unfold B_X12_reads_26
    refine c_X12_next (b := b) (N := N) (k := k) ?_ (by rw [a3 8 (by omega) (by omega)]; omega) (by rw [a3 10 (by omega) (by omega)]; omega) (by rw [a3 12 (by omega) (by omega)]; exact t12) (by rw [a3 10 (by omega) (by omega), t10]) (fun ρ1 k' s' e' fm nt' q7 q8 q10 q12 => ENDE ρ1 (Or.inr ?_))
    · unfold hr_rb
      rw [a3 9 (by omega) (by omega), a1 133 (by omega)]
      exact hb
    rw [a3 8 (by omega) (by omega), t8] at nt'
    obtain ⟨y1, y2, y3⟩ := nt'.un nt
    subst y1; subst y2; subst y3
    have n1 := nt'.1
    refine ⟨k', s', e', ty, m, ⟨⟨fun r z1 z2 z3 => by rw [hh_up_ne z1, hh_up_ne z1, hh_up_ne z1, fm.1 r z1]; exact a1 r z1, fun f hf => by rw [hh_up_off (by omega), hh_up_off (by omega), hh_up_off (by omega), fm.2 f (by omega)]; exact a3 f (by omega) (by omega), fun i hi => by rw [hh_up_ne (by omega), hh_up_ne (by omega), hh_up_ne (by omega), fm.1 134 (by omega), a1 134 (by omega)], ⟨hx, ?_⟩, ?_⟩, ⟨?_, ?_, True.intro⟩, ⟨?_, True.intro⟩, ⟨?_, ?_, by show (0 : Int) ≤ 8; omega, by show (0 : Int) ≤ 8; omega⟩, ⟨?_, ?_, ?_⟩, ⟨?_, ?_⟩, nt'.tf (by omega)⟩, rn⟩
    · unfold hr_rb
      simp (disch := omega) only [hh_up_off, hh_up_ne]
      rw [fm.2 9 (by omega), fm.1 133 (by omega), a3 9 (by omega) (by omega), a1 133 (by omega)]
      exact hb
    · simp (disch := omega) only [hh_up_off, hh_up_ne]
      omega
    · simp (disch := omega) only [hh_up_off]
      rw [fm.2 13 (by omega)]; exact a13
    · simp (disch := omega) only [hh_up_off]
      rw [fm.2 14 (by omega)]; exact a14
    · simp (disch := omega) only [hh_up_off, hh_up_at]
      rfl
    · simp (disch := omega) only [hh_up_off, hh_up_at]
      rfl
    · simp (disch := omega) only [hh_up_at]
      rfl
    · simp (disch := omega) only [hh_up_off]
      rw [fm.2 15 (by omega), a3 15 (by omega) (by omega)]; exact t15
    · simp (disch := omega) only [hh_up_off]
      exact q7
    · simp (disch := omega) only [hh_up_off]
      exact q8
    · simp (disch := omega) only [hh_up_off]
      exact q10
    · simp (disch := omega) only [hh_up_off]
      exact q12
theorem hr_rfr.tr {σ ρ τ : hh_S} (h1 : hr_rfr σ b N ρ) (h2 : hr_rfr ρ b N τ) : hr_rfr σ b N τ := ⟨fun r z1 z2 z3 => by rw [h2.1 r z1 z2 z3, h1.1 r z1 z2 z3], fun f hf => by rw [h2.2.1 f hf, h1.2.1 f hf], h2.2.2.1, h2.2.2.2⟩
/-- what the reference has read -/
def hr_rgot (σ : hh_S) (b : Int → Int) (N : Int) (ρ : hh_S) (Z : hr_zs) : Prop := hr_rfr σ b N ρ ∧ ((∃ p : Int, Z = .inl p ∧ hr_rbd ρ p) ∨ ∃ (o1 o2 : hr_wl) (ty : Int), Z = .inr (o1, o2, ty) ∧ ρ 128 12 = 0 ∧ ρ 128 15 = ty ∧ (ρ 134 0 = o1.length ∧ hr_orl (ρ 134) 0 o1) ∧ ρ 134 241 = o2.length ∧ hr_orl (ρ 134) 241 o2)
theorem hr_nt.n4 {k e k' s' e' : Int} (h : hr_nt b N k e k' s' e') (hk : k ≠ 1 ∧ k ≠ 2) : k' ≠ 4 := by
  obtain ⟨a1, a2, a3, a4, a5, a6⟩ := h
  have d := hr_srt_d (b s')
  by_cases z : s' = N
  · have := a4 z; omega
  · by_cases y : hr_srt (b s') = 3
    · have := a5 (by omega) y; omega
    · have := (a6 (by omega) y).2.2 (by omega)
      omega
set_option maxHeartbeats 2000000 in
theorem c_rtext {d : Nat} {σ : hh_S} {Z : hr_zs} {F : hh_S → Prop} (hb : hr_rb σ b N) (hZ : hr_Z b N Z) (h0 : σ 128 8 = 0 ∧ σ 128 10 = 0 ∧ σ 128 12 = 0 ∧ σ 128 15 = 0) (hF : ∀ ρ : hh_S, hr_rgot σ b N ρ Z → F ρ) : hh_Sp (d + 7) hm_X12_next [hh_R 128] σ (fun _ σ56 => hh_Sp (d + 7) hm_X12_isWord [hh_R 128, hh_I 112, hh_I 97, hh_I 114, hh_I 116, hh_I 115] σ56 (fun r72 σ72 => hh_Sp (d + 7) hm_X12_reads [hh_R 128, hh_I 0, hh_I r72] σ72 (fun _ σ75 => hh_Sp (d + 7) hm_X12_isWord [hh_R 128, hh_I 114, hh_I 97, hh_I 116, hh_I 101, hh_I 0] σ75 (fun r90 σ90 => hh_Sp (d + 7) hm_X12_reads [hh_R 128, hh_I 1, hh_I r90] σ90 (fun _ σ93 => (¬ σ93 128 12 = 0 → F σ93) ∧ (σ93 128 12 = 0 → (σ93 128 10 = 0 → F σ93) ∧ (¬ σ93 128 10 = 0 → hh_Sp (d + 7) hm_X12_wrong [hh_R 128] σ93 (fun _ σ111 => F σ111)))))))) := by
  obtain ⟨k, s, e, nt, hz⟩ := hZ
  have hN := hb.1
  refine c_X12_next (b := b) (N := N) (k := 3) hb (by omega) (by omega) h0.2.2.1 (by omega) (fun ρ0 k' s' e' fm nt' q7 q8 q10 q12 => ?_)
  rw [h0.1] at nt'
  obtain ⟨y1, y2, y3⟩ := nt'.un nt
  subst y1; subst y2; subst y3
  have n4 := nt'.n4 (by omega)
  have n1 := nt'.1
  have f0 : hr_rfr σ b N ρ0 := ⟨fun r z1 z2 z3 => fm.1 r z1, fun f hf => fm.2 f (by omega), by unfold hr_rb; rw [fm.2 9 (by omega), fm.1 133 (by omega)]; exact hb, by omega⟩
  have t0 : hr_rtk b N ρ0 k' s' e' 0 := ⟨⟨n4, (q10 n4).1, (q10 n4).2, q7, q8, by rw [fm.2 15 (by omega)]; exact h0.2.2.2⟩, nt'.tf (by omega)⟩
  have FAIL : ∀ (ρ : hh_S) (p : Int), hr_rfr σ b N ρ → hr_rbd ρ p → Z = .inl p → hh_Sp (d + 7) hm_X12_isWord [hh_R 128, hh_I 114, hh_I 97, hh_I 116, hh_I 101, hh_I 0] ρ (fun r90 σ90 => hh_Sp (d + 7) hm_X12_reads [hh_R 128, hh_I 1, hh_I r90] σ90 (fun _ σ93 => (¬ σ93 128 12 = 0 → F σ93) ∧ (σ93 128 12 = 0 → (σ93 128 10 = 0 → F σ93) ∧ (¬ σ93 128 10 = 0 → hh_Sp (d + 7) hm_X12_wrong [hh_R 128] σ93 (fun _ σ111 => F σ111))))) := by
    intro ρ p fr bd hp
    have g : F ρ := hF ρ ⟨fr, Or.inl ⟨p, hp, bd⟩⟩
    refine c_isW4 fr.2.2.2 (fun _ => c_reads0 bd.1 ⟨fun _ => g, fun z => by have := bd.1; omega⟩) (fun _ => c_reads0 bd.1 ⟨fun _ => g, fun z => by have := bd.1; omega⟩)
  have w5e : hr_w5 (ρ0 133) (ρ0 128 10) (ρ0 128 7) (ρ0 128 8) ↔ hr_w5 b k' s' e' := by rw [f0.2.2.1.2, (q10 n4).1, q7, q8]
  refine c_isW5 f0.2.2.2 (fun w => ?_) (fun w => ?_)
  · have w5 := w5e.1 w
    rcases hz with ⟨z, _⟩ | ⟨_, k1, s1, e1, nt1, R1, rn1, hz⟩
    · exact absurd w5 z
    refine c_reads (R := R1) (Or.inl rfl) f0.2.2.1 t0 (Or.inr ⟨by omega, k1, s1, e1, nt1, rn1⟩) (fun ρ1 f1 i1 out => ?_)
    have f01 := f0.tr f1
    rcases hz with ⟨p, z1, z2⟩ | ⟨k2, s2, e2, o1, ty, z1, hz⟩
    · rcases out with ⟨p', y1, y2⟩ | ⟨k2, s2, e2, o, ty', y1, _⟩
      · rw [z1] at y1
        rw [← Sum.inl.inj y1] at y2
        exact FAIL ρ1 p f01 y2 z2
      · rw [z1] at y1
        cases y1
    rcases out with ⟨p', y1, y2⟩ | ⟨k2', s2', e2', o1', ty', y1, t1, og, tyg⟩
    · rw [z1] at y1
      cases y1
    rw [z1] at y1
    cases y1
    have w4e : hr_w4 (ρ1 133) (ρ1 128 10) (ρ1 128 7) (ρ1 128 8) ↔ hr_w4 b k2 s2 e2 := by rw [f01.2.2.1.2, t1.1.2.1, t1.1.2.2.2.1, t1.1.2.2.2.2.1]
    refine c_isW4 f01.2.2.2 (fun w => ?_) (fun w => ?_)
    · have w4 := w4e.1 w
      rcases hz with ⟨z, _⟩ | ⟨_, k3, s3, e3, nt3, R2, rn2, hz⟩
      · exact absurd w4 z
      refine c_reads (R := R2) (Or.inr rfl) f01.2.2.1 t1 (Or.inr ⟨by omega, k3, s3, e3, nt3, rn2⟩) (fun ρ2 f2 i2 out => ?_)
      have f02 := f01.tr f2
      rcases hz with ⟨p, z3, z4⟩ | ⟨k4, s4, e4, o2, ty2, z3, hz⟩
      · rcases out with ⟨p', y1, y2⟩ | ⟨_, _, _, _, _, y1, _⟩
        · rw [z3] at y1
          rw [← Sum.inl.inj y1] at y2
          have g : F ρ2 := hF ρ2 ⟨f02, Or.inl ⟨p, z4, y2⟩⟩
          exact ⟨fun _ => g, fun z => by have := y2.1; omega⟩
        · rw [z3] at y1
          cases y1
      rcases out with ⟨p', y1, y2⟩ | ⟨_, _, _, _, _, y1, t2, og2, tyg2⟩
      · rw [z3] at y1
        cases y1
      rw [z3] at y1
      cases y1
      refine ⟨fun z => absurd t2.1.2.2.1 z, fun _ => ⟨fun z => ?_, fun z => ?_⟩⟩
      · rw [t2.1.2.1] at z
        rcases hz with ⟨y1, _⟩ | ⟨_, y2⟩
        · exact absurd z y1
        refine hF ρ2 ⟨f02, Or.inr ⟨o1, o2, ty2, y2, t2.1.2.2.1, t2.1.2.2.2.2.2, ⟨by rw [i2 0 (by omega)]; exact og.1, hr_orl.cg o1 og.2.2 (fun i w1 w2 => i2 i (by have := og.2.1; omega))⟩, og2.1, og2.2.2⟩⟩
      · rw [t2.1.2.1] at z
        rcases hz with ⟨_, y2⟩ | ⟨y1, _⟩
        · refine wp_X12_wrong (fun _ => ?_)
          unfold P_X12_wrong B_X12_wrong_15
          refine ⟨fun y => absurd t2.1.2.2.1 y, fun _ => hF _ ⟨⟨fun r z1 z2 z3 => by rw [hh_up_ne z1, hh_up_ne z1]; exact f02.1 r z1 z2 z3, fun f hf => by rw [hh_up_off (by omega), hh_up_off (by omega)]; exact f02.2.1 f hf, ?_, ?_⟩, Or.inl ⟨s4, y2, by rw [hh_up_at], by rw [hh_up_off (by omega), hh_up_at]; exact t2.1.2.2.2.1⟩⟩⟩
          · unfold hr_rb
            rw [hh_up_off (by omega), hh_up_off (by omega), hh_up_ne (by omega), hh_up_ne (by omega)]
            exact f02.2.2.1
          · rw [hh_up_off (by omega), hh_up_off (by omega), hh_up_off (by omega), hh_up_off (by omega)]
            exact f02.2.2.2
        · exact absurd y1 z
    · rcases hz with ⟨_, z2⟩ | ⟨z, _⟩
      · refine c_reads (R := .inl s2) (Or.inr rfl) f01.2.2.1 t1 (Or.inl ⟨rfl, rfl⟩) (fun ρ2 f2 i2 out => ?_)
        rcases out with ⟨p', y1, y2⟩ | ⟨_, _, _, _, _, y1, _⟩
        · rw [← Sum.inl.inj y1] at y2
          have g : F ρ2 := hF ρ2 ⟨f01.tr f2, Or.inl ⟨s2, z2, y2⟩⟩
          exact ⟨fun _ => g, fun z => by have := y2.1; omega⟩
        · cases y1
      · exact absurd (w4e.2 z) w
  · rcases hz with ⟨_, z2⟩ | ⟨z, _⟩
    · refine c_reads (R := .inl s') (Or.inl rfl) f0.2.2.1 t0 (Or.inl ⟨rfl, rfl⟩) (fun ρ1 f1 i1 out => ?_)
      rcases out with ⟨p', y1, y2⟩ | ⟨_, _, _, _, _, y1, _⟩
      · rw [← Sum.inl.inj y1] at y2
        exact FAIL ρ1 s' (f0.tr f1) y2 z2
      · cases y1
    · exact absurd (w5e.2 z) w
end hr_rtx
