/-! terms: the words of a text -/
/-- the sort of a sign: a letter, a digit, another -/
def hr_srt (c : Int) : Int := if 97 ≤ c ∧ c ≤ 122 then 1 else if 48 ≤ c ∧ c ≤ 57 then 2 else 3
theorem hr_srt_d (c : Int) : (97 ≤ c ∧ c ≤ 122 → hr_srt c = 1) ∧ (48 ≤ c ∧ c ≤ 57 → hr_srt c = 2) ∧ ((c < 97 ∨ 122 < c) → (c < 48 ∨ 57 < c) → hr_srt c = 3) ∧ (hr_srt c = 1 → 97 ≤ c ∧ c ≤ 122) ∧ (hr_srt c = 2 → 48 ≤ c ∧ c ≤ 57) ∧ (hr_srt c = 1 ∨ hr_srt c = 2 ∨ hr_srt c = 3) := by
  unfold hr_srt
  split
  · omega
  · split <;> omega
/-- the token behind one of the kind k that ends at e -/
def hr_nt (b : Int → Int) (N k e k' s' e' : Int) : Prop :=
  (e ≤ s' ∧ s' ≤ N ∧ s' ≤ e' ∧ e' ≤ N) ∧ (∀ j : Int, e ≤ j → j < s' → b j = 32) ∧ (s' < N → b s' ≠ 32) ∧
  (s' = N → k' = 0 ∧ e' = s') ∧
  (s' < N → hr_srt (b s') = 3 → k' = 3 ∧ e' = s' + 1) ∧
  (s' < N → hr_srt (b s') ≠ 3 → (s' < e' ∧ (∀ j : Int, s' ≤ j → j < e' → hr_srt (b j) = hr_srt (b s')) ∧ (e' < N → hr_srt (b e') ≠ hr_srt (b s'))) ∧ ((k = 1 ∨ k = 2) ∧ s' = e → k' = 4) ∧ (¬ ((k = 1 ∨ k = 2) ∧ s' = e) → k' = hr_srt (b s')))
theorem hr_nt.un {b : Int → Int} {N k e k1 s1 e1 k2 s2 e2 : Int} (h1 : hr_nt b N k e k1 s1 e1) (h2 : hr_nt b N k e k2 s2 e2) : k1 = k2 ∧ s1 = s2 ∧ e1 = e2 := by
  obtain ⟨a1, a2, a3, a4, a5, a6⟩ := h1
  obtain ⟨c1, c2, c3, c4, c5, c6⟩ := h2
  have es : s1 = s2 := by
    rcases (show s1 < s2 ∨ s1 = s2 ∨ s2 < s1 by omega) with z | z | z
    · exact absurd (c2 s1 (by omega) z) (a3 (by omega))
    · exact z
    · exact absurd (a2 s2 (by omega) z) (c3 (by omega))
  subst es
  by_cases z : s1 = N
  · have := a4 z
    have := c4 z
    omega
  · by_cases y : hr_srt (b s1) = 3
    · have := a5 (by omega) y
      have := c5 (by omega) y
      omega
    · obtain ⟨⟨a7, a8, a9⟩, a10, a11⟩ := a6 (by omega) y
      obtain ⟨⟨c7, c8, c9⟩, c10, c11⟩ := c6 (by omega) y
      have ee : e1 = e2 := by
        rcases (show e1 < e2 ∨ e1 = e2 ∨ e2 < e1 by omega) with w | w | w
        · exact absurd (c8 e1 (by omega) w) (a9 (by omega))
        · exact w
        · exact absurd (a8 e2 (by omega) w) (c9 (by omega))
      refine ⟨?_, rfl, ee⟩
      by_cases w : (k = 1 ∨ k = 2) ∧ s1 = e
      · rw [a10 w, c10 w]
      · rw [a11 w, c11 w]
theorem hr_nt.f {b : Int → Int} {N k e k' s' e' : Int} (h : hr_nt b N k e k' s' e') : (0 ≤ k' ∧ k' ≤ 4) ∧ (k' = 0 → s' = N) ∧ (k' ≠ 0 → s' < N ∧ s' < e') ∧ (k' = 3 → e' = s' + 1 ∧ hr_srt (b s') = 3) ∧ (k' = 2 → ∀ j : Int, s' ≤ j → j < e' → 48 ≤ b j ∧ b j ≤ 57) ∧ (k' = 1 → ∀ j : Int, s' ≤ j → j < e' → 97 ≤ b j ∧ b j ≤ 122) := by
  obtain ⟨a1, a2, a3, a4, a5, a6⟩ := h
  have d := hr_srt_d (b s')
  by_cases z : s' = N
  · have := a4 z
    refine ⟨by omega, fun _ => z, fun _ => by omega, fun _ => by omega, fun _ => by omega, fun _ => by omega⟩
  · by_cases y : hr_srt (b s') = 3
    · have := a5 (by omega) y
      refine ⟨by omega, fun _ => by omega, fun _ => by omega, fun _ => ⟨by omega, y⟩, fun _ => by omega, fun _ => by omega⟩
    · obtain ⟨⟨a7, a8, a9⟩, a10, a11⟩ := a6 (by omega) y
      by_cases w : (k = 1 ∨ k = 2) ∧ s' = e
      · have := a10 w
        refine ⟨by omega, fun _ => by omega, fun _ => by omega, fun _ => by omega, fun _ => by omega, fun _ => by omega⟩
      · have := a11 w
        refine ⟨by omega, fun _ => by omega, fun _ => by omega, fun _ => by omega, fun q j j1 j2 => ?_, fun q j j1 j2 => ?_⟩
        · have := a8 j j1 j2
          have := hr_srt_d (b j)
          omega
        · have := a8 j j1 j2
          have := hr_srt_d (b j)
          omega
/-- the class's text -/
def hr_tb (σ : hh_S) (b : Int → Int) (N : Int) : Prop := (σ 109 1 = N ∧ 0 ≤ N ∧ N ≤ 120) ∧ ∀ j : Int, 0 ≤ j → j < N → σ 110 j = hh_i2b (b j) ∧ 0 ≤ b j ∧ b j ≤ 255
theorem hr_i2b {x : Int} (h1 : 0 ≤ x) (h2 : x ≤ 255) : (x ≤ 127 → hh_i2b x = x) ∧ (128 ≤ x → hh_i2b x = x - 256) := by
  have h : ∀ n : Fin 256, (n.val ≤ 127 → hh_i2b (n.val : Int) = (n.val : Int)) ∧ (128 ≤ n.val → hh_i2b (n.val : Int) = (n.val : Int) - 256) := by decide +kernel
  obtain ⟨n, rfl⟩ : ∃ n : Nat, x = n := ⟨x.toNat, by omega⟩
  have := h ⟨n, by omega⟩
  exact ⟨fun z => this.1 (show n ≤ 127 by omega), fun z => this.2 (show 128 ≤ n by omega)⟩
theorem hr_tb.b {σ : hh_S} {b : Int → Int} {N : Int} (h : hr_tb σ b N) {j : Int} (j1 : 0 ≤ j) (j2 : j < N) : (0 ≤ b j ∧ b j ≤ 127 ∧ σ 110 j = b j) ∨ (128 ≤ b j ∧ b j ≤ 255 ∧ σ 110 j = b j - 256 ∧ hr_srt (b j) = 3) := by
  obtain ⟨h1, h2, h3⟩ := h.2 j j1 j2
  have := hr_i2b h2 h3
  have := hr_srt_d (b j)
  rcases (show b j ≤ 127 ∨ 128 ≤ b j by omega) with z | z
  · exact Or.inl ⟨h2, z, by rw [h1]; exact (hr_i2b h2 h3).1 z⟩
  · exact Or.inr ⟨z, h3, by rw [h1]; exact (hr_i2b h2 h3).2 z, by omega⟩
theorem c_X8_isDigit {d : Nat} {σ : hh_S} {Q : Int → hh_S → Prop} {v : Int} (ht : 48 ≤ v → v ≤ 57 → Q 1 σ) (hf : v < 48 ∨ 57 < v → Q 0 σ) : hh_Sp (d + 1) hm_X8_isDigit [hh_I v] σ Q :=
  wp_X8_isDigit _ (fun _ _ => ⟨fun c => hf (by omega), fun c => ⟨fun c2 => hf (by omega), fun c2 => ht (by omega) (by omega)⟩⟩)
theorem c_X8_isLetter {d : Nat} {σ : hh_S} {Q : Int → hh_S → Prop} {v : Int} (ht : 97 ≤ v → v ≤ 122 → Q 1 σ) (hf : v < 97 ∨ 122 < v → Q 0 σ) : hh_Sp (d + 1) hm_X8_isLetter [hh_I v] σ Q :=
  wp_X8_isLetter _ (fun _ _ => ⟨fun c => hf (by omega), fun c => ⟨fun c2 => hf (by omega), fun c2 => ht (by omega) (by omega)⟩⟩)
theorem c_X8_endOfDigits {d : Nat} {σ : hh_S} {Q : Int → hh_S → Prop} {b : Int → Int} {N a : Int} (h : hr_tb σ b N) (ha : 0 ≤ a ∧ a ≤ N) (hq : ∀ r : Int, a ≤ r → r ≤ N → (∀ j : Int, a ≤ j → j < r → hr_srt (b j) = 2) → (r < N → hr_srt (b r) ≠ 2) → Q r σ) : hh_Sp (d + 2) hm_X8_endOfDigits [hh_R 109, hh_I a] σ Q := by
  refine wp_X8_endOfDigits _ (fun _ _ => ?_)
  have hN := h.1
  refine hh_lp1_of (fun n x τ => τ = σ ∧ a ≤ x ∧ x ≤ N ∧ N - x ≤ n ∧ ∀ j : Int, a ≤ j → j < x → hr_srt (b j) = 2) ?_ 120 a σ ⟨rfl, by omega, by omega, by omega, fun j j1 j2 => by omega⟩
  rintro n x τ k ⟨rfl, i1, i2, i3, i4⟩ hk
  unfold B_X8_endOfDigits_2
  rw [hN.1]
  refine ⟨fun c => hq x i1 i2 i4 (fun z => by omega), fun c => ⟨by omega, ?_⟩⟩
  have hb := h.b (show 0 ≤ x by omega) (show x < N by omega)
  have hd := hr_srt_d (b x)
  refine c_X8_isDigit (fun c1 c2 => ⟨fun z => by omega, fun _ => ⟨by omega, hk (n - 1) _ _ (by omega) ⟨rfl, by omega, by omega, by omega, fun j j1 j2 => ?_⟩⟩⟩) (fun c1 => ⟨fun _ => hq x i1 i2 i4 (fun _ => ?_), fun z => by omega⟩)
  · rcases (show j < x ∨ j = x by omega) with w | w
    · exact i4 j j1 w
    · rw [w]; omega
  · omega
theorem c_X8_endOfLetters {d : Nat} {σ : hh_S} {Q : Int → hh_S → Prop} {b : Int → Int} {N a : Int} (h : hr_tb σ b N) (ha : 0 ≤ a ∧ a ≤ N) (hq : ∀ r : Int, a ≤ r → r ≤ N → (∀ j : Int, a ≤ j → j < r → hr_srt (b j) = 1) → (r < N → hr_srt (b r) ≠ 1) → Q r σ) : hh_Sp (d + 2) hm_X8_endOfLetters [hh_R 109, hh_I a] σ Q := by
  refine wp_X8_endOfLetters _ (fun _ _ => ?_)
  have hN := h.1
  refine hh_lp1_of (fun n x τ => τ = σ ∧ a ≤ x ∧ x ≤ N ∧ N - x ≤ n ∧ ∀ j : Int, a ≤ j → j < x → hr_srt (b j) = 1) ?_ 120 a σ ⟨rfl, by omega, by omega, by omega, fun j j1 j2 => by omega⟩
  rintro n x τ k ⟨rfl, i1, i2, i3, i4⟩ hk
  unfold B_X8_endOfLetters_2
  rw [hN.1]
  refine ⟨fun c => hq x i1 i2 i4 (fun z => by omega), fun c => ⟨by omega, ?_⟩⟩
  have hb := h.b (show 0 ≤ x by omega) (show x < N by omega)
  have hd := hr_srt_d (b x)
  refine c_X8_isLetter (fun c1 c2 => ⟨fun z => by omega, fun _ => ⟨by omega, hk (n - 1) _ _ (by omega) ⟨rfl, by omega, by omega, by omega, fun j j1 j2 => ?_⟩⟩⟩) (fun c1 => ⟨fun _ => hq x i1 i2 i4 (fun _ => ?_), fun z => by omega⟩)
  · rcases (show j < x ∨ j = x by omega) with w | w
    · exact i4 j j1 w
    · rw [w]; omega
  · omega
/-- the class's name of a kind -/
def hr_ckr (c k s e : Int) : Prop := (k = 0 → c = 0) ∧ (k = 1 → c = 2) ∧ (k = 2 → e - s ≤ 5 → c = 1) ∧ (k = 2 → 5 < e - s → c = 4) ∧ (k = 3 → c = 3) ∧ (k = 4 → c = 4)
/-- what reading on leaves as it was -/
def hr_fn (σ ρ : hh_S) : Prop := (∀ r : Nat, r ≠ 109 → ρ r = σ r) ∧ ∀ f : Int, f ≠ 6 → f ≠ 7 → f ≠ 8 → ρ 109 f = σ 109 f
set_option maxHeartbeats 2000000 in
theorem c_X8_readNext {d : Nat} {σ : hh_S} {Q : Int → hh_S → Prop} {b : Int → Int} {N k : Int} (h : hr_tb σ b N) (he : 0 ≤ σ 109 8 ∧ σ 109 8 ≤ N) (hk0 : (σ 109 6 = 1 ∨ σ 109 6 = 2) ↔ (k = 1 ∨ k = 2)) (hq : ∀ (ρ : hh_S) (k' s' e' : Int), hr_fn σ ρ → hr_nt b N k (σ 109 8) k' s' e' → ρ 109 7 = s' → ρ 109 8 = e' → hr_ckr (ρ 109 6) k' s' e' → Q 0 ρ) : hh_Sp (d + 3) hm_X8_readNext [hh_R 109] σ Q := by
  refine wp_X8_readNext (fun _ => ?_)
  have hN := h.1
  refine hh_lp1_of (fun n x τ => τ = σ ∧ σ 109 8 ≤ x ∧ x ≤ N ∧ N - x ≤ n ∧ ∀ j : Int, σ 109 8 ≤ j → j < x → b j = 32) ?_ 120 _ σ ⟨rfl, by omega, by omega, by omega, fun j j1 j2 => by omega⟩
  rintro n x τ kk ⟨rfl, i1, i2, i3, i4⟩ hk
  have END : (x < N → b x ≠ 32) → B_X8_readNext_30 (d + 2) Q x τ := by
    intro hx
    have E : ∀ s0 : Int, (s0 = 0 ∨ s0 = 1) → (s0 = 1 ↔ ((k = 1 ∨ k = 2) ∧ x = τ 109 8)) → B_X8_readNext_59 (d + 2) Q x s0 τ := by
      intro s0 z0 hs0
      unfold B_X8_readNext_59
      rw [hN.1]
      refine ⟨fun c => ⟨by omega, ?_⟩, fun c => ?_⟩
      · have hb := h.b (show 0 ≤ x by omega) c
        have hd := hr_srt_d (b x)
        have TB : ∀ ρ : hh_S, hr_fn τ ρ → hr_tb ρ b N := fun ρ f => ⟨by rw [f.2 1 (by omega) (by omega) (by omega)]; exact hN, fun j j1 j2 => by rw [f.1 110 (by omega)]; exact h.2 j j1 j2⟩
        have F1 : hr_fn τ (hh_up τ 109 7 x) := ⟨fun r hr => by rw [hh_up_ne hr], fun f f6 f7 f8 => by rw [hh_up_off f7]⟩
        refine c_X8_isDigit (fun c1 c2 => ⟨fun z => by omega, fun _ => ?_⟩) (fun c1 => ⟨fun _ => ⟨by omega, ?_⟩, fun z => by omega⟩)
        · refine c_X8_endOfDigits (TB _ F1) (by omega) (fun r r1 r2 r3 r4 => ?_)
          have rx : x < r := by
            rcases (show x < r ∨ r = x by omega) with w | w
            · exact w
            · have := r4 (by omega)
              rw [w] at this
              omega
          have sx : hr_srt (b x) = 2 := r3 x (by omega) rx
          have NT : ∀ k' : Int, (s0 = 1 → k' = 4) → (s0 = 0 → k' = 2) → hr_nt b N k (τ 109 8) k' x r := by
            intro k' y1 y2
            refine ⟨by omega, i4, hx, fun w => by omega, fun _ w => by omega, fun _ _ => ⟨⟨rx, fun j j1 j2 => by rw [sx]; exact r3 j j1 j2, fun w => by rw [sx]; exact r4 w⟩, fun w => y1 (by omega), fun w => by rw [sx]; exact y2 (by omega)⟩⟩
          have G : ∀ c9 k' : Int, (s0 = 1 → k' = 4) → (s0 = 0 → k' = 2) → hr_ckr c9 k' x r → Q 0 (hh_up (hh_up (hh_up τ 109 7 x) 109 8 r) 109 6 c9) := by
            intro c9 k' y1 y2 y3
            refine hq _ k' x r ⟨fun r hr => by rw [hh_up_ne hr, hh_up_ne hr, hh_up_ne hr], fun f f6 f7 f8 => by rw [hh_up_off f6, hh_up_off f8, hh_up_off f7]⟩ (NT k' y1 y2) ?_ ?_ ?_
            · rw [hh_up_off (by omega), hh_up_off (by omega), hh_up_at]
            · rw [hh_up_off (by omega), hh_up_at]
            · rw [hh_up_at]; exact y3
          unfold B_X8_readNext_122 B_X8_readNext_127
          unfold hr_ckr at G
          refine ⟨fun w => G 4 4 (fun _ => rfl) (fun y => by omega) (by omega), fun w => ⟨by omega, fun w2 => G 1 2 (fun y => by omega) (fun _ => rfl) (by omega), fun w2 => G 4 2 (fun y => by omega) (fun _ => rfl) (by omega)⟩⟩
        · rw [hh_up_ne (by omega)]
          refine c_X8_isLetter (fun c2 c3 => ⟨fun z => by omega, fun _ => ?_⟩) (fun c2 => ⟨fun _ => ⟨by omega, ?_⟩, fun z => by omega⟩)
          · refine c_X8_endOfLetters (TB _ F1) (by omega) (fun r r1 r2 r3 r4 => ?_)
            have rx : x < r := by
              rcases (show x < r ∨ r = x by omega) with w | w
              · exact w
              · have := r4 (by omega)
                rw [w] at this
                omega
            have sx : hr_srt (b x) = 1 := r3 x (by omega) rx
            have G : ∀ c9 k' : Int, (s0 = 1 → k' = 4) → (s0 = 0 → k' = 1) → hr_ckr c9 k' x r → Q 0 (hh_up (hh_up (hh_up τ 109 7 x) 109 8 r) 109 6 c9) := by
              intro c9 k' y1 y2 y3
              refine hq _ k' x r ⟨fun r hr => by rw [hh_up_ne hr, hh_up_ne hr, hh_up_ne hr], fun f f6 f7 f8 => by rw [hh_up_off f6, hh_up_off f8, hh_up_off f7]⟩ ⟨by omega, i4, hx, fun w => by omega, fun _ w => by omega, fun _ _ => ⟨⟨rx, fun j j1 j2 => by rw [sx]; exact r3 j j1 j2, fun w => by rw [sx]; exact r4 w⟩, fun w => y1 (by omega), fun w => by rw [sx]; exact y2 (by omega)⟩⟩ ?_ ?_ ?_
              · rw [hh_up_off (by omega), hh_up_off (by omega), hh_up_at]
              · rw [hh_up_off (by omega), hh_up_at]
              · rw [hh_up_at]; exact y3
            unfold B_X8_readNext_164
            unfold hr_ckr at G
            exact ⟨fun w => G 2 1 (fun y => by omega) (fun _ => rfl) (by omega), fun w => G 4 4 (fun _ => rfl) (fun y => by omega) (by omega)⟩
          · have sx : hr_srt (b x) = 3 := by omega
            refine hq _ 3 x (x + 1) ⟨fun r hr => by rw [hh_up_ne hr, hh_up_ne hr, hh_up_ne hr], fun f f6 f7 f8 => by rw [hh_up_off f6, hh_up_off f8, hh_up_off f7]⟩ ⟨by omega, i4, hx, fun w => by omega, fun _ w => by omega, fun _ w => absurd sx w⟩ ?_ ?_ ?_
            · rw [hh_up_off (by omega), hh_up_off (by omega), hh_up_at]
            · rw [hh_up_off (by omega), hh_up_at]
            · rw [hh_up_at]; unfold hr_ckr; omega
      · refine hq _ 0 x x ⟨fun r hr => by rw [hh_up_ne hr, hh_up_ne hr, hh_up_ne hr], fun f f6 f7 f8 => by rw [hh_up_off f6, hh_up_off f8, hh_up_off f7]⟩ ⟨by omega, i4, hx, fun w => by omega, fun w _ => by omega, fun w _ => by omega⟩ ?_ ?_ ?_
        · rw [hh_up_off (by omega), hh_up_off (by omega), hh_up_at]
        · rw [hh_up_off (by omega), hh_up_at]
        · rw [hh_up_at]; unfold hr_ckr; omega
    unfold B_X8_readNext_30 B_X8_readNext_58 B_X8_readNext_54
    refine ⟨fun z => E 0 (by omega) (by omega), fun z => ⟨fun z2 => E 1 (by omega) (by omega), fun z2 => ⟨fun z3 => E 0 (by omega) (by omega), fun z3 => E 1 (by omega) (by omega)⟩⟩⟩
  unfold B_X8_readNext_5
  rw [hN.1]
  refine ⟨fun c => END (fun z => by omega), fun c => ⟨by omega, fun c2 => END (fun _ z => ?_), fun c2 => ⟨by omega, hk (n - 1) _ _ (by omega) ⟨rfl, by omega, by omega, by omega, fun j j1 j2 => ?_⟩⟩⟩⟩
  · have hb := h.b (show 0 ≤ x by omega) (show x < N by omega)
    omega
  · rcases (show j < x ∨ j = x by omega) with w | w
    · exact i4 j j1 w
    · have hb := h.b (show 0 ≤ x by omega) (show x < N by omega)
      have := (h.2 x (by omega) (by omega)).2
      rw [w]; omega
/-- the reference's text -/
def hr_rb (σ : hh_S) (b : Int → Int) (N : Int) : Prop := (σ 128 9 = N ∧ 0 ≤ N ∧ N ≤ 120) ∧ σ 133 = b
theorem c_X12_sortOf {d : Nat} {σ : hh_S} {Q : Int → hh_S → Prop} {v : Int} (hq : Q (hr_srt v) σ) : hh_Sp (d + 2) hm_X12_sortOf [hh_I v] σ Q := by
  have hd := hr_srt_d v
  refine wp_X12_sortOf _ (fun _ _ => ?_)
  refine c_in (fun c1 c2 => ⟨fun z => by omega, fun _ => ?_⟩) (fun c => ⟨fun _ => c_in (fun c1 c2 => ⟨fun z => by omega, fun _ => ?_⟩) (fun c2 => ⟨fun _ => ?_, fun z => by omega⟩), fun z => by omega⟩)
  · rw [show hr_srt v = 1 by omega] at hq; exact hq
  · rw [show hr_srt v = 2 by omega] at hq; exact hq
  · rw [show hr_srt v = 3 by omega] at hq; exact hq
def hr_fm (σ ρ : hh_S) : Prop := (∀ r : Nat, r ≠ 128 → ρ r = σ r) ∧ ∀ f : Int, (f < 7 ∨ f = 9 ∨ 12 < f) → ρ 128 f = σ 128 f
set_option maxHeartbeats 2000000 in
theorem c_X12_next {d : Nat} {σ : hh_S} {Q : Int → hh_S → Prop} {b : Int → Int} {N k : Int} (h : hr_rb σ b N) (he : 0 ≤ σ 128 8 ∧ σ 128 8 ≤ N) (h10 : 0 ≤ σ 128 10 ∧ σ 128 10 ≤ 3) (h12 : σ 128 12 = 0) (hk0 : (σ 128 10 = 1 ∨ σ 128 10 = 2) ↔ (k = 1 ∨ k = 2)) (hq : ∀ (ρ : hh_S) (k' s' e' : Int), hr_fm σ ρ → hr_nt b N k (σ 128 8) k' s' e' → ρ 128 7 = s' → ρ 128 8 = e' → (k' ≠ 4 → ρ 128 10 = k' ∧ ρ 128 12 = 0) → (k' = 4 → ρ 128 12 = 1 ∧ ρ 128 11 = s') → Q 0 ρ) : hh_Sp (d + 3) hm_X12_next [hh_R 128] σ Q := by
  refine wp_X12_next (fun _ => ?_)
  have hN := h.1
  have hb := h.2
  refine ⟨fun _ => ?_, fun z => absurd h12 z⟩
  refine hh_lp1_of (fun n x τ => ∃ p : Int, (x = σ 128 8 ∧ σ 128 8 ≤ p ∧ p ≤ N ∧ N - p ≤ n) ∧ τ = hh_up σ 128 7 p ∧ ∀ j : Int, σ 128 8 ≤ j → j < p → b j = 32) ?_ 120 _ _ ⟨σ 128 8, by omega, rfl, fun j j1 j2 => by omega⟩
  rintro n x τ kk ⟨p, ⟨rfl, i1, i2, i3⟩, rfl, i4⟩ hk
  have END : (p < N → b p ≠ 32) → B_X12_next_59 (d + 2) Q (σ 128 8) (hh_up σ 128 7 p) := by
    intro hx
    have E : ∀ s0 : Int, (s0 = 0 ∨ s0 = 1) → (s0 = 1 ↔ ((k = 1 ∨ k = 2) ∧ p = σ 128 8)) → B_X12_next_95 (d + 2) Q s0 (hh_up (hh_up σ 128 7 p) 128 8 p) := by
      intro s0 z0 hs0
      have F : ∀ (e9 k9 : Int), hr_fm σ (hh_up (hh_up (hh_up (hh_up σ 128 7 p) 128 8 p) 128 10 k9) 128 8 e9) := fun e9 k9 => ⟨fun r hr => by rw [hh_up_ne hr, hh_up_ne hr, hh_up_ne hr, hh_up_ne hr], fun f hf => by rw [hh_up_off (by omega), hh_up_off (by omega), hh_up_off (by omega), hh_up_off (by omega)]⟩
      unfold B_X12_next_95
      rw [hh_up_off (show (7 : Int) ≠ 8 by omega), hh_up_at, hh_up_off (show (9 : Int) ≠ 8 by omega), hh_up_off (show (9 : Int) ≠ 7 by omega), hN.1]
      refine ⟨fun c => ⟨by omega, ?_⟩, fun c => ?_⟩
      · rw [hh_up_ne (show (133 : Nat) ≠ 128 by omega), hh_up_ne (show (133 : Nat) ≠ 128 by omega), hb]
        refine c_X12_sortOf ?_
        have hd := hr_srt_d (b p)
        unfold B_X12_next_124
        refine ⟨fun z => by omega, fun _ => ⟨by rw [hh_up_at]; omega, ?_⟩⟩
        have S2 : ∀ (e9 : Int) (τ : hh_S), p < e9 → e9 ≤ N → (hr_srt (b p) = 3 → e9 = p + 1) → (hr_srt (b p) ≠ 3 → (∀ j : Int, p ≤ j → j < e9 → hr_srt (b j) = hr_srt (b p)) ∧ (e9 < N → hr_srt (b e9) ≠ hr_srt (b p))) → hr_fm σ τ → τ 128 7 = p → τ 128 8 = e9 → τ 128 10 = hr_srt (b p) → τ 128 12 = 0 → B_X12_next_202 (d + 2) Q s0 τ := by
          intro e9 τ g1 g2 g3 g4 g5 g6 g7 g8 g9
          unfold B_X12_next_202 B_X12_next_222
          have NT : ∀ k' : Int, (hr_srt (b p) = 3 → k' = 3) → (hr_srt (b p) ≠ 3 → s0 = 1 → k' = 4) → (s0 = 0 → k' = hr_srt (b p)) → hr_nt b N k (σ 128 8) k' p e9 := by
            intro k' y0 y1 y2
            refine ⟨by omega, i4, hx, fun w => by omega, fun _ w => ⟨y0 w, g3 w⟩, fun _ w => ⟨⟨g1, g4 w⟩, fun w2 => y1 w (by omega), fun w2 => y2 (by omega)⟩⟩
          have W : hr_srt (b p) ≠ 3 → s0 = 1 → hh_Sp (d + 2) hm_X12_wrong [hh_R 128] τ (fun _ σ223 => Q 0 σ223) := by
            intro y1 y2
            refine wp_X12_wrong (fun _ => ?_)
            unfold P_X12_wrong B_X12_wrong_15
            refine ⟨fun z => absurd g9 z, fun _ => ?_⟩
            refine hq _ 4 p e9 ⟨fun r hr => by rw [hh_up_ne hr, hh_up_ne hr]; exact g5.1 r hr, fun f hf => by rw [hh_up_off (by omega), hh_up_off (by omega)]; exact g5.2 f hf⟩ (NT 4 (fun z => absurd z y1) (fun _ _ => rfl) (fun z => by omega)) ?_ ?_ (fun z => absurd rfl z) (fun _ => ⟨by rw [hh_up_at], by rw [hh_up_off (by omega), hh_up_at, g6]⟩)
            · rw [hh_up_off (by omega), hh_up_off (by omega), g6]
            · rw [hh_up_off (by omega), hh_up_off (by omega), g7]
          rw [g8]
          refine ⟨fun z => hq τ (hr_srt (b p)) p e9 g5 (NT _ (fun y => y) (fun _ y => by omega) (fun _ => rfl)) g6 g7 (fun _ => ⟨g8, g9⟩) (fun y => by omega), fun z => ⟨fun z2 => W (by omega) (by omega), fun z2 => ⟨fun z3 => hq τ (hr_srt (b p)) p e9 g5 (NT _ (fun y => y) (fun y => by omega) (fun _ => rfl)) g6 g7 (fun _ => ⟨g8, g9⟩) (fun y => by omega), fun z3 => W (by omega) (by omega)⟩⟩⟩
        refine hh_lp1_of (fun n x τ => ∃ e9 : Int, (x = s0 ∧ p < e9 ∧ e9 ≤ N ∧ N - e9 ≤ n) ∧ τ = hh_up (hh_up (hh_up (hh_up σ 128 7 p) 128 8 p) 128 10 (hr_srt (b p))) 128 8 e9 ∧ (hr_srt (b p) = 3 → e9 = p + 1) ∧ ∀ j : Int, p ≤ j → j < e9 → hr_srt (b j) = hr_srt (b p)) ?_ 120 _ _ ⟨p + 1, by omega, by rw [hh_up_at], fun _ => rfl, fun j j1 j2 => by rw [show j = p by omega]⟩
        rintro n x τ kk ⟨e9, ⟨rfl, j1, j2, j3⟩, rfl, j5, j4⟩ hk
        unfold B_X12_next_144
        have q10 : hh_up (hh_up (hh_up (hh_up σ 128 7 p) 128 8 p) 128 10 (hr_srt (b p))) 128 8 e9 128 10 = hr_srt (b p) := by rw [hh_up_off (by omega), hh_up_at]
        have q8 : hh_up (hh_up (hh_up (hh_up σ 128 7 p) 128 8 p) 128 10 (hr_srt (b p))) 128 8 e9 128 8 = e9 := hh_up_at _ _ _ _
        have q9 : hh_up (hh_up (hh_up (hh_up σ 128 7 p) 128 8 p) 128 10 (hr_srt (b p))) 128 8 e9 128 9 = N := by rw [hh_up_off (by omega), hh_up_off (by omega), hh_up_off (by omega), hh_up_off (by omega), hN.1]
        have q7 : hh_up (hh_up (hh_up (hh_up σ 128 7 p) 128 8 p) 128 10 (hr_srt (b p))) 128 8 e9 128 7 = p := by rw [hh_up_off (by omega), hh_up_off (by omega), hh_up_off (by omega), hh_up_at]
        have q12 : hh_up (hh_up (hh_up (hh_up σ 128 7 p) 128 8 p) 128 10 (hr_srt (b p))) 128 8 e9 128 12 = 0 := by rw [hh_up_off (by omega), hh_up_off (by omega), hh_up_off (by omega), hh_up_off (by omega), h12]
        have q33 : hh_up (hh_up (hh_up (hh_up σ 128 7 p) 128 8 p) 128 10 (hr_srt (b p))) 128 8 e9 133 = b := by rw [hh_up_ne (by omega), hh_up_ne (by omega), hh_up_ne (by omega), hh_up_ne (by omega), hb]
        have FF := F e9 (hr_srt (b p))
        have UP : ∀ v : Int, hh_up (hh_up (hh_up (hh_up (hh_up σ 128 7 p) 128 8 p) 128 10 (hr_srt (b p))) 128 8 e9) 128 8 v = hh_up (hh_up (hh_up (hh_up σ 128 7 p) 128 8 p) 128 10 (hr_srt (b p))) 128 8 v := by
          intro v
          funext r i
          by_cases w : r = 128
          · subst w
            by_cases w2 : i = 8
            · subst w2; rw [hh_up_at, hh_up_at]
            · rw [hh_up_off w2, hh_up_off w2, hh_up_off w2]
          · simp only [hh_up_ne w]
        rw [q10, q8, q9, q33]
        refine ⟨fun c3 => S2 e9 _ j1 j2 j5 (fun y => absurd c3 y) FF q7 q8 q10 q12, fun c3 => ⟨fun c4 => S2 e9 _ j1 j2 j5 (fun _ => ⟨j4, fun w => by omega⟩) FF q7 q8 q10 q12, fun c4 => ⟨fun c5 => by omega, fun c5 => ⟨by omega, c_X12_sortOf ⟨fun c6 => S2 e9 _ j1 j2 j5 (fun _ => ⟨j4, fun w => ?_⟩) FF q7 q8 q10 q12, fun c6 => ⟨by rw [q8]; omega, ?_⟩⟩⟩⟩⟩⟩
        · rw [q10] at c6; exact c6
        · rw [q8, UP]
          refine hk (n - 1) _ _ (by omega) ⟨e9 + 1, by omega, rfl, fun y => absurd y c3, fun j y1 y2 => ?_⟩
          rcases (show j < e9 ∨ j = e9 by omega) with w | w
          · exact j4 j y1 w
          · rw [q10] at c6
            rw [w]; exact c6
      · unfold B_X12_next_124
        refine ⟨fun _ => ?_, fun z => absurd rfl z⟩
        refine ⟨1, ?_⟩
        show B_X12_next_144 (d + 2) Q _ s0 _
        unfold B_X12_next_144 B_X12_next_202
        have q10 : hh_up (hh_up (hh_up σ 128 7 p) 128 8 p) 128 10 0 128 10 = 0 := hh_up_at _ _ _ _
        have q9 : hh_up (hh_up (hh_up σ 128 7 p) 128 8 p) 128 10 0 128 9 = N := by rw [hh_up_off (by omega), hh_up_off (by omega), hh_up_off (by omega), hN.1]
        have q8 : hh_up (hh_up (hh_up σ 128 7 p) 128 8 p) 128 10 0 128 8 = p := by rw [hh_up_off (by omega), hh_up_at]
        have q7 : hh_up (hh_up (hh_up σ 128 7 p) 128 8 p) 128 10 0 128 7 = p := by rw [hh_up_off (by omega), hh_up_off (by omega), hh_up_at]
        have q12 : hh_up (hh_up (hh_up σ 128 7 p) 128 8 p) 128 10 0 128 12 = 0 := by rw [hh_up_off (by omega), hh_up_off (by omega), hh_up_off (by omega), h12]
        rw [q10, q9, q8]
        have G := hq (hh_up (hh_up (hh_up σ 128 7 p) 128 8 p) 128 10 0) 0 p p ⟨fun r hr => by rw [hh_up_ne hr, hh_up_ne hr, hh_up_ne hr], fun f hf => by rw [hh_up_off (by omega), hh_up_off (by omega), hh_up_off (by omega)]⟩ ⟨by omega, i4, hx, fun w => by omega, fun w _ => by omega, fun w _ => by omega⟩ q7 q8 (fun _ => ⟨q10, q12⟩) (fun z => by omega)
        refine ⟨fun z => by omega, fun _ => ⟨fun _ => ⟨fun _ => G, fun _ => ⟨fun z => by omega, fun _ => ⟨fun _ => G, fun z => by omega⟩⟩⟩, fun z => by omega⟩⟩
    unfold B_X12_next_59 B_X12_next_94
    rw [hh_up_at, hh_up_off (show (10 : Int) ≠ 7 by omega)]
    refine ⟨fun z => E 0 (by omega) (by omega), fun z => ⟨fun z2 => E 0 (by omega) (by omega), fun z2 => ⟨fun z3 => E 0 (by omega) (by omega), fun z3 => E 1 (by omega) (by omega)⟩⟩⟩
  unfold B_X12_next_21
  rw [hh_up_off (show (9 : Int) ≠ 7 by omega), hN.1, hh_up_at, hh_up_ne (show (133 : Nat) ≠ 128 by omega), hb]
  refine ⟨fun c => END (fun z => by omega), fun c => ⟨by omega, fun c2 => END (fun _ => c2), fun c2 => ⟨by omega, hk (n - 1) _ _ (by omega) ⟨p + 1, by omega, ?_, fun j j1 j2 => ?_⟩⟩⟩⟩
  · funext r i
    by_cases w : r = 128
    · subst w
      by_cases w2 : i = 7
      · subst w2; rw [hh_up_at, hh_up_at]
      · rw [hh_up_off w2, hh_up_off w2, hh_up_off w2]
    · rw [hh_up_ne w, hh_up_ne w, hh_up_ne w]
  · rcases (show j < p ∨ j = p by omega) with w | w
    · exact i4 j j1 w
    · rw [w]; exact c2
