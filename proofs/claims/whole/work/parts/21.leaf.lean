theorem hh_all_eq {P : hh_S → Prop} {a : hh_S} (h : P a) : ∀ τ : hh_S, τ = a → P τ := fun _ e => e ▸ h
section hc_leaf
variable {d : Nat} {σ : hh_S} {Q : Int → hh_S → Prop} {v l m : Int}
theorem c_within (ht : l ≤ v → v ≤ m → Q 1 σ) (hf : v < l ∨ m < v → Q 0 σ) : hh_Sp (d + 1) hm_X11_within [hh_I v, hh_I l, hh_I m] σ Q :=
  wp_X11_within _ _ _ (fun _ _ _ _ => ⟨fun c => hf (Or.inl c), fun c => ⟨fun c2 => hf (Or.inr c2), fun c2 => ht (by omega) (by omega)⟩⟩)
theorem c_in (ht : l ≤ v → v ≤ m → Q 1 σ) (hf : v < l ∨ m < v → Q 0 σ) : hh_Sp (d + 1) hm_X12_in [hh_I v, hh_I l, hh_I m] σ Q :=
  wp_X12_in _ _ _ (fun _ _ _ _ => ⟨fun c => hf (Or.inl c), fun c => ⟨fun c2 => hf (Or.inr c2), fun c2 => ht (by omega) (by omega)⟩⟩)
theorem c_X6_has (hn : 0 ≤ σ 2 0 ∧ σ 2 0 ≤ 8) (ht : 0 ≤ v → v < σ 2 0 → Q 1 σ) (hf : v < 0 ∨ σ 2 0 ≤ v → Q 0 σ) : hh_Sp (d + 2) hm_X6_has [hh_R 2, hh_I v] σ Q :=
  wp_X6_has _ (fun _ _ => ⟨by omega, c_within (fun c1 c2 => ⟨Or.inr rfl, ht c1 (by omega)⟩) (fun c => ⟨Or.inl rfl, hf (by omega)⟩)⟩)
theorem c_X1_has (hn : 0 ≤ σ 6 0 ∧ σ 6 0 ≤ 5) (ht : 0 ≤ v → v < σ 6 0 → Q 1 σ) (hf : v < 0 ∨ σ 6 0 ≤ v → Q 0 σ) : hh_Sp (d + 2) hm_X1_has [hh_R 6, hh_I v] σ Q :=
  wp_X1_has _ (fun _ _ => ⟨by omega, c_within (fun c1 c2 => ⟨Or.inr rfl, ht c1 (by omega)⟩) (fun c => ⟨Or.inl rfl, hf (by omega)⟩)⟩)
theorem c_X5_has (hn : 0 ≤ σ 13 0 ∧ σ 13 0 ≤ 10) (ht : 0 ≤ v → v < σ 13 0 → Q 1 σ) (hf : v < 0 ∨ σ 13 0 ≤ v → Q 0 σ) : hh_Sp (d + 2) hm_X5_has [hh_R 13, hh_I v] σ Q :=
  wp_X5_has _ (fun _ _ => ⟨by omega, c_within (fun c1 c2 => ⟨Or.inr rfl, ht c1 (by omega)⟩) (fun c => ⟨Or.inl rfl, hf (by omega)⟩)⟩)
theorem c_X3_has (hn : 0 ≤ σ 24 0 ∧ σ 24 0 ≤ 90) (ht : 0 ≤ v → v < σ 24 0 → Q 1 σ) (hf : v < 0 ∨ σ 24 0 ≤ v → Q 0 σ) : hh_Sp (d + 2) hm_X3_has [hh_R 24, hh_I v] σ Q :=
  wp_X3_has _ (fun _ _ => ⟨by omega, c_within (fun c1 c2 => ⟨Or.inr rfl, ht c1 (by omega)⟩) (fun c => ⟨Or.inl rfl, hf (by omega)⟩)⟩)
theorem c_X0_has (hn : 0 ≤ σ 42 0 ∧ σ 42 0 ≤ 16) (ht : 0 ≤ v → v < σ 42 0 → Q 1 σ) (hf : v < 0 ∨ σ 42 0 ≤ v → Q 0 σ) : hh_Sp (d + 2) hm_X0_has [hh_R 42, hh_I v] σ Q :=
  wp_X0_has _ (fun _ _ => ⟨by omega, c_within (fun c1 c2 => ⟨Or.inr rfl, ht c1 (by omega)⟩) (fun c => ⟨Or.inl rfl, hf (by omega)⟩)⟩)
theorem c_isPerson (hn : 0 ≤ σ 129 4 ∧ σ 129 4 ≤ 8) (ht : 0 ≤ v → v < σ 129 4 → Q 1 σ) (hf : v < 0 ∨ σ 129 4 ≤ v → Q 0 σ) : hh_Sp (d + 2) hm_X12_isPerson [hh_R 128, hh_I v] σ Q :=
  wp_X12_isPerson _ (fun _ _ => ⟨by omega, c_in (fun c1 c2 => ⟨Or.inr rfl, ht c1 (by omega)⟩) (fun c => ⟨Or.inl rfl, hf (by omega)⟩)⟩)
theorem c_isClient (hn : 0 ≤ σ 129 5 ∧ σ 129 5 ≤ 5) (ht : 0 ≤ v → v < σ 129 5 → Q 1 σ) (hf : v < 0 ∨ σ 129 5 ≤ v → Q 0 σ) : hh_Sp (d + 2) hm_X12_isClient [hh_R 128, hh_I v] σ Q :=
  wp_X12_isClient _ (fun _ _ => ⟨by omega, c_in (fun c1 c2 => ⟨Or.inr rfl, ht c1 (by omega)⟩) (fun c => ⟨Or.inl rfl, hf (by omega)⟩)⟩)
theorem c_isMatter (hn : 0 ≤ σ 129 6 ∧ σ 129 6 ≤ 10) (ht : 0 ≤ v → v < σ 129 6 → Q 1 σ) (hf : v < 0 ∨ σ 129 6 ≤ v → Q 0 σ) : hh_Sp (d + 2) hm_X12_isMatter [hh_R 128, hh_I v] σ Q :=
  wp_X12_isMatter _ (fun _ _ => ⟨by omega, c_in (fun c1 c2 => ⟨Or.inr rfl, ht c1 (by omega)⟩) (fun c => ⟨Or.inl rfl, hf (by omega)⟩)⟩)
theorem c_isEntry (hn : 0 ≤ σ 129 7 ∧ σ 129 7 ≤ 90) (ht : 0 ≤ v → v < σ 129 7 → Q 1 σ) (hf : v < 0 ∨ σ 129 7 ≤ v → Q 0 σ) : hh_Sp (d + 2) hm_X12_isEntry [hh_R 128, hh_I v] σ Q :=
  wp_X12_isEntry _ (fun _ _ => ⟨by omega, c_in (fun c1 c2 => ⟨Or.inr rfl, ht c1 (by omega)⟩) (fun c => ⟨Or.inl rfl, hf (by omega)⟩)⟩)
theorem c_isBill (hn : 0 ≤ σ 129 10 ∧ σ 129 10 ≤ 16) (ht : 0 ≤ v → v < σ 129 10 → Q 1 σ) (hf : v < 0 ∨ σ 129 10 ≤ v → Q 0 σ) : hh_Sp (d + 2) hm_X12_isBill [hh_R 128, hh_I v] σ Q :=
  wp_X12_isBill _ (fun _ _ => ⟨by omega, c_in (fun c1 c2 => ⟨Or.inr rfl, ht c1 (by omega)⟩) (fun c => ⟨Or.inl rfl, hf (by omega)⟩)⟩)
theorem c_X11_isPast (ht : 0 ≤ v → v ≤ σ 1 8 → Q 1 σ) (hf : v < 0 ∨ σ 1 8 < v → Q 0 σ) : hh_Sp (d + 2) hm_X11_isPast [hh_R 0, hh_I v] σ Q :=
  wp_X11_isPast _ (fun _ _ => c_within (fun c1 c2 => ⟨Or.inr rfl, ht c1 c2⟩) (fun c => ⟨Or.inl rfl, hf c⟩))
theorem c_isPast (ht : 0 ≤ v → v ≤ σ 129 0 → Q 1 σ) (hf : v < 0 ∨ σ 129 0 < v → Q 0 σ) : hh_Sp (d + 2) hm_X12_isPast [hh_R 128, hh_I v] σ Q :=
  wp_X12_isPast _ (fun _ _ => c_in (fun c1 c2 => ⟨Or.inr rfl, ht c1 c2⟩) (fun c => ⟨Or.inl rfl, hf c⟩))
theorem c_isSpan (ht : 0 ≤ v → 1 ≤ v % 1000 → v / 1000 + v % 1000 ≤ 240 → Q 1 σ) (hf : v < 0 ∨ v % 1000 < 1 ∨ 240 < v / 1000 + v % 1000 → Q 0 σ) : hh_Sp (d + 1) hm_X11_isSpan [hh_I v] σ Q := by
  refine wp_X11_isSpan _ (fun _ hv => ?_)
  unfold P_X11_isSpan
  refine ⟨fun c => ⟨c, fun c2 => hf (by omega), fun c2 => ⟨fun c3 => hf (by omega), fun c3 => ⟨by omega, fun c4 => hf (by omega), fun c4 => ht c (by omega) (by omega)⟩⟩⟩, fun c => hf (by omega)⟩
theorem c_areParts (ht : 0 ≤ v → 1 ≤ v % 1000 → v / 1000 + v % 1000 ≤ 240 → Q 1 σ) (hf : v < 0 ∨ v % 1000 < 1 ∨ 240 < v / 1000 + v % 1000 → Q 0 σ) : hh_Sp (d + 1) hm_X12_areParts [hh_I v] σ Q := by
  refine wp_X12_areParts _ (fun _ hv => ?_)
  unfold P_X12_areParts
  refine ⟨fun c => hf (by omega), fun c => ⟨by omega, fun c2 => hf (by omega), fun c2 => ⟨by omega, fun c4 => hf (by omega), fun c4 => ht (by omega) (by omega) (by omega)⟩⟩⟩
theorem c_less (h1 : m ≤ v → Q m σ) (h2 : v < m → Q v σ) : hh_Sp (d + 1) hm_X12_less [hh_I v, hh_I m] σ Q :=
  wp_X12_less _ _ (fun _ _ _ => ⟨h1, fun c => h2 (by omega)⟩)
theorem c_more (h1 : v ≤ m → Q m σ) (h2 : m < v → Q v σ) : hh_Sp (d + 1) hm_X12_more [hh_I v, hh_I m] σ Q :=
  wp_X12_more _ _ (fun _ _ _ => ⟨h1, fun c => h2 (by omega)⟩)
theorem c_orNone (h1 : ¬ v = -1 → Q v σ) (h2 : v = -1 → Q (-1000000005) σ) : hh_Sp (d + 1) hm_X12_orNone [hh_I v] σ Q :=
  wp_X12_orNone _ (fun _ _ => ⟨h1, h2⟩)
theorem c_X11_isPayer (hn : 0 ≤ σ 6 0 ∧ σ 6 0 ≤ 5) (ht : 0 ≤ v → v / 100 < σ 6 0 → 1 ≤ v % 100 → Q 1 σ) (hf : v < 0 ∨ σ 6 0 ≤ v / 100 ∨ v % 100 < 1 → Q 0 σ) : hh_Sp (d + 3) hm_X11_isPayer [hh_R 0, hh_I v] σ Q := by
  refine wp_X11_isPayer _ (fun _ hv => ?_)
  refine ⟨fun c => hf (by omega), fun c => ⟨by omega, c_X1_has hn (fun c1 c2 => ⟨fun z => (by omega), fun _ => ⟨by omega, fun z => hf (by omega), fun z => ht (by omega) c2 (by omega)⟩⟩) (fun c1 => ⟨fun _ => hf (by omega), fun z => (by omega)⟩)⟩⟩
theorem c_isShare (hn : 0 ≤ σ 129 5 ∧ σ 129 5 ≤ 5) (ht : 0 ≤ v → v / 100 < σ 129 5 → 1 ≤ v % 100 → Q 1 σ) (hf : v < 0 ∨ σ 129 5 ≤ v / 100 ∨ v % 100 < 1 → Q 0 σ) : hh_Sp (d + 3) hm_X12_isShare [hh_R 128, hh_I v] σ Q := by
  refine wp_X12_isShare _ (fun _ hv => ?_)
  refine ⟨fun c => hf (by omega), fun c => ⟨by omega, c_isClient hn (fun c1 c2 => ⟨fun z => (by omega), fun _ => ⟨by omega, fun z => hf (by omega), fun z => ht (by omega) c2 (by omega)⟩⟩) (fun c1 => ⟨fun _ => hf (by omega), fun z => (by omega)⟩)⟩⟩
theorem c_X6_isUnder (hn : 0 ≤ v ∧ v < 8) (ht : m = 0 ∨ σ 3 v = m ∨ (m = 1 ∧ σ 3 v = 2) → Q 1 σ) (hf : ¬ (m = 0 ∨ σ 3 v = m ∨ (m = 1 ∧ σ 3 v = 2)) → Q 0 σ) : hh_Sp (d + 1) hm_X6_isUnder [hh_R 2, hh_I v, hh_I m] σ Q := by
  refine wp_X6_isUnder _ _ (fun _ _ _ => ⟨hn, fun c => ht (by omega), fun c => ⟨fun c2 => ht (by omega), fun c2 => ⟨fun c3 => hf (by omega), fun c3 => ⟨fun c4 => hf (by omega), fun c4 => ht (by omega)⟩⟩⟩⟩)
theorem c_X5_isUnder (hn : 0 ≤ v ∧ v < 10) (ht : m = 0 ∨ σ 14 v = m ∨ (m = 2 ∧ σ 14 v = 3) → Q 1 σ) (hf : ¬ (m = 0 ∨ σ 14 v = m ∨ (m = 2 ∧ σ 14 v = 3)) → Q 0 σ) : hh_Sp (d + 1) hm_X5_isUnder [hh_R 13, hh_I v, hh_I m] σ Q := by
  refine wp_X5_isUnder _ _ (fun _ _ _ => ⟨hn, fun c => ht (by omega), fun c => ⟨fun c2 => ht (by omega), fun c2 => ⟨fun c3 => hf (by omega), fun c3 => ⟨fun c4 => hf (by omega), fun c4 => ht (by omega)⟩⟩⟩⟩)
theorem c_hasWall (hn : (0 ≤ v ∧ v < 8) ∧ 0 ≤ m ∧ m < 10) (ht : σ 20 (m * 8 + v) = 1 → Q 1 σ) (hf : ¬ σ 20 (m * 8 + v) = 1 → Q 0 σ) : hh_Sp (d + 1) hm_X5_hasWall [hh_R 13, hh_I v, hh_I m] σ Q := by
  refine wp_X5_hasWall _ _ (fun _ _ _ => ⟨by omega, hf, ht⟩)
/-- an entry is known on a day -/
def hr_kn (t g k : Int) : Prop := t ≤ k ∧ (g < 0 ∨ k < g)
theorem c_X3_isKnown (hn : 0 ≤ v ∧ v < 90) (ht : hr_kn (σ 31 v) (σ 32 v) m → Q 1 σ) (hf : ¬ hr_kn (σ 31 v) (σ 32 v) m → Q 0 σ) (hg : σ 32 v = -1000000005 ∨ 0 ≤ σ 32 v) : hh_Sp (d + 1) hm_X3_isKnown [hh_R 24, hh_I v, hh_I m] σ Q := by
  unfold hr_kn at ht hf
  refine wp_X3_isKnown _ _ (fun _ _ _ => ⟨hn, fun c => hf (by omega), fun c => ⟨hn, fun c2 => ht (by omega), fun c2 => ⟨hn, fun c3 => hf (by omega), fun c3 => ht (by omega)⟩⟩⟩)
theorem c_isKnown (hn : 0 ≤ v ∧ v < 90) (ht : hr_kn (σ 129 (250 + 12 * v + 6)) (σ 129 (250 + 12 * v + 7)) m → Q 1 σ) (hf : ¬ hr_kn (σ 129 (250 + 12 * v + 6)) (σ 129 (250 + 12 * v + 7)) m → Q 0 σ) (hg : -1 ≤ σ 129 (250 + 12 * v + 7)) : hh_Sp (d + 1) hm_X12_isKnown [hh_R 128, hh_I v, hh_I m] σ Q := by
  unfold hr_kn at ht hf
  refine wp_X12_isKnown _ _ (fun _ _ _ => ⟨by omega, fun c => hf (by omega), fun c => ⟨by omega, fun c2 => ht (by omega), fun c2 => ⟨by omega, fun c3 => hf (by omega), fun c3 => ht (by omega)⟩⟩⟩)
/-- whether a matter has a bill -/
theorem c_isAnyOf (hn : 0 ≤ σ 42 0 ∧ σ 42 0 ≤ 16) (ht : (∃ b : Int, 0 ≤ b ∧ b < σ 42 0 ∧ σ 43 b = v) → Q 1 σ) (hf : (∀ b : Int, 0 ≤ b → b < σ 42 0 → σ 43 b ≠ v) → Q 0 σ) : hh_Sp (d + 1) hm_X0_isAnyOf [hh_R 42, hh_I v] σ Q := by
  refine wp_X0_isAnyOf _ (fun _ _ => ?_)
  refine hh_lp2_of (fun n x1 x2 τ => τ = σ ∧ x1 = v ∧ 0 ≤ x2 ∧ σ 42 0 - x2 ≤ n ∧ ∀ b : Int, 0 ≤ b → b < x2 → σ 43 b ≠ v) ?_ (σ 42 0).toNat v 0 σ ⟨rfl, rfl, by omega, by omega, fun b b1 b2 => by omega⟩
  rintro n x1 x2 τ k ⟨rfl, rfl, i1, i2, i3⟩ hk
  refine ⟨fun c => hf (fun b b1 b2 => i3 b b1 (by omega)), fun c => ⟨by omega, fun c2 => ⟨by omega, hk (n - 1) _ _ _ (by omega) ⟨rfl, rfl, by omega, by omega, fun b b1 b2 => ?_⟩⟩, fun c2 => ht ⟨x2, i1, by omega, c2⟩⟩⟩
  rcases (show b < x2 ∨ b = x2 by omega) with z | z
  · exact i3 b b1 z
  · rw [z]; exact c2
theorem c_isBilled (hn : 0 ≤ σ 129 10 ∧ σ 129 10 ≤ 16) (ht : (∃ b : Int, 0 ≤ b ∧ b < σ 129 10 ∧ σ 129 (1630 + 12 * b) = v) → Q 1 σ) (hf : (∀ b : Int, 0 ≤ b → b < σ 129 10 → σ 129 (1630 + 12 * b) ≠ v) → Q 0 σ) : hh_Sp (d + 1) hm_X12_isBilled [hh_R 128, hh_I v] σ Q := by
  refine wp_X12_isBilled _ (fun _ _ => ?_)
  refine hh_lp3_of (fun n x1 x2 x3 τ => τ = σ ∧ x1 = v ∧ 0 ≤ x3 ∧ σ 129 10 - x3 ≤ n ∧ x3 ≤ σ 129 10 ∧ ((x2 = 1 ∧ ∃ b : Int, 0 ≤ b ∧ b < x3 ∧ σ 129 (1630 + 12 * b) = v) ∨ (x2 = 0 ∧ ∀ b : Int, 0 ≤ b → b < x3 → σ 129 (1630 + 12 * b) ≠ v))) ?_ (σ 129 10).toNat v 0 0 σ ⟨rfl, rfl, by omega, by omega, by omega, Or.inr ⟨rfl, fun b b1 b2 => by omega⟩⟩
  rintro n x1 x2 x3 τ k ⟨rfl, rfl, i1, i2, i4, i3⟩ hk
  unfold B_X12_isBilled_4 B_X12_isBilled_36 B_X12_isBilled_41
  have nx1 : ∀ z : (∃ b : Int, 0 ≤ b ∧ b < x3 + 1 ∧ τ 129 (1630 + 12 * b) = x1), x3 < τ 129 10 → k x1 1 (x3 + 1) τ := fun z hz => hk (n - 1) _ _ _ _ (by omega) ⟨rfl, rfl, by omega, by omega, by omega, Or.inl ⟨rfl, z⟩⟩
  refine ⟨fun c => ?_, fun c => ⟨fun c2 => ⟨by omega, ?_⟩, fun c2 => ⟨by omega, fun c3 => ⟨by omega, ?_⟩, fun c3 => ⟨by omega, nx1 ⟨x3, i1, by omega, c3⟩ (by omega)⟩⟩⟩⟩
  · rcases i3 with ⟨rfl, b, b1, b2, b3⟩ | ⟨rfl, z⟩
    · exact ⟨Or.inr rfl, ht ⟨b, b1, by omega, b3⟩⟩
    · exact ⟨Or.inl rfl, hf (fun b b1 b2 => z b b1 (by omega))⟩
  · rcases i3 with ⟨rfl, b, b1, b2, b3⟩ | ⟨rfl, z⟩
    · exact nx1 ⟨b, b1, by omega, b3⟩ (by omega)
    · exact absurd rfl c2
  · rcases i3 with ⟨rfl, b, b1, b2, b3⟩ | ⟨rfl, z⟩
    · exact absurd c2 (by decide)
    · refine hk (n - 1) _ _ _ _ (by omega) ⟨rfl, rfl, by omega, by omega, by omega, Or.inr ⟨rfl, fun b b1 b2 => ?_⟩⟩
      rcases (show b < x3 ∨ b = x3 by omega) with y | y
      · exact z b b1 y
      · rw [y]; exact c3
/-- which payer of a matter a client is -/
theorem c_payerPlace (hm : 0 ≤ v ∧ v < 10) (hn : 0 ≤ σ 17 v ∧ σ 17 v ≤ 3) (ht : ∀ i : Int, 0 ≤ i → i < σ 17 v → σ 18 (v * 3 + i) = m → Q i σ) (hf : (∀ i : Int, 0 ≤ i → i < σ 17 v → σ 18 (v * 3 + i) ≠ m) → Q (-1) σ) : hh_Sp (d + 1) hm_X5_payerPlace [hh_R 13, hh_I v, hh_I m] σ Q := by
  refine wp_X5_payerPlace _ _ (fun _ _ _ => ?_)
  refine hh_lp3_of (fun n x1 x2 x3 τ => τ = σ ∧ x1 = v ∧ x2 = m ∧ 0 ≤ x3 ∧ σ 17 v - x3 ≤ n ∧ ∀ i : Int, 0 ≤ i → i < x3 → σ 18 (v * 3 + i) ≠ m) ?_ (σ 17 v).toNat v m 0 σ ⟨rfl, rfl, rfl, by omega, by omega, fun b b1 b2 => by omega⟩
  rintro n x1 x2 x3 τ k ⟨rfl, rfl, rfl, i1, i2, i3⟩ hk
  refine ⟨hm, fun c => hf (fun b b1 b2 => i3 b b1 (by omega)), fun c => ⟨by omega, fun c2 => ⟨by omega, hk (n - 1) _ _ _ _ (by omega) ⟨rfl, rfl, rfl, by omega, by omega, fun b b1 b2 => ?_⟩⟩, fun c2 => ht x3 i1 (by omega) c2⟩⟩
  rcases (show b < x3 ∨ b = x3 by omega) with z | z
  · exact i3 b b1 z
  · rw [z]; exact c2
theorem c_isPayer (hm : 0 ≤ v ∧ v < 10) (hn : 0 ≤ σ 129 (50 + 20 * v + 10) ∧ σ 129 (50 + 20 * v + 10) ≤ 3) (ht : (∃ i : Int, 0 ≤ i ∧ i < σ 129 (50 + 20 * v + 10) ∧ σ 129 (50 + 20 * v + 11 + i) = m) → Q 1 σ) (hf : (∀ i : Int, 0 ≤ i → i < σ 129 (50 + 20 * v + 10) → σ 129 (50 + 20 * v + 11 + i) ≠ m) → Q 0 σ) : hh_Sp (d + 1) hm_X12_isPayer [hh_R 128, hh_I v, hh_I m] σ Q := by
  refine wp_X12_isPayer _ _ (fun _ _ _ => ?_)
  refine hh_lp4_of (fun n x1 x2 x3 x4 τ => τ = σ ∧ x1 = v ∧ x2 = m ∧ 0 ≤ x4 ∧ σ 129 (50 + 20 * v + 10) - x4 ≤ n ∧ x4 ≤ σ 129 (50 + 20 * v + 10) ∧ ((x3 = 1 ∧ ∃ i : Int, 0 ≤ i ∧ i < x4 ∧ σ 129 (50 + 20 * v + 11 + i) = m) ∨ (x3 = 0 ∧ ∀ i : Int, 0 ≤ i → i < x4 → σ 129 (50 + 20 * v + 11 + i) ≠ m))) ?_ (σ 129 (50 + 20 * v + 10)).toNat v m 0 0 σ ⟨rfl, rfl, rfl, by omega, by omega, by omega, Or.inr ⟨rfl, fun b b1 b2 => by omega⟩⟩
  rintro n x1 x2 x3 x4 τ k ⟨rfl, rfl, rfl, i1, i2, i4, i3⟩ hk
  unfold B_X12_isPayer_5 B_X12_isPayer_51 B_X12_isPayer_56
  have nx1 : ∀ z : (∃ i : Int, 0 ≤ i ∧ i < x4 + 1 ∧ τ 129 (50 + 20 * x1 + 11 + i) = x2), x4 < τ 129 (50 + 20 * x1 + 10) → k x1 x2 1 (x4 + 1) τ := fun z hz => hk (n - 1) _ _ _ _ _ (by omega) ⟨rfl, rfl, rfl, by omega, by omega, by omega, Or.inl ⟨rfl, z⟩⟩
  refine ⟨by omega, fun c => ?_, fun c => ⟨fun c2 => ⟨by omega, ?_⟩, fun c2 => ⟨by omega, fun c3 => ⟨by omega, ?_⟩, fun c3 => ⟨by omega, nx1 ⟨x4, i1, by omega, c3⟩ (by omega)⟩⟩⟩⟩
  · rcases i3 with ⟨rfl, b, b1, b2, b3⟩ | ⟨rfl, z⟩
    · exact ⟨Or.inr rfl, ht ⟨b, b1, by omega, b3⟩⟩
    · exact ⟨Or.inl rfl, hf (fun b b1 b2 => z b b1 (by omega))⟩
  · rcases i3 with ⟨rfl, b, b1, b2, b3⟩ | ⟨rfl, z⟩
    · exact nx1 ⟨b, b1, by omega, b3⟩ (by omega)
    · exact absurd rfl c2
  · rcases i3 with ⟨rfl, b, b1, b2, b3⟩ | ⟨rfl, z⟩
    · exact absurd c2 (by decide)
    · refine hk (n - 1) _ _ _ _ _ (by omega) ⟨rfl, rfl, rfl, by omega, by omega, by omega, Or.inr ⟨rfl, fun b b1 b2 => ?_⟩⟩
      rcases (show b < x4 ∨ b = x4 by omega) with y | y
      · exact z b b1 y
      · rw [y]; exact c3
theorem c_owedPlace (hb : 0 ≤ v ∧ v < 16) (hm : 0 ≤ σ 43 v ∧ σ 43 v < 10) (hn : 0 ≤ σ 17 (σ 43 v) ∧ σ 17 (σ 43 v) ≤ 3) (ht : ∀ i : Int, 0 ≤ i → i < σ 17 (σ 43 v) → σ 18 (σ 43 v * 3 + i) = m → Q (v * 3 + i) σ) (hf : (∀ i : Int, 0 ≤ i → i < σ 17 (σ 43 v) → σ 18 (σ 43 v * 3 + i) ≠ m) → Q (-1) σ) : hh_Sp (d + 2) hm_X11_owedPlace [hh_R 0, hh_I v, hh_I m] σ Q := by
  refine wp_X11_owedPlace _ _ (fun _ _ _ => ⟨hb, c_payerPlace hm hn (fun i i1 i2 i3 => ⟨fun _ => ⟨by omega, ht i i1 i2 i3⟩, fun z => absurd i1 z⟩) (fun z => ⟨fun y => absurd y (by decide), fun _ => hf z⟩)⟩)
end hc_leaf
