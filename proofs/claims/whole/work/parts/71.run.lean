/-! terms: the machine that reads an expression -/
abbrev hr_wl : Type := List (Int × Int)
abbrev hr_rs : Type := Sum Int (Int × Int × Int × hr_wl × Int)
def hr_c1 : List Int → Int
  | [] => 0
  | x :: l => hr_c1 l + (if x = 1 then 1 else 0)
def hr_c3 : List Int → Int
  | [] => 0
  | x :: l => hr_c3 l + (if x = 3 then 1 else 0)
def hr_tp : List Int → Int
  | [] => 0
  | x :: _ => x
theorem hr_c1_nn : ∀ S : List Int, 0 ≤ hr_c1 S
  | [] => Int.le_refl _
  | x :: l => by have := hr_c1_nn l; show 0 ≤ hr_c1 l + _; split <;> omega
theorem hr_c3_nn : ∀ S : List Int, 0 ≤ hr_c3 S
  | [] => Int.le_refl _
  | x :: l => by have := hr_c3_nn l; show 0 ≤ hr_c3 l + _; split <;> omega
theorem hr_c1_o {w : Int} {S : List Int} (h : w ≠ 1) : hr_c1 (w :: S) = hr_c1 S := by show hr_c1 S + _ = _; rw [if_neg h]; omega
theorem hr_c3_o {w : Int} {S : List Int} (h : w ≠ 3) : hr_c3 (w :: S) = hr_c3 S := by show hr_c3 S + _ = _; rw [if_neg h]; omega
theorem hr_c1_1 {S : List Int} : hr_c1 (1 :: S) = hr_c1 S + 1 := by show hr_c1 S + _ = _; rw [if_pos rfl]
theorem hr_c3_3 {S : List Int} : hr_c3 (3 :: S) = hr_c3 S + 1 := by show hr_c3 S + _ = _; rw [if_pos rfl]
/-- the word of a sign -/
def hr_sg (c : Int) : Int := if c = 38 then 20 else if c = 42 then 50 else if c = 43 then 40 else if c = 45 then 41 else if c = 47 then 51 else if c = 60 then 30 else if c = 61 then 31 else if c = 62 then 32 else if c = 124 then 10 else 0
theorem hr_sg_d (c : Int) : (c = 38 → hr_sg c = 20) ∧ (c = 42 → hr_sg c = 50) ∧ (c = 43 → hr_sg c = 40) ∧ (c = 45 → hr_sg c = 41) ∧ (c = 47 → hr_sg c = 51) ∧ (c = 60 → hr_sg c = 30) ∧ (c = 61 → hr_sg c = 31) ∧ (c = 62 → hr_sg c = 32) ∧ (c = 124 → hr_sg c = 10) ∧ (c ≠ 38 ∧ c ≠ 42 ∧ c ≠ 43 ∧ c ≠ 45 ∧ c ≠ 47 ∧ c ≠ 60 ∧ c ≠ 61 ∧ c ≠ 62 ∧ c ≠ 124 → hr_sg c = 0) := by
  refine ⟨fun z => by rw [z]; rfl, fun z => by rw [z]; rfl, fun z => by rw [z]; rfl, fun z => by rw [z]; rfl, fun z => by rw [z]; rfl, fun z => by rw [z]; rfl, fun z => by rw [z]; rfl, fun z => by rw [z]; rfl, fun z => by rw [z]; rfl, fun z => ?_⟩
  unfold hr_sg
  rw [if_neg (by omega), if_neg (by omega), if_neg (by omega), if_neg (by omega), if_neg (by omega), if_neg (by omega), if_neg (by omega), if_neg (by omega), if_neg (by omega)]
theorem hr_sg_op (c : Int) (h : hr_sg c ≠ 0) : hr_isop (hr_sg c) ∧ hr_op (hr_sg c) = -c ∧ 10 ≤ hr_sg c ∧ hr_sg c ≤ 51 ∧ 38 ≤ c ∧ c ≤ 124 := by
  have d := hr_sg_d c
  rcases (show c = 38 ∨ c = 42 ∨ c = 43 ∨ c = 45 ∨ c = 47 ∨ c = 60 ∨ c = 61 ∨ c = 62 ∨ c = 124 ∨ (c ≠ 38 ∧ c ≠ 42 ∧ c ≠ 43 ∧ c ≠ 45 ∧ c ≠ 47 ∧ c ≠ 60 ∧ c ≠ 61 ∧ c ≠ 62 ∧ c ≠ 124) by omega) with z | z | z | z | z | z | z | z | z | z
  all_goals first | (subst z; refine ⟨?_, by decide, by decide, by decide, by decide, by decide⟩; unfold hr_isop hr_sg; decide) | skip
  exact absurd (d.2.2.2.2.2.2.2.2.2 z) h
/-- the word of a token -/
def hr_wk (k c : Int) : Int := if k = 3 then hr_sg c else 0
theorem hr_wk_3 (c : Int) : hr_wk 3 c = hr_sg c := rfl
theorem hr_wk_n {k : Int} (c : Int) (h : k ≠ 3) : hr_wk k c = 0 := by unfold hr_wk; rw [if_neg h]
theorem hr_wk_d (k c : Int) : hr_wk k c = 0 ∨ (k = 3 ∧ hr_wk k c = hr_sg c) := by
  unfold hr_wk
  split
  · next h => exact Or.inr ⟨h, rfl⟩
  · exact Or.inl rfl
theorem hr_sg_r (c : Int) : hr_sg c = 0 ∨ (10 ≤ hr_sg c ∧ hr_sg c ≤ 51) := by
  by_cases h : hr_sg c = 0
  · exact Or.inl h
  · exact Or.inr ⟨(hr_sg_op c h).2.2.1, (hr_sg_op c h).2.2.2.1⟩
theorem hr_wk_r (k c : Int) : hr_wk k c = 0 ∨ (10 ≤ hr_wk k c ∧ hr_wk k c ≤ 51) := by
  rcases hr_wk_d k c with h | ⟨_, h⟩
  · exact Or.inl h
  · rw [h]; exact hr_sg_r c
/-- what stands above this is worked first -/
def hr_nd (w : Int) : Int := if w = 0 then 1 else if w / 10 = 3 then 4 else w / 10
theorem hr_nd_d (w : Int) : (w = 0 → hr_nd w = 1) ∧ (w ≠ 0 → w / 10 = 3 → hr_nd w = 4) ∧ (w ≠ 0 → w / 10 ≠ 3 → hr_nd w = w / 10) := by
  unfold hr_nd
  split
  · omega
  · split <;> omega
def hr_pb (S : List Int) (w : Int) : Prop := 10 ≤ hr_tp S ∧ hr_nd w ≤ hr_tp S / 10
/-- the number that stands in the text -/
def hr_num (b : Int → Int) (s : Int) : Nat → Int
  | 0 => 0
  | n + 1 => 10 * hr_num b s n + b (s + n) - 48
abbrev hr_X : Type := Int → List Int → Int → Int → Int → hr_wl → Int → Prop
def hr_on (b : Int → Int) (N : Int) (X : hr_X) (md : Int) (S : List Int) (k e : Int) (o : hr_wl) (ty : Int) : Prop := ∃ k' s' e' : Int, hr_nt b N k e k' s' e' ∧ X md S k' s' e' o ty
def hr_sA (b : Int → Int) (k s : Int) : Prop := k = 3 ∧ b s = 33
def hr_sB (b : Int → Int) (k s : Int) : Prop := k = 3 ∧ b s = 40
def hr_sC (k s e : Int) : Prop := k = 2 ∧ e - s ≤ 5
def hr_sD (b : Int → Int) (k s e : Int) : Prop := k = 1 ∧ e - s = 1 ∧ hr_isnm (b s)
/-- where a part begins -/
def hr_s0 (b : Int → Int) (N : Int) (R : hr_rs) (X : hr_X) (S : List Int) (k s e : Int) (o : hr_wl) (ty : Int) : Prop :=
  (hr_sA b k s → (8 ≤ hr_c3 S → R = .inl s) ∧ (hr_c3 S < 8 → hr_on b N X 0 (3 :: S) k e o ty)) ∧
  (hr_sB b k s → (8 ≤ hr_c1 S → R = .inl s) ∧ (hr_c1 S < 8 → hr_on b N X 0 (1 :: S) k e o ty)) ∧
  (hr_sC k s e → hr_on b N X 1 S k e ((1, hr_num b s (e - s).toNat) :: o) (ty + 1)) ∧
  (hr_sD b k s e → hr_on b N X 1 S k e ((2, b s) :: o) (ty + 1)) ∧
  (¬ hr_sA b k s → ¬ hr_sB b k s → ¬ hr_sC k s e → ¬ hr_sD b k s e → R = .inl s)
/-- behind a part -/
def hr_s1 (X : hr_X) (S : List Int) (k s e : Int) (o : hr_wl) (ty : Int) : Prop :=
  (∀ S' : List Int, S = 3 :: S' → X 1 S' k s e ((3, 0) :: o) ty) ∧ (hr_tp S ≠ 3 → X 2 S k s e o ty)
/-- at a sign -/
def hr_s2 (b : Int → Int) (N : Int) (R : hr_rs) (X : hr_X) (S : List Int) (k s e : Int) (o : hr_wl) (ty : Int) : Prop :=
  (hr_pb S (hr_wk k (b s)) → ∀ (t : Int) (S' : List Int), S = t :: S' → X 2 S' k s e ((t, 0) :: o) ty) ∧
  (¬ hr_pb S (hr_wk k (b s)) →
    (hr_wk k (b s) ≠ 0 → (hr_wk k (b s) / 10 = 3 ∧ hr_tp S / 10 = 3 → R = .inl s) ∧ (¬ (hr_wk k (b s) / 10 = 3 ∧ hr_tp S / 10 = 3) → hr_on b N X 0 (hr_wk k (b s) :: S) k e o ty)) ∧
    (hr_wk k (b s) = 0 → (k = 3 ∧ b s = 41 ∧ 0 < hr_c1 S → ∃ S' : List Int, S = 1 :: S' ∧ hr_on b N X 1 S' k e o ty) ∧ (¬ (k = 3 ∧ b s = 41) → 0 < hr_c1 S → R = .inl s) ∧ (hr_c1 S ≤ 0 → R = .inr (k, s, e, o, ty))))
def hr_rn (b : Int → Int) (N : Int) (R : hr_rs) : Nat → hr_X
  | 0 => fun _ _ _ _ _ _ _ => False
  | m + 1 => fun md S k s e o ty => ((o.length : Int) + S.length ≤ s ∧ 0 ≤ ty ∧ ty ≤ s) ∧ (md = 0 → (k = 4 → R = .inl s) ∧ (k ≠ 4 → hr_s0 b N R (hr_rn b N R m) S k s e o ty)) ∧ (md = 1 → hr_s1 (hr_rn b N R m) S k s e o ty) ∧ (md = 2 → (k = 4 → R = .inl s) ∧ (k ≠ 4 → hr_s2 b N R (hr_rn b N R m) S k s e o ty))
/-- the machine comes to R -/
def hr_Rn (b : Int → Int) (N : Int) (R : hr_rs) (md : Int) (S : List Int) (k s e : Int) (o : hr_wl) (ty : Int) : Prop := ∃ m : Nat, hr_rn b N R m md S k s e o ty
section hr_steps
variable {b : Int → Int} {N : Int} {R : hr_rs} {S : List Int} {k s e k' s' e' : Int} {o : hr_wl} {ty : Int}
def hr_ok (S : List Int) (s : Int) (o : hr_wl) (ty : Int) : Prop := (o.length : Int) + S.length ≤ s ∧ 0 ≤ ty ∧ ty ≤ s
theorem hr_Rn.bad {md : Int} (hl : hr_ok S s o ty) (hm : md = 0 ∨ md = 2) (h4 : k = 4) (hR : R = .inl s) : hr_Rn b N R md S k s e o ty :=
  ⟨1, hl, fun _ => ⟨fun _ => hR, fun z => absurd h4 z⟩, fun z => by omega, fun _ => ⟨fun _ => hR, fun z => absurd h4 z⟩⟩
theorem hr_Rn.i4 {md : Int} (hm : md = 0 ∨ md = 2) (h4 : k = 4) : hr_Rn b N R md S k s e o ty → R = .inl s := by
  rintro ⟨m, h⟩
  cases m with
  | zero => exact absurd h (fun z => z)
  | succ m => rcases hm with z | z
              · exact (h.2.1 z).1 h4
              · exact (h.2.2.2 z).1 h4
theorem hr_Rn.neg (hl : hr_ok S s o ty) (h4 : k ≠ 4) (hA : hr_sA b k s) (hc : hr_c3 S < 8) (hn : hr_nt b N k e k' s' e') : hr_Rn b N R 0 (3 :: S) k' s' e' o ty → hr_Rn b N R 0 S k s e o ty := by
  rintro ⟨m, h⟩
  have A := hA
  unfold hr_sA at A
  refine ⟨m + 1, hl, fun _ => ⟨fun z => absurd z h4, fun _ => ⟨fun _ => ⟨fun z => by omega, fun _ => ⟨k', s', e', hn, h⟩⟩, fun z => ?_, fun z => ?_, fun z => ?_, fun z => absurd hA z⟩⟩, fun z => by omega, fun z => by omega⟩
  · unfold hr_sB at z; omega
  · unfold hr_sC at z; omega
  · unfold hr_sD at z; omega
theorem hr_Rn.bra (hl : hr_ok S s o ty) (h4 : k ≠ 4) (hA : hr_sB b k s) (hc : hr_c1 S < 8) (hn : hr_nt b N k e k' s' e') : hr_Rn b N R 0 (1 :: S) k' s' e' o ty → hr_Rn b N R 0 S k s e o ty := by
  rintro ⟨m, h⟩
  have A := hA
  unfold hr_sB at A
  refine ⟨m + 1, hl, fun _ => ⟨fun z => absurd z h4, fun _ => ⟨fun z => ?_, fun _ => ⟨fun z => by omega, fun _ => ⟨k', s', e', hn, h⟩⟩, fun z => ?_, fun z => ?_, fun _ z => absurd hA z⟩⟩, fun z => by omega, fun z => by omega⟩
  · unfold hr_sA at z; omega
  · unfold hr_sC at z; omega
  · unfold hr_sD at z; omega
theorem hr_Rn.num (hl : hr_ok S s o ty) (hA : hr_sC k s e) (hn : hr_nt b N k e k' s' e') : hr_Rn b N R 1 S k' s' e' ((1, hr_num b s (e - s).toNat) :: o) (ty + 1) → hr_Rn b N R 0 S k s e o ty := by
  rintro ⟨m, h⟩
  have A := hA
  unfold hr_sC at A
  refine ⟨m + 1, hl, fun _ => ⟨fun z => by omega, fun _ => ⟨fun z => ?_, fun z => ?_, fun _ => ⟨k', s', e', hn, h⟩, fun z => ?_, fun _ _ z => absurd hA z⟩⟩, fun z => by omega, fun z => by omega⟩
  · unfold hr_sA at z; omega
  · unfold hr_sB at z; omega
  · unfold hr_sD at z; omega
theorem hr_Rn.nam (hl : hr_ok S s o ty) (hA : hr_sD b k s e) (hn : hr_nt b N k e k' s' e') : hr_Rn b N R 1 S k' s' e' ((2, b s) :: o) (ty + 1) → hr_Rn b N R 0 S k s e o ty := by
  rintro ⟨m, h⟩
  have A := hA
  unfold hr_sD at A
  refine ⟨m + 1, hl, fun _ => ⟨fun z => by omega, fun _ => ⟨fun z => ?_, fun z => ?_, fun z => ?_, fun _ => ⟨k', s', e', hn, h⟩, fun _ _ _ z => absurd hA z⟩⟩, fun z => by omega, fun z => by omega⟩
  · unfold hr_sA at z; omega
  · unfold hr_sB at z; omega
  · unfold hr_sC at z; omega
theorem hr_Rn.wro (hl : hr_ok S s o ty) (hA : hr_sA b k s → 8 ≤ hr_c3 S) (hB : hr_sB b k s → 8 ≤ hr_c1 S) (hC : ¬ hr_sC k s e) (hD : ¬ hr_sD b k s e) (hR : R = .inl s) : hr_Rn b N R 0 S k s e o ty :=
  ⟨1, hl, fun _ => ⟨fun _ => hR, fun _ => ⟨fun z => ⟨fun _ => hR, fun y => by have := hA z; omega⟩, fun z => ⟨fun _ => hR, fun y => by have := hB z; omega⟩, fun z => absurd z hC, fun z => absurd z hD, fun _ _ _ _ => hR⟩⟩, fun z => by omega, fun z => by omega⟩
theorem hr_Rn.pt3 (hl : hr_ok (3 :: S) s o ty) : hr_Rn b N R 1 S k s e ((3, 0) :: o) ty → hr_Rn b N R 1 (3 :: S) k s e o ty := by
  rintro ⟨m, h⟩
  exact ⟨m + 1, hl, fun z => by omega, fun _ => ⟨fun S' z => by rw [(List.cons.inj z).2] at h; exact h, fun z => absurd rfl z⟩, fun z => by omega⟩
theorem hr_Rn.ptd (hl : hr_ok S s o ty) (ht : hr_tp S ≠ 3) : hr_Rn b N R 2 S k s e o ty → hr_Rn b N R 1 S k s e o ty := by
  rintro ⟨m, h⟩
  exact ⟨m + 1, hl, fun z => by omega, fun _ => ⟨fun S' z => absurd (by rw [z]; rfl) ht, fun _ => h⟩, fun z => by omega⟩
theorem hr_Rn.pop {t : Int} (hl : hr_ok (t :: S) s o ty) (hp : hr_pb (t :: S) (hr_wk k (b s))) : hr_Rn b N R 2 S k s e ((t, 0) :: o) ty → hr_Rn b N R 2 (t :: S) k s e o ty := by
  rintro ⟨m, h⟩
  by_cases h4 : k = 4
  · exact hr_Rn.bad hl (Or.inr rfl) h4 (hr_Rn.i4 (Or.inr rfl) h4 ⟨m, h⟩)
  · exact ⟨m + 1, hl, fun z => by omega, fun z => by omega, fun _ => ⟨fun z => absurd z h4, fun _ => ⟨fun _ t' S' z => by rw [← (List.cons.inj z).1, ← (List.cons.inj z).2]; exact h, fun z => absurd hp z⟩⟩⟩
theorem hr_Rn.psh (hl : hr_ok S s o ty) (h4 : k ≠ 4) (hp : ¬ hr_pb S (hr_wk k (b s))) (hw : hr_wk k (b s) ≠ 0) (hc : ¬ (hr_wk k (b s) / 10 = 3 ∧ hr_tp S / 10 = 3)) (hn : hr_nt b N k e k' s' e') : hr_Rn b N R 0 (hr_wk k (b s) :: S) k' s' e' o ty → hr_Rn b N R 2 S k s e o ty := by
  rintro ⟨m, h⟩
  exact ⟨m + 1, hl, fun z => by omega, fun z => by omega, fun _ => ⟨fun z => absurd z h4, fun _ => ⟨fun z => absurd z hp, fun _ => ⟨fun _ => ⟨fun z => absurd z hc, fun _ => ⟨k', s', e', hn, h⟩⟩, fun z => absurd z hw⟩⟩⟩⟩
theorem hr_Rn.cmp (hl : hr_ok S s o ty) (hp : ¬ hr_pb S (hr_wk k (b s))) (hw : hr_wk k (b s) ≠ 0) (hc : hr_wk k (b s) / 10 = 3 ∧ hr_tp S / 10 = 3) (hR : R = .inl s) : hr_Rn b N R 2 S k s e o ty :=
  ⟨1, hl, fun z => by omega, fun z => by omega, fun _ => ⟨fun _ => hR, fun _ => ⟨fun z => absurd z hp, fun _ => ⟨fun _ => ⟨fun _ => hR, fun z => absurd hc z⟩, fun z => absurd z hw⟩⟩⟩⟩
theorem hr_Rn.ket (hl : hr_ok (1 :: S) s o ty) (h3 : k = 3 ∧ b s = 41) (hn : hr_nt b N k e k' s' e') : hr_Rn b N R 1 S k' s' e' o ty → hr_Rn b N R 2 (1 :: S) k s e o ty := by
  rintro ⟨m, h⟩
  have hw : hr_wk k (b s) = 0 := by rw [h3.1, h3.2]; rfl
  have hc := hr_c1_nn S
  have hc2 : hr_c1 (1 :: S) = hr_c1 S + 1 := hr_c1_1
  refine ⟨m + 1, hl, fun z => by omega, fun z => by omega, fun _ => ⟨fun z => by omega, fun _ => ⟨fun z => ?_, fun _ => ⟨fun z => absurd hw z, fun _ => ⟨fun _ => ⟨S, rfl, k', s', e', hn, h⟩, fun z => absurd h3 z, fun z => by omega⟩⟩⟩⟩⟩
  have := z.1
  exact absurd this (by show ¬ (10 : Int) ≤ 1; omega)
theorem hr_Rn.opn (hl : hr_ok (1 :: S) s o ty) (hw : hr_wk k (b s) = 0) (h3 : ¬ (k = 3 ∧ b s = 41)) (hR : R = .inl s) : hr_Rn b N R 2 (1 :: S) k s e o ty := by
  have hc := hr_c1_nn S
  have hc2 : hr_c1 (1 :: S) = hr_c1 S + 1 := hr_c1_1
  refine ⟨1, hl, fun z => by omega, fun z => by omega, fun _ => ⟨fun _ => hR, fun _ => ⟨fun z => ?_, fun _ => ⟨fun z => absurd hw z, fun _ => ⟨fun z => absurd ⟨z.1, z.2.1⟩ h3, fun _ _ => hR, fun z => by omega⟩⟩⟩⟩⟩
  have := z.1
  exact absurd this (by show ¬ (10 : Int) ≤ 1; omega)
theorem hr_Rn.fin (hl : hr_ok [] s o ty) (h4 : k ≠ 4) (hw : hr_wk k (b s) = 0) (hR : R = .inr (k, s, e, o, ty)) : hr_Rn b N R 2 [] k s e o ty :=
  ⟨1, hl, fun z => by omega, fun z => by omega, fun _ => ⟨fun z => absurd z h4, fun _ => ⟨fun z => absurd z.1 (by show ¬ (10 : Int) ≤ 0; omega), fun _ => ⟨fun z => absurd hw z, fun _ => ⟨fun z => absurd z.2.2 (by show ¬ (0 : Int) < 0; omega), fun _ z => absurd z (by show ¬ (0 : Int) < 0; omega), fun _ => hR⟩⟩⟩⟩⟩
end hr_steps
/-- values that stand behind the words -/
def hr_ld : hr_wl → Int
  | [] => 0
  | p :: l => hr_ld l + (if p.1 = 1 ∨ p.1 = 2 then 1 else if p.1 = 3 then 0 else -1)
def hr_lw : hr_wl → Prop
  | [] => True
  | p :: l => (p.1 = 3 → 1 ≤ hr_ld l) ∧ (p.1 ≠ 1 → p.1 ≠ 2 → p.1 ≠ 3 → 2 ≤ hr_ld l) ∧ hr_lw l
theorem hr_ld_nn : ∀ l : hr_wl, hr_lw l → 0 ≤ hr_ld l
  | [], _ => Int.le_refl _
  | p :: l, h => by
    have i := hr_ld_nn l h.2.2
    have h2 := h.2.1
    show 0 ≤ hr_ld l + _
    split
    · omega
    · split
      · omega
      · have := h2 (by omega) (by omega) (by omega)
        omega
def hr_ol (f : Int → Int) (o0 : Int) : hr_wl → Prop
  | [] => True
  | p :: l => hr_wd (f (o0 + l.length)) p.1 p.2 ∧ hr_ol f o0 l
theorem hr_ol.cg {f g : Int → Int} {o0 : Int} : ∀ l : hr_wl, hr_ol f o0 l → (∀ i : Int, o0 ≤ i → i < o0 + l.length → g i = f i) → hr_ol g o0 l
  | [], _, _ => True.intro
  | p :: l, h, e => by
    have el : ((p :: l).length : Int) = l.length + 1 := by rw [List.length_cons]; omega
    rw [el] at e
    refine ⟨by rw [e _ (by omega) (by omega)]; exact h.1, hr_ol.cg l h.2 (fun i i1 i2 => e i i1 (by omega))⟩
