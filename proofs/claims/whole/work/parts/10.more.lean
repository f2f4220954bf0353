section hh_more
variable {d : Nat} {mi : hh_M} {pc : Nat} {ls : List (Option hh_V)} {st : List hh_V} {σ : hh_S} {Q : Int → hh_S → Prop}
theorem hh_up_at (σ : hh_S) (r : Nat) (i v : Int) : hh_up σ r i v r i = v := by
  rw [hh_up_eq]
  exact if_pos rfl
theorem hh_up_off {σ : hh_S} {r : Nat} {i j v : Int} (h : j ≠ i) : hh_up σ r i v r j = σ r j := by
  rw [hh_up_eq]
  exact if_neg h
theorem hh_fitS {x : Int} (h : -32768 ≤ x ∧ x ≤ 32767) : fits (hh_at 2) (.int (Int32.ofInt x)) = true := by
  show (decide ((-32768 : Int32) ≤ Int32.ofInt x) && decide (Int32.ofInt x ≤ 32767)) = true
  have e1 : (-32768 : Int32) = Int32.ofInt (-32768) := rfl
  have e2 : (32767 : Int32) = Int32.ofInt 32767 := rfl
  rw [Bool.and_eq_true, decide_eq_true_eq, decide_eq_true_eq, e1, e2, hh_le ⟨by omega, by omega⟩ ⟨by omega, by omega⟩, hh_le ⟨by omega, by omega⟩ ⟨by omega, by omega⟩]
  exact h
def hh_sc (i : Nat) (j : Int) : Int := ((hh_sb.getD i []).getD j.toNat 0).toInt
theorem hh_ldcS0 (hd : decode mi.2.1 pc = .ok (.ldc 48, 2)) (hm : mi.1.cls = "HourHouse$Tape") (k : hh_J d mi (pc + 2) ls (hh_R 1000 :: st) σ Q) : hh_J d mi pc ls st σ Q := by
  intro l g p e s m args below meth c H locs A hC hk hP hS hA
  obtain ⟨hx, hb, hr, hml, hown, hts, hlk, hF⟩ := id hC
  refine va_ldcS hx hb (by rw [← hm]; exact hown) hF.2.2.2.2.1.1 hd ?_
  exact k l g p e s m args below meth c H locs A hC (hk.push trivial) hP hS hA
theorem hh_ldcS1 (hd : decode mi.2.1 pc = .ok (.ldc 60, 2)) (hm : mi.1.cls = "HourHouse$Tape") (k : hh_J d mi (pc + 2) ls (hh_R 1001 :: st) σ Q) : hh_J d mi pc ls st σ Q := by
  intro l g p e s m args below meth c H locs A hC hk hP hS hA
  obtain ⟨hx, hb, hr, hml, hown, hts, hlk, hF⟩ := id hC
  refine va_ldcS hx hb (by rw [← hm]; exact hown) hF.2.2.2.2.1.2.1 hd ?_
  exact k l g p e s m args below meth c H locs A hC (hk.push trivial) hP hS hA
theorem hh_ldcS2 (hd : decode mi.2.1 pc = .ok (.ldc 122, 2)) (hm : mi.1.cls = "HourHouse$Tape") (k : hh_J d mi (pc + 2) ls (hh_R 1002 :: st) σ Q) : hh_J d mi pc ls st σ Q := by
  intro l g p e s m args below meth c H locs A hC hk hP hS hA
  obtain ⟨hx, hb, hr, hml, hown, hts, hlk, hF⟩ := id hC
  refine va_ldcS hx hb (by rw [← hm]; exact hown) hF.2.2.2.2.1.2.2 hd ?_
  exact k l g p e s m args below meth c H locs A hC (hk.push trivial) hP hS hA
theorem hh_getSV {i idx : Nat} (hd : decode mi.2.1 pc = .ok (.getfield idx, 3)) (hw : Cond.fieldLink mi.1.cls idx "java/lang/String" "value" "[B" ∈ hh_tbl) (hi : i < 3) (k : hh_J d mi (pc + 3) ls (hh_R (2000 + i) :: st) σ Q) : hh_J d mi pc ls (hh_R (1000 + i) :: st) σ Q := by
  intro l g p e s m args below meth c H locs A hC hk hP hS hA
  obtain ⟨hx, hb, hr, hml, hown, hts, hlk, hF⟩ := id hC
  refine vk_getf hx hb (hF.2.2.2.1.1 i hi).2.2.1 hS hown (hts _ hw) (fun _ h => h) hd ?_
  exact k l g p e s m args below meth c H locs A hC (hk.pop.push trivial) hP hS hA
theorem hh_getSC {i idx : Nat} (hd : decode mi.2.1 pc = .ok (.getfield idx, 3)) (hw : Cond.fieldLink mi.1.cls idx "java/lang/String" "coder" "B" ∈ hh_tbl) (hi : i < 3) (k : hh_J d mi (pc + 3) ls (hh_I 0 :: st) σ Q) : hh_J d mi pc ls (hh_R (1000 + i) :: st) σ Q := by
  intro l g p e s m args below meth c H locs A hC hk hP hS hA
  obtain ⟨hx, hb, hr, hml, hown, hts, hlk, hF⟩ := id hC
  refine vk_getf hx hb (hF.2.2.2.1.1 i hi).2.1 hS hown (hts _ hw) (fun _ h => h) hd ?_
  exact k l g p e s m args below meth c H locs A hC (hk.pop.push (show hh_can 0 from ⟨by decide, by decide⟩)) hP hS hA
theorem hh_gCS {idx : Nat} (hd : decode mi.2.1 pc = .ok (.getstatic idx, 3)) (hw : Cond.fieldLink mi.1.cls idx "java/lang/String" "COMPACT_STRINGS" "Z" ∈ hh_tbl) (k : hh_J d mi (pc + 3) ls (hh_I 1 :: st) σ Q) : hh_J d mi pc ls st σ Q := by
  intro l g p e s m args below meth c H locs A hC hk hP hS hA
  obtain ⟨hx, hb, hr, hml, hown, hts, hlk, hF⟩ := id hC
  refine va_gets hx hb hF.2.2.2.2.2.1 hS hown (hts _ hw) (fun _ h => h) hd ?_
  exact k l g p e s m args below meth c H locs A hC (hk.push (show hh_can 1 from ⟨by decide, by decide⟩)) hP hS hA
theorem hh_bals {i : Nat} {x n : Int} (hd : decode mi.2.1 pc = .ok (.baload, 1)) (hi : i < 3) (hn : ((hh_sl.getD i 0 : Nat) : Int) = n) (hq : 0 ≤ x ∧ x < n) (k : hh_J d mi (pc + 1) ls (hh_I (hh_sc i x) :: st) σ Q) : hh_J d mi pc ls (hh_I x :: hh_R (2000 + i) :: st) σ Q := by
  intro l g p e s m args below meth c H locs A hC hk hP hS hA
  obtain ⟨hx, hb, hr, hml, hown, hts, hlk, hF⟩ := id hC
  have hci : hh_can x := hk.top
  subst hn
  refine va_tb (v := .int (Int32.ofInt (hh_sc i x))) hx hb (hF.2.2.2.1.1 i hi).2.2.2 hS (hh_vin hq.1 hq.2 hci) ?_ hd ?_
  · show Value.int ((hh_sb.getD i []).getD (Int32.ofInt x).toNatClampNeg 0) = Value.int (Int32.ofInt (hh_sc i x))
    rw [hh_clamp hq.1 hci.2]
    unfold hh_sc
    rw [Int32.ofInt_toInt]
  · exact k l g p e s m args below meth c H locs A hC (hk.pop.pop.push (hh_can_i _)) hP hS hA
theorem hh_alS {i : Nat} {n : Int} (hd : decode mi.2.1 pc = .ok (.arraylength, 1)) (hi : i < 3) (hn : ((hh_sl.getD i 0 : Nat) : Int) = n) (k : hh_J d mi (pc + 1) ls (hh_I n :: st) σ Q) : hh_J d mi pc ls (hh_R (2000 + i) :: st) σ Q := by
  intro l g p e s m args below meth c H locs A hC hk hP hS hA
  obtain ⟨hx, hb, hr, hml, hown, hts, hlk, hF⟩ := id hC
  subst hn
  refine va_tlen (v := Int32.ofInt ((hh_sl.getD i 0 : Nat) : Int)) hx hb (hF.2.2.2.1.1 i hi).2.2.2 hS Int32.ofInt_eq_ofNat.symm hd ?_
  refine k l g p e s m args below meth c H locs A hC (hk.pop.push ?_) hP hS hA
  rcases (show i = 0 ∨ i = 1 ∨ i = 2 by omega) with rfl | rfl | rfl <;> exact ⟨by decide, by decide⟩
end hh_more
def hh_lp0 (F : (hh_S → Prop) → hh_S → Prop) : Nat → hh_S → Prop
  | 0, _ => False
  | n + 1, σ => F (hh_lp0 F n) σ
theorem hh_lp0_of {F : (hh_S → Prop) → hh_S → Prop} (I : Nat → hh_S → Prop) (h : ∀ (n : Nat) (σ : hh_S) (k : hh_S → Prop), I n σ → (∀ (m : Nat) (σ : hh_S), n = m + 1 → I m σ → k σ) → F k σ) : ∀ (n : Nat) (σ : hh_S), I n σ → ∃ m, hh_lp0 F m σ := by
  have key : ∀ (n : Nat) (σ : hh_S), I n σ → hh_lp0 F (n + 1) σ := by
    intro n
    induction n with
    | zero => intro σ hi; exact h 0 σ _ hi (fun m _ e => by omega)
    | succ n ih => intro σ hi; exact h (n + 1) σ _ hi (fun m τ e hm => by
        obtain rfl : m = n := by omega
        exact ih τ hm)
  intro n σ hi
  exact ⟨n + 1, key n σ hi⟩
def hh_lp1 (F : (Int → hh_S → Prop) → Int → hh_S → Prop) : Nat → Int → hh_S → Prop
  | 0, _, _ => False
  | n + 1, x0, σ => F (hh_lp1 F n) x0 σ
theorem hh_lp1_of {F : (Int → hh_S → Prop) → Int → hh_S → Prop} (I : Nat → Int → hh_S → Prop) (h : ∀ (n : Nat) (x0 : Int) (σ : hh_S) (k : Int → hh_S → Prop), I n x0 σ → (∀ (m : Nat) (x0 : Int) (σ : hh_S), n = m + 1 → I m x0 σ → k x0 σ) → F k x0 σ) : ∀ (n : Nat) (x0 : Int) (σ : hh_S), I n x0 σ → ∃ m, hh_lp1 F m x0 σ := by
  have key : ∀ (n : Nat) (x0 : Int) (σ : hh_S), I n x0 σ → hh_lp1 F (n + 1) x0 σ := by
    intro n
    induction n with
    | zero => intro x0 σ hi; exact h 0 x0 σ _ hi (fun m _ _ e => by omega)
    | succ n ih => intro x0 σ hi; exact h (n + 1) x0 σ _ hi (fun m y0 τ e hm => by
        obtain rfl : m = n := by omega
        exact ih y0 τ hm)
  intro n x0 σ hi
  exact ⟨n + 1, key n x0 σ hi⟩
def hh_lp2 (F : (Int → Int → hh_S → Prop) → Int → Int → hh_S → Prop) : Nat → Int → Int → hh_S → Prop
  | 0, _, _, _ => False
  | n + 1, x0, x1, σ => F (hh_lp2 F n) x0 x1 σ
theorem hh_lp2_of {F : (Int → Int → hh_S → Prop) → Int → Int → hh_S → Prop} (I : Nat → Int → Int → hh_S → Prop) (h : ∀ (n : Nat) (x0 x1 : Int) (σ : hh_S) (k : Int → Int → hh_S → Prop), I n x0 x1 σ → (∀ (m : Nat) (x0 x1 : Int) (σ : hh_S), n = m + 1 → I m x0 x1 σ → k x0 x1 σ) → F k x0 x1 σ) : ∀ (n : Nat) (x0 x1 : Int) (σ : hh_S), I n x0 x1 σ → ∃ m, hh_lp2 F m x0 x1 σ := by
  have key : ∀ (n : Nat) (x0 x1 : Int) (σ : hh_S), I n x0 x1 σ → hh_lp2 F (n + 1) x0 x1 σ := by
    intro n
    induction n with
    | zero => intro x0 x1 σ hi; exact h 0 x0 x1 σ _ hi (fun m _ _ _ e => by omega)
    | succ n ih => intro x0 x1 σ hi; exact h (n + 1) x0 x1 σ _ hi (fun m y0 y1 τ e hm => by
        obtain rfl : m = n := by omega
        exact ih y0 y1 τ hm)
  intro n x0 x1 σ hi
  exact ⟨n + 1, key n x0 x1 σ hi⟩
def hh_lp3 (F : (Int → Int → Int → hh_S → Prop) → Int → Int → Int → hh_S → Prop) : Nat → Int → Int → Int → hh_S → Prop
  | 0, _, _, _, _ => False
  | n + 1, x0, x1, x2, σ => F (hh_lp3 F n) x0 x1 x2 σ
theorem hh_lp3_of {F : (Int → Int → Int → hh_S → Prop) → Int → Int → Int → hh_S → Prop} (I : Nat → Int → Int → Int → hh_S → Prop) (h : ∀ (n : Nat) (x0 x1 x2 : Int) (σ : hh_S) (k : Int → Int → Int → hh_S → Prop), I n x0 x1 x2 σ → (∀ (m : Nat) (x0 x1 x2 : Int) (σ : hh_S), n = m + 1 → I m x0 x1 x2 σ → k x0 x1 x2 σ) → F k x0 x1 x2 σ) : ∀ (n : Nat) (x0 x1 x2 : Int) (σ : hh_S), I n x0 x1 x2 σ → ∃ m, hh_lp3 F m x0 x1 x2 σ := by
  have key : ∀ (n : Nat) (x0 x1 x2 : Int) (σ : hh_S), I n x0 x1 x2 σ → hh_lp3 F (n + 1) x0 x1 x2 σ := by
    intro n
    induction n with
    | zero => intro x0 x1 x2 σ hi; exact h 0 x0 x1 x2 σ _ hi (fun m _ _ _ _ e => by omega)
    | succ n ih => intro x0 x1 x2 σ hi; exact h (n + 1) x0 x1 x2 σ _ hi (fun m y0 y1 y2 τ e hm => by
        obtain rfl : m = n := by omega
        exact ih y0 y1 y2 τ hm)
  intro n x0 x1 x2 σ hi
  exact ⟨n + 1, key n x0 x1 x2 σ hi⟩
def hh_lp4 (F : (Int → Int → Int → Int → hh_S → Prop) → Int → Int → Int → Int → hh_S → Prop) : Nat → Int → Int → Int → Int → hh_S → Prop
  | 0, _, _, _, _, _ => False
  | n + 1, x0, x1, x2, x3, σ => F (hh_lp4 F n) x0 x1 x2 x3 σ
theorem hh_lp4_of {F : (Int → Int → Int → Int → hh_S → Prop) → Int → Int → Int → Int → hh_S → Prop} (I : Nat → Int → Int → Int → Int → hh_S → Prop) (h : ∀ (n : Nat) (x0 x1 x2 x3 : Int) (σ : hh_S) (k : Int → Int → Int → Int → hh_S → Prop), I n x0 x1 x2 x3 σ → (∀ (m : Nat) (x0 x1 x2 x3 : Int) (σ : hh_S), n = m + 1 → I m x0 x1 x2 x3 σ → k x0 x1 x2 x3 σ) → F k x0 x1 x2 x3 σ) : ∀ (n : Nat) (x0 x1 x2 x3 : Int) (σ : hh_S), I n x0 x1 x2 x3 σ → ∃ m, hh_lp4 F m x0 x1 x2 x3 σ := by
  have key : ∀ (n : Nat) (x0 x1 x2 x3 : Int) (σ : hh_S), I n x0 x1 x2 x3 σ → hh_lp4 F (n + 1) x0 x1 x2 x3 σ := by
    intro n
    induction n with
    | zero => intro x0 x1 x2 x3 σ hi; exact h 0 x0 x1 x2 x3 σ _ hi (fun m _ _ _ _ _ e => by omega)
    | succ n ih => intro x0 x1 x2 x3 σ hi; exact h (n + 1) x0 x1 x2 x3 σ _ hi (fun m y0 y1 y2 y3 τ e hm => by
        obtain rfl : m = n := by omega
        exact ih y0 y1 y2 y3 τ hm)
  intro n x0 x1 x2 x3 σ hi
  exact ⟨n + 1, key n x0 x1 x2 x3 σ hi⟩
def hh_lp5 (F : (Int → Int → Int → Int → Int → hh_S → Prop) → Int → Int → Int → Int → Int → hh_S → Prop) : Nat → Int → Int → Int → Int → Int → hh_S → Prop
  | 0, _, _, _, _, _, _ => False
  | n + 1, x0, x1, x2, x3, x4, σ => F (hh_lp5 F n) x0 x1 x2 x3 x4 σ
theorem hh_lp5_of {F : (Int → Int → Int → Int → Int → hh_S → Prop) → Int → Int → Int → Int → Int → hh_S → Prop} (I : Nat → Int → Int → Int → Int → Int → hh_S → Prop) (h : ∀ (n : Nat) (x0 x1 x2 x3 x4 : Int) (σ : hh_S) (k : Int → Int → Int → Int → Int → hh_S → Prop), I n x0 x1 x2 x3 x4 σ → (∀ (m : Nat) (x0 x1 x2 x3 x4 : Int) (σ : hh_S), n = m + 1 → I m x0 x1 x2 x3 x4 σ → k x0 x1 x2 x3 x4 σ) → F k x0 x1 x2 x3 x4 σ) : ∀ (n : Nat) (x0 x1 x2 x3 x4 : Int) (σ : hh_S), I n x0 x1 x2 x3 x4 σ → ∃ m, hh_lp5 F m x0 x1 x2 x3 x4 σ := by
  have key : ∀ (n : Nat) (x0 x1 x2 x3 x4 : Int) (σ : hh_S), I n x0 x1 x2 x3 x4 σ → hh_lp5 F (n + 1) x0 x1 x2 x3 x4 σ := by
    intro n
    induction n with
    | zero => intro x0 x1 x2 x3 x4 σ hi; exact h 0 x0 x1 x2 x3 x4 σ _ hi (fun m _ _ _ _ _ _ e => by omega)
    | succ n ih => intro x0 x1 x2 x3 x4 σ hi; exact h (n + 1) x0 x1 x2 x3 x4 σ _ hi (fun m y0 y1 y2 y3 y4 τ e hm => by
        obtain rfl : m = n := by omega
        exact ih y0 y1 y2 y3 y4 τ hm)
  intro n x0 x1 x2 x3 x4 σ hi
  exact ⟨n + 1, key n x0 x1 x2 x3 x4 σ hi⟩
def hh_lp6 (F : (Int → Int → Int → Int → Int → Int → hh_S → Prop) → Int → Int → Int → Int → Int → Int → hh_S → Prop) : Nat → Int → Int → Int → Int → Int → Int → hh_S → Prop
  | 0, _, _, _, _, _, _, _ => False
  | n + 1, x0, x1, x2, x3, x4, x5, σ => F (hh_lp6 F n) x0 x1 x2 x3 x4 x5 σ
theorem hh_lp6_of {F : (Int → Int → Int → Int → Int → Int → hh_S → Prop) → Int → Int → Int → Int → Int → Int → hh_S → Prop} (I : Nat → Int → Int → Int → Int → Int → Int → hh_S → Prop) (h : ∀ (n : Nat) (x0 x1 x2 x3 x4 x5 : Int) (σ : hh_S) (k : Int → Int → Int → Int → Int → Int → hh_S → Prop), I n x0 x1 x2 x3 x4 x5 σ → (∀ (m : Nat) (x0 x1 x2 x3 x4 x5 : Int) (σ : hh_S), n = m + 1 → I m x0 x1 x2 x3 x4 x5 σ → k x0 x1 x2 x3 x4 x5 σ) → F k x0 x1 x2 x3 x4 x5 σ) : ∀ (n : Nat) (x0 x1 x2 x3 x4 x5 : Int) (σ : hh_S), I n x0 x1 x2 x3 x4 x5 σ → ∃ m, hh_lp6 F m x0 x1 x2 x3 x4 x5 σ := by
  have key : ∀ (n : Nat) (x0 x1 x2 x3 x4 x5 : Int) (σ : hh_S), I n x0 x1 x2 x3 x4 x5 σ → hh_lp6 F (n + 1) x0 x1 x2 x3 x4 x5 σ := by
    intro n
    induction n with
    | zero => intro x0 x1 x2 x3 x4 x5 σ hi; exact h 0 x0 x1 x2 x3 x4 x5 σ _ hi (fun m _ _ _ _ _ _ _ e => by omega)
    | succ n ih => intro x0 x1 x2 x3 x4 x5 σ hi; exact h (n + 1) x0 x1 x2 x3 x4 x5 σ _ hi (fun m y0 y1 y2 y3 y4 y5 τ e hm => by
        obtain rfl : m = n := by omega
        exact ih y0 y1 y2 y3 y4 y5 τ hm)
  intro n x0 x1 x2 x3 x4 x5 σ hi
  exact ⟨n + 1, key n x0 x1 x2 x3 x4 x5 σ hi⟩
def hh_lp7 (F : (Int → Int → Int → Int → Int → Int → Int → hh_S → Prop) → Int → Int → Int → Int → Int → Int → Int → hh_S → Prop) : Nat → Int → Int → Int → Int → Int → Int → Int → hh_S → Prop
  | 0, _, _, _, _, _, _, _, _ => False
  | n + 1, x0, x1, x2, x3, x4, x5, x6, σ => F (hh_lp7 F n) x0 x1 x2 x3 x4 x5 x6 σ
theorem hh_lp7_of {F : (Int → Int → Int → Int → Int → Int → Int → hh_S → Prop) → Int → Int → Int → Int → Int → Int → Int → hh_S → Prop} (I : Nat → Int → Int → Int → Int → Int → Int → Int → hh_S → Prop) (h : ∀ (n : Nat) (x0 x1 x2 x3 x4 x5 x6 : Int) (σ : hh_S) (k : Int → Int → Int → Int → Int → Int → Int → hh_S → Prop), I n x0 x1 x2 x3 x4 x5 x6 σ → (∀ (m : Nat) (x0 x1 x2 x3 x4 x5 x6 : Int) (σ : hh_S), n = m + 1 → I m x0 x1 x2 x3 x4 x5 x6 σ → k x0 x1 x2 x3 x4 x5 x6 σ) → F k x0 x1 x2 x3 x4 x5 x6 σ) : ∀ (n : Nat) (x0 x1 x2 x3 x4 x5 x6 : Int) (σ : hh_S), I n x0 x1 x2 x3 x4 x5 x6 σ → ∃ m, hh_lp7 F m x0 x1 x2 x3 x4 x5 x6 σ := by
  have key : ∀ (n : Nat) (x0 x1 x2 x3 x4 x5 x6 : Int) (σ : hh_S), I n x0 x1 x2 x3 x4 x5 x6 σ → hh_lp7 F (n + 1) x0 x1 x2 x3 x4 x5 x6 σ := by
    intro n
    induction n with
    | zero => intro x0 x1 x2 x3 x4 x5 x6 σ hi; exact h 0 x0 x1 x2 x3 x4 x5 x6 σ _ hi (fun m _ _ _ _ _ _ _ _ e => by omega)
    | succ n ih => intro x0 x1 x2 x3 x4 x5 x6 σ hi; exact h (n + 1) x0 x1 x2 x3 x4 x5 x6 σ _ hi (fun m y0 y1 y2 y3 y4 y5 y6 τ e hm => by
        obtain rfl : m = n := by omega
        exact ih y0 y1 y2 y3 y4 y5 y6 τ hm)
  intro n x0 x1 x2 x3 x4 x5 x6 σ hi
  exact ⟨n + 1, key n x0 x1 x2 x3 x4 x5 x6 σ hi⟩
def hh_lp8 (F : (Int → Int → Int → Int → Int → Int → Int → Int → hh_S → Prop) → Int → Int → Int → Int → Int → Int → Int → Int → hh_S → Prop) : Nat → Int → Int → Int → Int → Int → Int → Int → Int → hh_S → Prop
  | 0, _, _, _, _, _, _, _, _, _ => False
  | n + 1, x0, x1, x2, x3, x4, x5, x6, x7, σ => F (hh_lp8 F n) x0 x1 x2 x3 x4 x5 x6 x7 σ
theorem hh_lp8_of {F : (Int → Int → Int → Int → Int → Int → Int → Int → hh_S → Prop) → Int → Int → Int → Int → Int → Int → Int → Int → hh_S → Prop} (I : Nat → Int → Int → Int → Int → Int → Int → Int → Int → hh_S → Prop) (h : ∀ (n : Nat) (x0 x1 x2 x3 x4 x5 x6 x7 : Int) (σ : hh_S) (k : Int → Int → Int → Int → Int → Int → Int → Int → hh_S → Prop), I n x0 x1 x2 x3 x4 x5 x6 x7 σ → (∀ (m : Nat) (x0 x1 x2 x3 x4 x5 x6 x7 : Int) (σ : hh_S), n = m + 1 → I m x0 x1 x2 x3 x4 x5 x6 x7 σ → k x0 x1 x2 x3 x4 x5 x6 x7 σ) → F k x0 x1 x2 x3 x4 x5 x6 x7 σ) : ∀ (n : Nat) (x0 x1 x2 x3 x4 x5 x6 x7 : Int) (σ : hh_S), I n x0 x1 x2 x3 x4 x5 x6 x7 σ → ∃ m, hh_lp8 F m x0 x1 x2 x3 x4 x5 x6 x7 σ := by
  have key : ∀ (n : Nat) (x0 x1 x2 x3 x4 x5 x6 x7 : Int) (σ : hh_S), I n x0 x1 x2 x3 x4 x5 x6 x7 σ → hh_lp8 F (n + 1) x0 x1 x2 x3 x4 x5 x6 x7 σ := by
    intro n
    induction n with
    | zero => intro x0 x1 x2 x3 x4 x5 x6 x7 σ hi; exact h 0 x0 x1 x2 x3 x4 x5 x6 x7 σ _ hi (fun m _ _ _ _ _ _ _ _ _ e => by omega)
    | succ n ih => intro x0 x1 x2 x3 x4 x5 x6 x7 σ hi; exact h (n + 1) x0 x1 x2 x3 x4 x5 x6 x7 σ _ hi (fun m y0 y1 y2 y3 y4 y5 y6 y7 τ e hm => by
        obtain rfl : m = n := by omega
        exact ih y0 y1 y2 y3 y4 y5 y6 y7 τ hm)
  intro n x0 x1 x2 x3 x4 x5 x6 x7 σ hi
  exact ⟨n + 1, key n x0 x1 x2 x3 x4 x5 x6 x7 σ hi⟩
def hh_lp9 (F : (Int → Int → Int → Int → Int → Int → Int → Int → Int → hh_S → Prop) → Int → Int → Int → Int → Int → Int → Int → Int → Int → hh_S → Prop) : Nat → Int → Int → Int → Int → Int → Int → Int → Int → Int → hh_S → Prop
  | 0, _, _, _, _, _, _, _, _, _, _ => False
  | n + 1, x0, x1, x2, x3, x4, x5, x6, x7, x8, σ => F (hh_lp9 F n) x0 x1 x2 x3 x4 x5 x6 x7 x8 σ
theorem hh_lp9_of {F : (Int → Int → Int → Int → Int → Int → Int → Int → Int → hh_S → Prop) → Int → Int → Int → Int → Int → Int → Int → Int → Int → hh_S → Prop} (I : Nat → Int → Int → Int → Int → Int → Int → Int → Int → Int → hh_S → Prop) (h : ∀ (n : Nat) (x0 x1 x2 x3 x4 x5 x6 x7 x8 : Int) (σ : hh_S) (k : Int → Int → Int → Int → Int → Int → Int → Int → Int → hh_S → Prop), I n x0 x1 x2 x3 x4 x5 x6 x7 x8 σ → (∀ (m : Nat) (x0 x1 x2 x3 x4 x5 x6 x7 x8 : Int) (σ : hh_S), n = m + 1 → I m x0 x1 x2 x3 x4 x5 x6 x7 x8 σ → k x0 x1 x2 x3 x4 x5 x6 x7 x8 σ) → F k x0 x1 x2 x3 x4 x5 x6 x7 x8 σ) : ∀ (n : Nat) (x0 x1 x2 x3 x4 x5 x6 x7 x8 : Int) (σ : hh_S), I n x0 x1 x2 x3 x4 x5 x6 x7 x8 σ → ∃ m, hh_lp9 F m x0 x1 x2 x3 x4 x5 x6 x7 x8 σ := by
  have key : ∀ (n : Nat) (x0 x1 x2 x3 x4 x5 x6 x7 x8 : Int) (σ : hh_S), I n x0 x1 x2 x3 x4 x5 x6 x7 x8 σ → hh_lp9 F (n + 1) x0 x1 x2 x3 x4 x5 x6 x7 x8 σ := by
    intro n
    induction n with
    | zero => intro x0 x1 x2 x3 x4 x5 x6 x7 x8 σ hi; exact h 0 x0 x1 x2 x3 x4 x5 x6 x7 x8 σ _ hi (fun m _ _ _ _ _ _ _ _ _ _ e => by omega)
    | succ n ih => intro x0 x1 x2 x3 x4 x5 x6 x7 x8 σ hi; exact h (n + 1) x0 x1 x2 x3 x4 x5 x6 x7 x8 σ _ hi (fun m y0 y1 y2 y3 y4 y5 y6 y7 y8 τ e hm => by
        obtain rfl : m = n := by omega
        exact ih y0 y1 y2 y3 y4 y5 y6 y7 y8 τ hm)
  intro n x0 x1 x2 x3 x4 x5 x6 x7 x8 σ hi
  exact ⟨n + 1, key n x0 x1 x2 x3 x4 x5 x6 x7 x8 σ hi⟩
def hh_lp10 (F : (Int → Int → Int → Int → Int → Int → Int → Int → Int → Int → hh_S → Prop) → Int → Int → Int → Int → Int → Int → Int → Int → Int → Int → hh_S → Prop) : Nat → Int → Int → Int → Int → Int → Int → Int → Int → Int → Int → hh_S → Prop
  | 0, _, _, _, _, _, _, _, _, _, _, _ => False
  | n + 1, x0, x1, x2, x3, x4, x5, x6, x7, x8, x9, σ => F (hh_lp10 F n) x0 x1 x2 x3 x4 x5 x6 x7 x8 x9 σ
theorem hh_lp10_of {F : (Int → Int → Int → Int → Int → Int → Int → Int → Int → Int → hh_S → Prop) → Int → Int → Int → Int → Int → Int → Int → Int → Int → Int → hh_S → Prop} (I : Nat → Int → Int → Int → Int → Int → Int → Int → Int → Int → Int → hh_S → Prop) (h : ∀ (n : Nat) (x0 x1 x2 x3 x4 x5 x6 x7 x8 x9 : Int) (σ : hh_S) (k : Int → Int → Int → Int → Int → Int → Int → Int → Int → Int → hh_S → Prop), I n x0 x1 x2 x3 x4 x5 x6 x7 x8 x9 σ → (∀ (m : Nat) (x0 x1 x2 x3 x4 x5 x6 x7 x8 x9 : Int) (σ : hh_S), n = m + 1 → I m x0 x1 x2 x3 x4 x5 x6 x7 x8 x9 σ → k x0 x1 x2 x3 x4 x5 x6 x7 x8 x9 σ) → F k x0 x1 x2 x3 x4 x5 x6 x7 x8 x9 σ) : ∀ (n : Nat) (x0 x1 x2 x3 x4 x5 x6 x7 x8 x9 : Int) (σ : hh_S), I n x0 x1 x2 x3 x4 x5 x6 x7 x8 x9 σ → ∃ m, hh_lp10 F m x0 x1 x2 x3 x4 x5 x6 x7 x8 x9 σ := by
  have key : ∀ (n : Nat) (x0 x1 x2 x3 x4 x5 x6 x7 x8 x9 : Int) (σ : hh_S), I n x0 x1 x2 x3 x4 x5 x6 x7 x8 x9 σ → hh_lp10 F (n + 1) x0 x1 x2 x3 x4 x5 x6 x7 x8 x9 σ := by
    intro n
    induction n with
    | zero => intro x0 x1 x2 x3 x4 x5 x6 x7 x8 x9 σ hi; exact h 0 x0 x1 x2 x3 x4 x5 x6 x7 x8 x9 σ _ hi (fun m _ _ _ _ _ _ _ _ _ _ _ e => by omega)
    | succ n ih => intro x0 x1 x2 x3 x4 x5 x6 x7 x8 x9 σ hi; exact h (n + 1) x0 x1 x2 x3 x4 x5 x6 x7 x8 x9 σ _ hi (fun m y0 y1 y2 y3 y4 y5 y6 y7 y8 y9 τ e hm => by
        obtain rfl : m = n := by omega
        exact ih y0 y1 y2 y3 y4 y5 y6 y7 y8 y9 τ hm)
  intro n x0 x1 x2 x3 x4 x5 x6 x7 x8 x9 σ hi
  exact ⟨n + 1, key n x0 x1 x2 x3 x4 x5 x6 x7 x8 x9 σ hi⟩
def hh_lp11 (F : (Int → Int → Int → Int → Int → Int → Int → Int → Int → Int → Int → hh_S → Prop) → Int → Int → Int → Int → Int → Int → Int → Int → Int → Int → Int → hh_S → Prop) : Nat → Int → Int → Int → Int → Int → Int → Int → Int → Int → Int → Int → hh_S → Prop
  | 0, _, _, _, _, _, _, _, _, _, _, _, _ => False
  | n + 1, x0, x1, x2, x3, x4, x5, x6, x7, x8, x9, x10, σ => F (hh_lp11 F n) x0 x1 x2 x3 x4 x5 x6 x7 x8 x9 x10 σ
theorem hh_lp11_of {F : (Int → Int → Int → Int → Int → Int → Int → Int → Int → Int → Int → hh_S → Prop) → Int → Int → Int → Int → Int → Int → Int → Int → Int → Int → Int → hh_S → Prop} (I : Nat → Int → Int → Int → Int → Int → Int → Int → Int → Int → Int → Int → hh_S → Prop) (h : ∀ (n : Nat) (x0 x1 x2 x3 x4 x5 x6 x7 x8 x9 x10 : Int) (σ : hh_S) (k : Int → Int → Int → Int → Int → Int → Int → Int → Int → Int → Int → hh_S → Prop), I n x0 x1 x2 x3 x4 x5 x6 x7 x8 x9 x10 σ → (∀ (m : Nat) (x0 x1 x2 x3 x4 x5 x6 x7 x8 x9 x10 : Int) (σ : hh_S), n = m + 1 → I m x0 x1 x2 x3 x4 x5 x6 x7 x8 x9 x10 σ → k x0 x1 x2 x3 x4 x5 x6 x7 x8 x9 x10 σ) → F k x0 x1 x2 x3 x4 x5 x6 x7 x8 x9 x10 σ) : ∀ (n : Nat) (x0 x1 x2 x3 x4 x5 x6 x7 x8 x9 x10 : Int) (σ : hh_S), I n x0 x1 x2 x3 x4 x5 x6 x7 x8 x9 x10 σ → ∃ m, hh_lp11 F m x0 x1 x2 x3 x4 x5 x6 x7 x8 x9 x10 σ := by
  have key : ∀ (n : Nat) (x0 x1 x2 x3 x4 x5 x6 x7 x8 x9 x10 : Int) (σ : hh_S), I n x0 x1 x2 x3 x4 x5 x6 x7 x8 x9 x10 σ → hh_lp11 F (n + 1) x0 x1 x2 x3 x4 x5 x6 x7 x8 x9 x10 σ := by
    intro n
    induction n with
    | zero => intro x0 x1 x2 x3 x4 x5 x6 x7 x8 x9 x10 σ hi; exact h 0 x0 x1 x2 x3 x4 x5 x6 x7 x8 x9 x10 σ _ hi (fun m _ _ _ _ _ _ _ _ _ _ _ _ e => by omega)
    | succ n ih => intro x0 x1 x2 x3 x4 x5 x6 x7 x8 x9 x10 σ hi; exact h (n + 1) x0 x1 x2 x3 x4 x5 x6 x7 x8 x9 x10 σ _ hi (fun m y0 y1 y2 y3 y4 y5 y6 y7 y8 y9 y10 τ e hm => by
        obtain rfl : m = n := by omega
        exact ih y0 y1 y2 y3 y4 y5 y6 y7 y8 y9 y10 τ hm)
  intro n x0 x1 x2 x3 x4 x5 x6 x7 x8 x9 x10 σ hi
  exact ⟨n + 1, key n x0 x1 x2 x3 x4 x5 x6 x7 x8 x9 x10 σ hi⟩
def hh_lp12 (F : (Int → Int → Int → Int → Int → Int → Int → Int → Int → Int → Int → Int → hh_S → Prop) → Int → Int → Int → Int → Int → Int → Int → Int → Int → Int → Int → Int → hh_S → Prop) : Nat → Int → Int → Int → Int → Int → Int → Int → Int → Int → Int → Int → Int → hh_S → Prop
  | 0, _, _, _, _, _, _, _, _, _, _, _, _, _ => False
  | n + 1, x0, x1, x2, x3, x4, x5, x6, x7, x8, x9, x10, x11, σ => F (hh_lp12 F n) x0 x1 x2 x3 x4 x5 x6 x7 x8 x9 x10 x11 σ
theorem hh_lp12_of {F : (Int → Int → Int → Int → Int → Int → Int → Int → Int → Int → Int → Int → hh_S → Prop) → Int → Int → Int → Int → Int → Int → Int → Int → Int → Int → Int → Int → hh_S → Prop} (I : Nat → Int → Int → Int → Int → Int → Int → Int → Int → Int → Int → Int → Int → hh_S → Prop) (h : ∀ (n : Nat) (x0 x1 x2 x3 x4 x5 x6 x7 x8 x9 x10 x11 : Int) (σ : hh_S) (k : Int → Int → Int → Int → Int → Int → Int → Int → Int → Int → Int → Int → hh_S → Prop), I n x0 x1 x2 x3 x4 x5 x6 x7 x8 x9 x10 x11 σ → (∀ (m : Nat) (x0 x1 x2 x3 x4 x5 x6 x7 x8 x9 x10 x11 : Int) (σ : hh_S), n = m + 1 → I m x0 x1 x2 x3 x4 x5 x6 x7 x8 x9 x10 x11 σ → k x0 x1 x2 x3 x4 x5 x6 x7 x8 x9 x10 x11 σ) → F k x0 x1 x2 x3 x4 x5 x6 x7 x8 x9 x10 x11 σ) : ∀ (n : Nat) (x0 x1 x2 x3 x4 x5 x6 x7 x8 x9 x10 x11 : Int) (σ : hh_S), I n x0 x1 x2 x3 x4 x5 x6 x7 x8 x9 x10 x11 σ → ∃ m, hh_lp12 F m x0 x1 x2 x3 x4 x5 x6 x7 x8 x9 x10 x11 σ := by
  have key : ∀ (n : Nat) (x0 x1 x2 x3 x4 x5 x6 x7 x8 x9 x10 x11 : Int) (σ : hh_S), I n x0 x1 x2 x3 x4 x5 x6 x7 x8 x9 x10 x11 σ → hh_lp12 F (n + 1) x0 x1 x2 x3 x4 x5 x6 x7 x8 x9 x10 x11 σ := by
    intro n
    induction n with
    | zero => intro x0 x1 x2 x3 x4 x5 x6 x7 x8 x9 x10 x11 σ hi; exact h 0 x0 x1 x2 x3 x4 x5 x6 x7 x8 x9 x10 x11 σ _ hi (fun m _ _ _ _ _ _ _ _ _ _ _ _ _ e => by omega)
    | succ n ih => intro x0 x1 x2 x3 x4 x5 x6 x7 x8 x9 x10 x11 σ hi; exact h (n + 1) x0 x1 x2 x3 x4 x5 x6 x7 x8 x9 x10 x11 σ _ hi (fun m y0 y1 y2 y3 y4 y5 y6 y7 y8 y9 y10 y11 τ e hm => by
        obtain rfl : m = n := by omega
        exact ih y0 y1 y2 y3 y4 y5 y6 y7 y8 y9 y10 y11 τ hm)
  intro n x0 x1 x2 x3 x4 x5 x6 x7 x8 x9 x10 x11 σ hi
  exact ⟨n + 1, key n x0 x1 x2 x3 x4 x5 x6 x7 x8 x9 x10 x11 σ hi⟩
