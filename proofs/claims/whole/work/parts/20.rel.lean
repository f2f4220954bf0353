/-! the relation between the class's regions and the reference's row of numbers -/
/-- none in the class, none in the reference -/
def hr_nn (x y : Int) : Prop := (y = -1 ∧ x = -1000000005) ∨ (0 ≤ y ∧ x = y)
def hr_bit (w p : Int) : Int := hh_and (hh_shr w p) 1
def hr_P (σ : hh_S) (s : Int → Int) : Prop := (σ 2 0 = s 4 ∧ 0 ≤ s 4 ∧ s 4 ≤ 8) ∧ ∀ p : Int, 0 ≤ p → p < s 4 → (σ 3 p = s (20 + 3 * p) ∧ σ 4 p = s (20 + 3 * p + 1) ∧ σ 5 p = s (20 + 3 * p + 2)) ∧ (0 ≤ s (20 + 3 * p) ∧ s (20 + 3 * p) ≤ 3) ∧ (1 ≤ s (20 + 3 * p + 1) ∧ s (20 + 3 * p + 1) ≤ 999) ∧ (0 ≤ s (20 + 3 * p + 2) ∧ s (20 + 3 * p + 2) ≤ 9999)
def hr_C (σ : hh_S) (s : Int → Int) : Prop := (σ 6 0 = s 5 ∧ 0 ≤ s 5 ∧ s 5 ≤ 5) ∧ ∀ c : Int, 0 ≤ c → c < s 5 → σ 7 c = s (44 + c) ∧ 0 ≤ s (44 + c) ∧ s (44 + c) ≤ 9999999
/-- a matter m, whose numbers stand from a on -/
def hr_M1 (σ : hh_S) (s : Int → Int) (m a : Int) : Prop :=
  ((σ 14 m = s a ∧ 0 ≤ s a ∧ s a ≤ 3) ∧ (σ 15 m = s (a + 1) ∧ 0 ≤ s (a + 1) ∧ s (a + 1) < s 5) ∧ (σ 16 m = s (a + 2) ∧ 0 ≤ s (a + 2) ∧ s (a + 2) ≤ 99999) ∧ (σ 17 m = s (a + 10) ∧ 1 ≤ s (a + 10) ∧ s (a + 10) ≤ 3) ∧ (σ 21 m = s (a + 3) ∧ 0 ≤ s (a + 3) ∧ s (a + 3) ≤ 999999) ∧ (σ 22 m = s (a + 4) ∧ 0 ≤ s (a + 4) ∧ s (a + 4) ≤ 5)) ∧
  (∀ i : Int, 0 ≤ i → i < s (a + 10) → (σ 18 (m * 3 + i) = s (a + 11 + i) ∧ 0 ≤ s (a + 11 + i) ∧ s (a + 11 + i) < s 5) ∧ (σ 19 (m * 3 + i) = s (a + 14 + i) ∧ 1 ≤ s (a + 14 + i) ∧ s (a + 14 + i) ≤ 99)) ∧
  (∀ i j : Int, 0 ≤ i → i < j → j < s (a + 10) → s (a + 11 + i) ≠ s (a + 11 + j)) ∧
  (∀ k : Int, 1 ≤ k → k ≤ 5 → σ 23 (m * 6 + k) = hh_max 0 (s (a + 4 + k)) ∧ -1 ≤ s (a + 4 + k) ∧ s (a + 4 + k) ≤ 30000000) ∧
  (1 ≤ s (a + 4) → 0 ≤ s (a + 4 + s (a + 4))) ∧
  ((∀ p : Int, 0 ≤ p → p < 8 → σ 20 (m * 8 + p) = hr_bit (s (a + 17)) p) ∧ 0 ≤ s (a + 17) ∧ s (a + 17) ≤ 255)
def hr_M (σ : hh_S) (s : Int → Int) : Prop := (σ 13 0 = s 6 ∧ 0 ≤ s 6 ∧ s 6 ≤ 10) ∧ ∀ m : Int, 0 ≤ m → m < s 6 → hr_M1 σ s m (50 + 20 * m)
/-- an entry e, whose numbers stand from a on -/
def hr_E1 (σ : hh_S) (s : Int → Int) (e a : Int) : Prop :=
  ((σ 25 e = s a ∧ 0 ≤ s a ∧ s a < s 4) ∧ (σ 26 e = s (a + 1) ∧ 0 ≤ s (a + 1) ∧ s (a + 1) < s 6) ∧ (σ 27 e = s (a + 2) ∧ 0 ≤ s (a + 2) ∧ s (a + 2) ≤ s 0) ∧ (σ 28 e = s (a + 3) ∧ 0 ≤ s (a + 3)) ∧ (σ 29 e = s (a + 4) ∧ 1 ≤ s (a + 4) ∧ s (a + 3) + s (a + 4) ≤ 240) ∧ (σ 30 e = s (a + 5) ∧ 0 ≤ s (a + 5) ∧ s (a + 5) ≤ 5) ∧ (σ 31 e = s (a + 6) ∧ 0 ≤ s (a + 6) ∧ s (a + 6) ≤ s 0)) ∧
  ((hr_nn (σ 32 e) (s (a + 7)) ∧ s (a + 7) ≤ s 0) ∧ (hr_nn (σ 33 e) (s (a + 8)) ∧ s (a + 8) < s 10) ∧ (σ 34 e = s (a + 9) ∧ 0 ≤ s (a + 9) ∧ s (a + 9) ≤ 239976) ∧ (hr_nn (σ 35 e) (s (a + 10)) ∧ s (a + 10) ≤ 239976)) ∧
  (0 ≤ s (a + 8) → s (1630 + 12 * s (a + 8)) = s (a + 1))
def hr_E (σ : hh_S) (s : Int → Int) : Prop := (σ 24 0 = s 7 ∧ 0 ≤ s 7 ∧ s 7 ≤ 90) ∧ ∀ e : Int, 0 ≤ e → e < s 7 → hr_E1 σ s e (250 + 12 * e)
def hr_D1 (σ : hh_S) (s : Int → Int) (d a : Int) : Prop := (σ 37 d = s a ∧ 0 ≤ s a ∧ s a < s 4) ∧ σ 38 d = s (a + 1) ∧ (σ 39 d = s (a + 2) ∧ 0 ≤ s (a + 2)) ∧ (σ 40 d = s (a + 3) ∧ 1 ≤ s (a + 3) ∧ s (a + 2) + s (a + 3) ≤ 240) ∧ σ 41 d = s (a + 4)
def hr_D (σ : hh_S) (s : Int → Int) : Prop := (σ 36 0 = s 8 ∧ 0 ≤ s 8 ∧ s 8 ≤ 60) ∧ ∀ d : Int, 0 ≤ d → d < s 8 → hr_D1 σ s d (1330 + 5 * d)
/-- a bill b, whose numbers stand from a on, of a matter whose numbers stand from q on -/
def hr_B1 (σ : hh_S) (s : Int → Int) (b a q : Int) : Prop :=
  ((σ 43 b = s a ∧ 0 ≤ s a ∧ s a < s 6) ∧ (σ 44 b = s (a + 1) ∧ 0 ≤ s (a + 1) ∧ s (a + 1) ≤ s 0) ∧ σ 45 b = s (a + 2) ∧ σ 46 b = s (a + 3) ∧ σ 47 b = s (a + 4) ∧ σ 48 b = s (a + 5)) ∧
  (∀ i : Int, 0 ≤ i → i < s (q + 10) → σ 49 (b * 3 + i) = s (a + 6 + s (q + 11 + i))) ∧
  (∀ i : Int, s (q + 10) ≤ i → i < 3 → σ 49 (b * 3 + i) = 0) ∧
  (∀ c : Int, 0 ≤ c → c < 5 → (∀ i : Int, 0 ≤ i → i < s (q + 10) → s (q + 11 + i) ≠ c) → s (a + 6 + c) = 0) ∧
  (∀ c : Int, 0 ≤ c → c < 5 → 0 ≤ s (a + 6 + c) ∧ s (a + 6 + c) ≤ 30000000)
def hr_B (σ : hh_S) (s : Int → Int) : Prop := (σ 42 0 = s 10 ∧ 0 ≤ s 10 ∧ s 10 ≤ 16) ∧ ∀ b : Int, 0 ≤ b → b < s 10 → hr_B1 σ s b (1630 + 12 * b) (50 + 20 * s (1630 + 12 * b))
def hr_K (σ : hh_S) (s : Int → Int) : Prop := (σ 50 0 = s 11 ∧ 0 ≤ s 11 ∧ s 11 ≤ 6) ∧ ∀ k : Int, 0 ≤ k → k < s 11 → (σ 51 k = s (1822 + 3 * k) ∧ 0 ≤ s (1822 + 3 * k) ∧ s (1822 + 3 * k) < s 6) ∧ (σ 52 k = s (1822 + 3 * k + 1) ∧ 1 ≤ s (1822 + 3 * k + 1) ∧ s (1822 + 3 * k + 1) ≤ 999) ∧ (σ 53 k = s (1822 + 3 * k + 2) ∧ 0 ≤ s (1822 + 3 * k + 2) ∧ s (1822 + 3 * k + 2) ≤ 2)
def hr_U (σ : hh_S) (s : Int → Int) : Prop := (σ 1 8 = s 0 ∧ 0 ≤ s 0 ∧ s 0 ≤ 900) ∧ (σ 54 0 = s 1 ∧ 0 ≤ s 1 ∧ s 1 ≤ 240) ∧ (σ 54 1 = s 2 ∧ 0 ≤ s 2 ∧ s 2 ≤ 100) ∧ (σ 54 2 = s 3 ∧ 0 ≤ s 3 ∧ s 3 ≤ 900)
/-- a word of a text: the class's number beside the reference's pair -/
def hr_op (w : Int) : Int := if w = 10 then -124 else if w = 20 then -38 else if w = 30 then -60 else if w = 31 then -61 else if w = 32 then -62 else if w = 40 then -43 else if w = 41 then -45 else if w = 50 then -42 else -47
def hr_isop (w : Int) : Prop := w = 10 ∨ w = 20 ∨ w = 30 ∨ w = 31 ∨ w = 32 ∨ w = 40 ∨ w = 41 ∨ w = 50 ∨ w = 51
def hr_isnm (v : Int) : Prop := v = 110 ∨ v = 114 ∨ v = 107 ∨ v = 99 ∨ v = 103 ∨ v = 119 ∨ v = 109
def hr_wd (c w v : Int) : Prop := (w = 1 ∧ c = v ∧ 0 ≤ v ∧ v ≤ 99999) ∨ (w = 2 ∧ c = 100000 + v ∧ hr_isnm v) ∨ (w = 3 ∧ c = -33) ∨ (hr_isop w ∧ c = hr_op w)
/-- how many values stand behind the first k words -/
def hr_dp (f : Int → Int) : Nat → Int
  | 0 => 0
  | k + 1 => hr_dp f k + (if 0 ≤ f k then 1 else if f k = -33 then 0 else -1)
def hr_wf (f : Int → Int) (n : Int) : Prop := (∀ k : Nat, (k : Int) < n → (f k = -33 → 1 ≤ hr_dp f k) ∧ (f k < 0 → f k ≠ -33 → 2 ≤ hr_dp f k)) ∧ hr_dp f n.toNat = 1
def hr_tx (σ : hh_S) (s : Int → Int) (q b : Int) : Prop :=
  (σ 10 q = s b ∧ σ 11 q = s b + s (b + 241) ∧ 0 ≤ s b ∧ 0 ≤ s (b + 241) ∧ s b + s (b + 241) ≤ 120) ∧
  (∀ k : Int, 0 ≤ k → k < s b → hr_wd (σ 12 (120 * q + k)) (s (b + 1 + 2 * k)) (s (b + 2 + 2 * k))) ∧
  (∀ k : Int, 0 ≤ k → k < s (b + 241) → hr_wd (σ 12 (120 * q + s b + k)) (s (b + 241 + 1 + 2 * k)) (s (b + 241 + 2 + 2 * k))) ∧
  hr_wf (fun i => σ 12 (120 * q + i)) (s b) ∧ hr_wf (fun i => σ 12 (120 * q + s b + i)) (s (b + 241))
def hr_ct (s : Int → Int) (c : Int) : Nat → Int
  | 0 => 0
  | t + 1 => hr_ct s c t + (if s (1840 + 484 * t) = c then 1 else 0)
def hr_T1 (σ : hh_S) (s : Int → Int) (t : Nat) (b : Int) : Prop :=
  (0 ≤ s b ∧ s b < s 5) ∧ (σ 9 (3 * s b + hr_ct s (s b) t) = s (b + 1) ∧ 0 ≤ s (b + 1) ∧ s (b + 1) ≤ 900) ∧ hr_tx σ s (3 * s b + hr_ct s (s b) t) (b + 2)
def hr_T (σ : hh_S) (s : Int → Int) : Prop := (0 ≤ s 9 ∧ s 9 ≤ 15) ∧ (∀ c : Int, 0 ≤ c → c < s 5 → σ 8 c = hr_ct s c (s 9).toNat ∧ hr_ct s c (s 9).toNat ≤ 3) ∧ ∀ t : Nat, (t : Int) < s 9 → hr_T1 σ s t (1840 + 484 * t)
def hr_N (σ : hh_S) (s : Int → Int) : Prop := hr_U σ s ∧ hr_P σ s ∧ hr_C σ s ∧ hr_M σ s ∧ hr_E σ s ∧ hr_D σ s ∧ hr_B σ s ∧ hr_K σ s ∧ hr_T σ s
/-- the image of a store -/
def hr_im (σ : hh_S) : hh_S := fun r => σ (r + 54)
def hr_I (σ : hh_S) : Prop := σ 0 2 = σ 128 2 ∧ (σ 0 2 = 0 ∨ σ 0 2 = 1) ∧ (σ 0 2 = 1 → hr_N (hr_im σ) (σ 130))
def hr_H1 (σ : hh_S) (i : Int) : Prop := (σ 124 i = σ 146 i ∧ -1 ≤ σ 146 i ∧ σ 146 i ≤ 20) ∧ ∀ j : Int, 0 ≤ j → j < σ 146 i → σ 123 (i * 20 + j) = σ 145 (20 * i + j) ∧ -32768 ≤ σ 145 (20 * i + j) ∧ σ 145 (20 * i + j) ≤ 32767
def hr_H (σ : hh_S) : Prop := hr_H1 σ 0 ∧ hr_H1 σ 1
def hr_W (σ : hh_S) : Prop := (σ 0 7 = σ 128 31 ∧ 0 ≤ σ 128 31 ∧ σ 128 31 ≤ 20) ∧ ∀ j : Int, 0 ≤ j → j < σ 128 31 → σ 122 j = σ 144 j
def hr_A (σ : hh_S) : Prop := (σ 109 1 = σ 128 6 ∧ 0 ≤ σ 128 6 ∧ σ 128 6 ≤ 120) ∧ ∀ j : Int, 0 ≤ j → j < σ 128 6 → σ 110 j = hh_i2b (σ 133 j) ∧ 0 ≤ σ 133 j ∧ σ 133 j ≤ 255
/-- THE RELATION -/
def hr_R (σ : hh_S) : Prop := hr_N σ (σ 129) ∧ hr_I σ ∧ hr_H σ ∧ hr_W σ ∧ hr_A σ
-- what a component looks at
theorem hr_U.cg {σ σ' : hh_S} {s s' : Int → Int} (h : hr_U σ s) (e1 : σ' 1 = σ 1) (e2 : σ' 54 = σ 54) (es : ∀ k : Int, 0 ≤ k → k < 4 → s' k = s k) : hr_U σ' s' := by
  unfold hr_U at h ⊢
  rw [e1, e2, es 0 (by omega) (by omega), es 1 (by omega) (by omega), es 2 (by omega) (by omega), es 3 (by omega) (by omega)]
  exact h
theorem hr_P.cg {σ σ' : hh_S} {s s' : Int → Int} (h : hr_P σ s) (e2 : σ' 2 = σ 2) (e3 : σ' 3 = σ 3) (e4 : σ' 4 = σ 4) (e5 : σ' 5 = σ 5) (es : ∀ k : Int, k = 4 ∨ 20 ≤ k ∧ k < 44 → s' k = s k) : hr_P σ' s' := by
  obtain ⟨h1, h2⟩ := h
  have q4 := es 4 (by omega)
  refine ⟨by rw [e2, q4]; exact h1, fun p p1 p2 => ?_⟩
  rw [q4] at p2
  rw [e3, e4, e5, es (20 + 3 * p) (by omega), es (20 + 3 * p + 1) (by omega), es (20 + 3 * p + 2) (by omega)]
  exact h2 p p1 p2
theorem hr_C.cg {σ σ' : hh_S} {s s' : Int → Int} (h : hr_C σ s) (e2 : σ' 6 = σ 6) (e3 : σ' 7 = σ 7) (es : ∀ k : Int, k = 5 ∨ 44 ≤ k ∧ k < 50 → s' k = s k) : hr_C σ' s' := by
  obtain ⟨h1, h2⟩ := h
  have q4 := es 5 (by omega)
  refine ⟨by rw [e2, q4]; exact h1, fun p p1 p2 => ?_⟩
  rw [q4] at p2
  rw [e3, es (44 + p) (by omega)]
  exact h2 p p1 p2
theorem hr_M1.cg {σ σ' : hh_S} {s s' : Int → Int} {m a : Int} (h : hr_M1 σ s m a) (e14 : σ' 14 m = σ 14 m) (e15 : σ' 15 m = σ 15 m) (e16 : σ' 16 m = σ 16 m) (e17 : σ' 17 m = σ 17 m) (e18 : ∀ i : Int, 0 ≤ i → i < 3 → σ' 18 (m * 3 + i) = σ 18 (m * 3 + i)) (e19 : ∀ i : Int, 0 ≤ i → i < 3 → σ' 19 (m * 3 + i) = σ 19 (m * 3 + i)) (e20 : ∀ i : Int, 0 ≤ i → i < 8 → σ' 20 (m * 8 + i) = σ 20 (m * 8 + i)) (e21 : σ' 21 m = σ 21 m) (e22 : σ' 22 m = σ 22 m) (e23 : ∀ i : Int, 0 ≤ i → i < 6 → σ' 23 (m * 6 + i) = σ 23 (m * 6 + i)) (e5 : s 5 ≤ s' 5) (es : ∀ k : Int, a ≤ k → k < a + 20 → s' k = s k) : hr_M1 σ' s' m a := by
  obtain ⟨⟨h1, h2, h3, h4, h5, h6⟩, h7, h8, h9, h10, h11, h12⟩ := h
  have q0 := es a (by omega) (by omega)
  have q1 := es (a + 1) (by omega) (by omega)
  have q2 := es (a + 2) (by omega) (by omega)
  have q3 := es (a + 3) (by omega) (by omega)
  have q4 := es (a + 4) (by omega) (by omega)
  have q10 := es (a + 10) (by omega) (by omega)
  have q17 := es (a + 17) (by omega) (by omega)
  refine ⟨⟨by rw [e14, q0]; exact h1, ⟨by rw [e15, q1]; exact h2.1, by rw [q1]; exact h2.2.1, by rw [q1]; omega⟩, by rw [e16, q2]; exact h3, by rw [e17, q10]; exact h4, by rw [e21, q3]; exact h5, by rw [e22, q4]; exact h6⟩, fun i i1 i2 => ?_, fun i j i1 i2 i3 => ?_, fun k k1 k2 => ?_, fun k1 => ?_, ⟨fun p p1 p2 => ?_, by rw [q17]; exact h12⟩⟩
  · rw [q10] at i2
    have := h7 i i1 i2
    rw [e18 i i1 (by omega), e19 i i1 (by omega), es (a + 11 + i) (by omega) (by omega), es (a + 14 + i) (by omega) (by omega)]
    omega
  · rw [q10] at i3
    rw [es (a + 11 + i) (by omega) (by omega), es (a + 11 + j) (by omega) (by omega)]
    exact h8 i j i1 i2 i3
  · rw [e23 k (by omega) (by omega), es (a + 4 + k) (by omega) (by omega)]
    exact h9 k k1 k2
  · rw [q4] at k1
    rw [q4, es (a + 4 + s (a + 4)) (by omega) (by omega)]
    exact h10 k1
  · rw [e20 p p1 p2, q17]
    exact h11 p p1 p2
theorem hr_M.cg {σ σ' : hh_S} {s s' : Int → Int} (h : hr_M σ s) (e13 : σ' 13 = σ 13) (e14 : σ' 14 = σ 14) (e15 : σ' 15 = σ 15) (e16 : σ' 16 = σ 16) (e17 : σ' 17 = σ 17) (e18 : σ' 18 = σ 18) (e19 : σ' 19 = σ 19) (e20 : σ' 20 = σ 20) (e21 : σ' 21 = σ 21) (e22 : σ' 22 = σ 22) (e23 : σ' 23 = σ 23) (e5 : s 5 ≤ s' 5) (es : ∀ k : Int, k = 6 ∨ 50 ≤ k ∧ k < 250 → s' k = s k) : hr_M σ' s' := by
  obtain ⟨h1, h2⟩ := h
  have q := es 6 (by omega)
  refine ⟨by rw [e13, q]; exact h1, fun m m1 m2 => ?_⟩
  rw [q] at m2
  exact (h2 m m1 m2).cg (by rw [e14]) (by rw [e15]) (by rw [e16]) (by rw [e17]) (fun i _ _ => by rw [e18]) (fun i _ _ => by rw [e19]) (fun i _ _ => by rw [e20]) (by rw [e21]) (by rw [e22]) (fun i _ _ => by rw [e23]) e5 (fun k k1 k2 => es k (by omega))
theorem hr_E1.cg {σ σ' : hh_S} {s s' : Int → Int} {e a : Int} (h : hr_E1 σ s e a) (er : ∀ r : Nat, 25 ≤ r → r < 36 → σ' r e = σ r e) (e4 : s 4 ≤ s' 4) (e6 : s 6 ≤ s' 6) (e0 : s 0 ≤ s' 0) (e10 : s 10 ≤ s' 10) (es : ∀ k : Int, a ≤ k → k < a + 12 → s' k = s k) (eb : 0 ≤ s (a + 8) → s (a + 8) < s 10 → s' (1630 + 12 * s (a + 8)) = s (1630 + 12 * s (a + 8))) : hr_E1 σ' s' e a := by
  obtain ⟨⟨h1, h2, h3, h4, h5, h6, h7⟩, ⟨h8, h9, h10, h11⟩, h12⟩ := h
  have q0 := es a (by omega) (by omega)
  have q1 := es (a + 1) (by omega) (by omega)
  have q2 := es (a + 2) (by omega) (by omega)
  have q3 := es (a + 3) (by omega) (by omega)
  have q4 := es (a + 4) (by omega) (by omega)
  have q5 := es (a + 5) (by omega) (by omega)
  have q6 := es (a + 6) (by omega) (by omega)
  have q7 := es (a + 7) (by omega) (by omega)
  have q8 := es (a + 8) (by omega) (by omega)
  have q9 := es (a + 9) (by omega) (by omega)
  have q10 := es (a + 10) (by omega) (by omega)
  unfold hr_E1
  rw [er 25 (by omega) (by omega), er 26 (by omega) (by omega), er 27 (by omega) (by omega), er 28 (by omega) (by omega), er 29 (by omega) (by omega), er 30 (by omega) (by omega), er 31 (by omega) (by omega), er 32 (by omega) (by omega), er 33 (by omega) (by omega), er 34 (by omega) (by omega), er 35 (by omega) (by omega), q0, q1, q2, q3, q4, q5, q6, q7, q8, q9, q10]
  refine ⟨⟨by omega, by omega, by omega, h4, h5, h6, by omega⟩, ⟨⟨h8.1, by omega⟩, ⟨h9.1, by omega⟩, h10, h11⟩, fun z => ?_⟩
  rw [eb z h9.2]
  exact h12 z
theorem hr_E.cg {σ σ' : hh_S} {s s' : Int → Int} (h : hr_E σ s) (er : ∀ r : Nat, 24 ≤ r → r < 36 → σ' r = σ r) (e4 : s 4 ≤ s' 4) (e6 : s 6 ≤ s' 6) (e0 : s 0 ≤ s' 0) (e10 : s 10 ≤ s' 10) (es : ∀ k : Int, k = 7 ∨ 250 ≤ k ∧ k < 1330 → s' k = s k) (eb : ∀ b : Int, 0 ≤ b → b < s 10 → s' (1630 + 12 * b) = s (1630 + 12 * b)) : hr_E σ' s' := by
  obtain ⟨h1, h2⟩ := h
  have q := es 7 (by omega)
  refine ⟨by rw [er 24 (by omega) (by omega), q]; exact h1, fun e e1 e2 => ?_⟩
  rw [q] at e2
  exact (h2 e e1 e2).cg (fun r r1 r2 => by rw [er r (by omega) r2]) e4 e6 e0 e10 (fun k k1 k2 => es k (by omega)) (fun z1 z2 => eb _ z1 z2)
theorem hr_D.cg {σ σ' : hh_S} {s s' : Int → Int} (h : hr_D σ s) (er : ∀ r : Nat, 36 ≤ r → r < 42 → σ' r = σ r) (e4 : s 4 ≤ s' 4) (es : ∀ k : Int, k = 8 ∨ 1330 ≤ k ∧ k < 1630 → s' k = s k) : hr_D σ' s' := by
  obtain ⟨h1, h2⟩ := h
  have q := es 8 (by omega)
  refine ⟨by rw [er 36 (by omega) (by omega), q]; exact h1, fun d d1 d2 => ?_⟩
  rw [q] at d2
  have h3 := h2 d d1 d2
  unfold hr_D1 at h3 ⊢
  rw [er 37 (by omega) (by omega), er 38 (by omega) (by omega), er 39 (by omega) (by omega), er 40 (by omega) (by omega), er 41 (by omega) (by omega), es (1330 + 5 * d) (by omega), es (1330 + 5 * d + 1) (by omega), es (1330 + 5 * d + 2) (by omega), es (1330 + 5 * d + 3) (by omega), es (1330 + 5 * d + 4) (by omega)]
  omega
theorem hr_B1.cg {σ σ' : hh_S} {s s' : Int → Int} {b a q : Int} (h : hr_B1 σ s b a q) (er : ∀ r : Nat, 43 ≤ r → r < 49 → σ' r b = σ r b) (eo : ∀ i : Int, 0 ≤ i → i < 3 → σ' 49 (b * 3 + i) = σ 49 (b * 3 + i)) (e6 : s 6 ≤ s' 6) (e0 : s 0 ≤ s' 0) (es : ∀ k : Int, a ≤ k → k < a + 12 → s' k = s k) (eq : ∀ k : Int, q + 10 ≤ k → k < q + 14 → s' k = s k) (hp : s (q + 10) ≤ 3) (hp1 : 1 ≤ s (q + 10)) (hc : ∀ i : Int, 0 ≤ i → i < s (q + 10) → 0 ≤ s (q + 11 + i) ∧ s (q + 11 + i) < 5) : hr_B1 σ' s' b a q := by
  obtain ⟨⟨h1, h2, h3, h4, h5, h6⟩, h7, h8, h9, h10⟩ := h
  have q0 := es a (by omega) (by omega)
  have q1 := es (a + 1) (by omega) (by omega)
  have q2 := es (a + 2) (by omega) (by omega)
  have q3 := es (a + 3) (by omega) (by omega)
  have q4 := es (a + 4) (by omega) (by omega)
  have q5 := es (a + 5) (by omega) (by omega)
  have q10 := eq (q + 10) (by omega) (by omega)
  refine ⟨?_, fun i i1 i2 => ?_, fun i i1 i2 => ?_, fun c c1 c2 z => ?_, fun c c1 c2 => ?_⟩
  · rw [er 43 (by omega) (by omega), er 44 (by omega) (by omega), er 45 (by omega) (by omega), er 46 (by omega) (by omega), er 47 (by omega) (by omega), er 48 (by omega) (by omega), q0, q1, q2, q3, q4, q5]
    omega
  · rw [q10] at i2
    have := hc i i1 i2
    rw [eo i i1 (by omega), eq (q + 11 + i) (by omega) (by omega), es _ (by omega) (by omega)]
    exact h7 i i1 i2
  · rw [q10] at i1
    rw [eo i (by omega) i2]
    exact h8 i i1 i2
  · rw [es _ (by omega) (by omega)]
    refine h9 c c1 c2 (fun i i1 i2 => ?_)
    have := z i i1 (by rw [q10]; exact i2)
    rw [eq (q + 11 + i) (by omega) (by omega)] at this
    exact this
  · rw [es _ (by omega) (by omega)]
    exact h10 c c1 c2
theorem hr_pay {σ : hh_S} {s : Int → Int} (hC : hr_C σ s) (hM : hr_M σ s) {m : Int} (m1 : 0 ≤ m) (m2 : m < s 6) : (1 ≤ s (50 + 20 * m + 10) ∧ s (50 + 20 * m + 10) ≤ 3) ∧ ∀ i : Int, 0 ≤ i → i < s (50 + 20 * m + 10) → 0 ≤ s (50 + 20 * m + 11 + i) ∧ s (50 + 20 * m + 11 + i) < 5 := by
  obtain ⟨⟨h1, h2, h3, h4, h5, h6⟩, h7, -⟩ := hM.2 m m1 m2
  refine ⟨h4.2, fun i i1 i2 => ?_⟩
  have := h7 i i1 i2
  have := hC.1
  omega
theorem hr_B.cg {σ σ' : hh_S} {s s' : Int → Int} (h : hr_B σ s) (hC : hr_C σ s) (hM : hr_M σ s) (er : ∀ r : Nat, 42 ≤ r → r < 50 → σ' r = σ r) (e6 : s 6 ≤ s' 6) (e0 : s 0 ≤ s' 0) (es : ∀ k : Int, k = 10 ∨ 1630 ≤ k ∧ k < 1822 → s' k = s k) (eq : ∀ m : Int, 0 ≤ m → m < s 6 → (∃ b : Int, 0 ≤ b ∧ b < s 10 ∧ s (1630 + 12 * b) = m) → ∀ k : Int, 50 + 20 * m + 10 ≤ k → k < 50 + 20 * m + 14 → s' k = s k) : hr_B σ' s' := by
  obtain ⟨h1, h2⟩ := h
  have q := es 10 (by omega)
  refine ⟨by rw [er 42 (by omega) (by omega), q]; exact h1, fun b b1 b2 => ?_⟩
  rw [q] at b2
  have h3 := h2 b b1 b2
  have hm := h3.1.1
  have hp := hr_pay hC hM hm.2.1 hm.2.2
  rw [es (1630 + 12 * b) (by omega)]
  exact h3.cg (fun r r1 r2 => by rw [er r (by omega) (by omega)]) (fun i _ _ => by rw [er 49 (by omega) (by omega)]) e6 e0 (fun k k1 k2 => es k (by omega)) (eq _ hm.2.1 hm.2.2 ⟨b, b1, b2, rfl⟩) hp.1.2 hp.1.1 hp.2
theorem hr_K.cg {σ σ' : hh_S} {s s' : Int → Int} (h : hr_K σ s) (e50 : σ' 50 = σ 50) (e51 : σ' 51 = σ 51) (e52 : σ' 52 = σ 52) (e53 : σ' 53 = σ 53) (e6 : s 6 ≤ s' 6) (es : ∀ k : Int, k = 11 ∨ 1822 ≤ k ∧ k < 1840 → s' k = s k) : hr_K σ' s' := by
  obtain ⟨h1, h2⟩ := h
  have q := es 11 (by omega)
  refine ⟨by rw [e50, q]; exact h1, fun k k1 k2 => ?_⟩
  rw [q] at k2
  rw [e51, e52, e53, es (1822 + 3 * k) (by omega), es (1822 + 3 * k + 1) (by omega), es (1822 + 3 * k + 2) (by omega)]
  have := h2 k k1 k2
  omega
theorem hr_dp.cg {f f' : Int → Int} : ∀ n : Nat, (∀ i : Int, 0 ≤ i → i < n → f' i = f i) → hr_dp f' n = hr_dp f n := by
  intro n
  induction n with
  | zero => intro _; rfl
  | succ n ih =>
    intro h
    show hr_dp f' n + _ = hr_dp f n + _
    rw [ih (fun i i1 i2 => h i i1 (by omega)), h n (by omega) (by omega)]
theorem hr_wf.cg {f f' : Int → Int} {n : Int} (h : hr_wf f n) (e : ∀ i : Int, 0 ≤ i → i < n → f' i = f i) : hr_wf f' n := by
  obtain ⟨h1, h2⟩ := h
  refine ⟨fun k k1 => ?_, ?_⟩
  · rw [e k (by omega) k1, hr_dp.cg k (fun i i1 i2 => e i i1 (by omega))]
    exact h1 k k1
  · rw [hr_dp.cg n.toNat (fun i i1 i2 => e i i1 (by omega))]
    exact h2
theorem hr_tx.cg {σ σ' : hh_S} {s s' : Int → Int} {q b : Int} (h : hr_tx σ s q b) (e10 : σ' 10 q = σ 10 q) (e11 : σ' 11 q = σ 11 q) (e12 : ∀ i : Int, 0 ≤ i → i < 120 → σ' 12 (120 * q + i) = σ 12 (120 * q + i)) (es : ∀ k : Int, b ≤ k → k < b + 482 → s' k = s k) : hr_tx σ' s' q b := by
  obtain ⟨h1, h2, h3, h4, h5⟩ := h
  have q0 := es b (by omega) (by omega)
  have q1 := es (b + 241) (by omega) (by omega)
  refine ⟨by rw [e10, e11, q0, q1]; exact h1, fun k k1 k2 => ?_, fun k k1 k2 => ?_, ?_, ?_⟩
  · rw [q0] at k2
    rw [e12 k k1 (by omega), es (b + 1 + 2 * k) (by omega) (by omega), es (b + 2 + 2 * k) (by omega) (by omega)]
    exact h2 k k1 k2
  · rw [q1] at k2
    rw [q0, Int.add_assoc (120 * q), e12 (s b + k) (by omega) (by omega), ← Int.add_assoc (120 * q), es (b + 241 + 1 + 2 * k) (by omega) (by omega), es (b + 241 + 2 + 2 * k) (by omega) (by omega)]
    exact h3 k k1 k2
  · rw [q0]
    exact h4.cg (fun i i1 i2 => e12 i i1 (by omega))
  · rw [q0, q1]
    refine h5.cg (fun i i1 i2 => ?_)
    show σ' 12 (120 * q + s b + i) = σ 12 (120 * q + s b + i)
    rw [Int.add_assoc (120 * q), e12 (s b + i) (by omega) (by omega)]
theorem hr_ct.cg {s s' : Int → Int} {c : Int} : ∀ n : Nat, (∀ t : Nat, t < n → s' (1840 + 484 * t) = s (1840 + 484 * t)) → hr_ct s' c n = hr_ct s c n := by
  intro n
  induction n with
  | zero => intro _; rfl
  | succ n ih =>
    intro h
    show hr_ct s' c n + _ = hr_ct s c n + _
    rw [ih (fun t t1 => h t (by omega)), h n (by omega)]
theorem hr_ct_nn (s : Int → Int) (c : Int) : ∀ n : Nat, 0 ≤ hr_ct s c n := by
  intro n
  induction n with
  | zero => exact Int.le_refl 0
  | succ n ih =>
    show 0 ≤ hr_ct s c n + _
    split <;> omega
theorem hr_ct_mono (s : Int → Int) (c : Int) {n m : Nat} (h : n ≤ m) : hr_ct s c n ≤ hr_ct s c m := by
  induction h with
  | refl => exact Int.le_refl _
  | step h ih =>
    refine Int.le_trans ih ?_
    show _ ≤ hr_ct s c _ + _
    split <;> omega
theorem hr_T1.cg {σ σ' : hh_S} {s s' : Int → Int} {t : Nat} (h : hr_T1 σ s t (1840 + 484 * t)) (hq : ∀ q : Int, q = 3 * s (1840 + 484 * t) + hr_ct s (s (1840 + 484 * t)) t → σ' 9 q = σ 9 q ∧ σ' 10 q = σ 10 q ∧ σ' 11 q = σ 11 q ∧ ∀ i : Int, 0 ≤ i → i < 120 → σ' 12 (120 * q + i) = σ 12 (120 * q + i)) (e5 : s 5 ≤ s' 5) (es : ∀ k : Int, 1840 ≤ k → k < 1840 + 484 * (t + 1) → s' k = s k) : hr_T1 σ' s' t (1840 + 484 * t) := by
  obtain ⟨h1, h2, h3⟩ := h
  have q0 := es (1840 + 484 * t) (by omega) (by omega)
  have q1 := es (1840 + 484 * t + 1) (by omega) (by omega)
  have qc : hr_ct s' (s (1840 + 484 * t)) t = hr_ct s (s (1840 + 484 * t)) t := hr_ct.cg t (fun u u1 => es _ (by omega) (by omega))
  obtain ⟨z1, z2, z3, z4⟩ := hq _ rfl
  unfold hr_T1
  rw [q0, q1, qc]
  refine ⟨by omega, by rw [z1]; exact h2, h3.cg z2 z3 z4 (fun k k1 k2 => es k (by omega) (by omega))⟩
theorem hr_T.cg {σ σ' : hh_S} {s s' : Int → Int} (h : hr_T σ s) (e8 : σ' 8 = σ 8) (e9 : σ' 9 = σ 9) (e10 : σ' 10 = σ 10) (e11 : σ' 11 = σ 11) (e12 : σ' 12 = σ 12) (e5 : s' 5 = s 5) (es : ∀ k : Int, k = 9 ∨ 1840 ≤ k ∧ k < 9100 → s' k = s k) : hr_T σ' s' := by
  obtain ⟨h1, h2, h3⟩ := h
  have q := es 9 (by omega)
  refine ⟨by rw [q]; exact h1, fun c c1 c2 => ?_, fun t t1 => ?_⟩
  · rw [e5] at c2
    rw [e8, q, hr_ct.cg (s := s) (s' := s') (s 9).toNat (fun t t1 => es _ (by omega))]
    exact h2 c c1 c2
  · rw [q] at t1
    exact (h3 t t1).cg (fun q _ => ⟨by rw [e9], by rw [e10], by rw [e11], fun i _ _ => by rw [e12]⟩) (by omega) (fun k k1 k2 => es k (by omega))
theorem hr_N.cg {σ σ' : hh_S} {s s' : Int → Int} (h : hr_N σ s) (er : ∀ r : Nat, 1 ≤ r → r < 55 → σ' r = σ r) (es : ∀ k : Int, 0 ≤ k → k < 9100 → s' k = s k) : hr_N σ' s' := by
  obtain ⟨h1, h2, h3, h4, h5, h6, h7, h8, h9⟩ := h
  have e (r : Nat) (a : 1 ≤ r := by omega) (b : r < 55 := by omega) : σ' r = σ r := er r a b
  have q (k : Int) (a : 0 ≤ k := by omega) (b : k < 9100 := by omega) : s' k = s k := es k a b
  have hb : s 10 ≤ 16 := h7.1.2.2
  have hm : s 6 ≤ 10 := h4.1.2.2
  exact ⟨h1.cg (e 1) (e 54) (fun k _ _ => q k), h2.cg (e 2) (e 3) (e 4) (e 5) (fun k _ => q k), h3.cg (e 6) (e 7) (fun k _ => q k), h4.cg (e 13) (e 14) (e 15) (e 16) (e 17) (e 18) (e 19) (e 20) (e 21) (e 22) (e 23) (by rw [q 5]; exact Int.le_refl _) (fun k _ => q k),
    h5.cg (fun r _ _ => e r) (by rw [q 4]; exact Int.le_refl _) (by rw [q 6]; exact Int.le_refl _) (by rw [q 0]; exact Int.le_refl _) (by rw [q 10]; exact Int.le_refl _) (fun k _ => q k) (fun b _ _ => q _), h6.cg (fun r _ _ => e r) (by rw [q 4]; exact Int.le_refl _) (fun k _ => q k),
    h7.cg h3 h4 (fun r _ _ => e r) (by rw [q 6]; exact Int.le_refl _) (by rw [q 0]; exact Int.le_refl _) (fun k _ => q k) (fun m _ _ _ k _ _ => q k), h8.cg (e 50) (e 51) (e 52) (e 53) (by rw [q 6]; exact Int.le_refl _) (fun k _ => q k), h9.cg (e 8) (e 9) (e 10) (e 11) (e 12) (q 5) (fun k _ => q k)⟩
theorem hr_I.cg {σ σ' : hh_S} (h : hr_I σ) (e0 : σ' 0 2 = σ 0 2) (e1 : σ' 128 2 = σ 128 2) (er : ∀ r : Nat, 55 ≤ r → r < 109 → σ' r = σ r) (es : σ' 130 = σ 130) : hr_I σ' := by
  obtain ⟨h1, h2, h3⟩ := h
  refine ⟨by rw [e0, e1]; exact h1, by rw [e0]; exact h2, fun z => ?_⟩
  rw [e0] at z
  rw [es]
  exact (h3 z).cg (fun r r1 r2 => er (r + 54) (by omega) (by omega)) (fun k _ _ => rfl)
theorem hr_H.cg {σ σ' : hh_S} (h : hr_H σ) (e1 : σ' 123 = σ 123) (e2 : σ' 124 = σ 124) (e3 : σ' 145 = σ 145) (e4 : σ' 146 = σ 146) : hr_H σ' := by
  unfold hr_H hr_H1 at h ⊢
  rw [e1, e2, e3, e4]
  exact h
theorem hr_W.cg {σ σ' : hh_S} (h : hr_W σ) (e1 : σ' 0 7 = σ 0 7) (e2 : σ' 128 31 = σ 128 31) (e3 : σ' 122 = σ 122) (e4 : σ' 144 = σ 144) : hr_W σ' := by
  unfold hr_W at h ⊢
  rw [e1, e2, e3, e4]
  exact h
theorem hr_A.cg {σ σ' : hh_S} (h : hr_A σ) (e1 : σ' 109 1 = σ 109 1) (e2 : σ' 128 6 = σ 128 6) (e3 : σ' 110 = σ 110) (e4 : σ' 133 = σ 133) : hr_A σ' := by
  unfold hr_A at h ⊢
  rw [e1, e2, e3, e4]
  exact h
