/-- the term that holds for client c on a day, of the first n ones -/
def hr_tm (s : Int → Int) (c day : Int) : Nat → Int
  | 0 => -1
  | n + 1 => if s (1840 + 484 * n) = c ∧ s (1840 + 484 * n + 1) ≤ day ∧ (hr_tm s c day n = -1 ∨ s (1840 + 484 * hr_tm s c day n + 1) ≤ s (1840 + 484 * n + 1)) then n else hr_tm s c day n
theorem hr_tm_b (s : Int → Int) (c day : Int) : ∀ n : Nat, hr_tm s c day n = -1 ∨ ∃ t : Nat, hr_tm s c day n = t ∧ t < n ∧ s (1840 + 484 * t) = c
  | 0 => Or.inl rfl
  | n + 1 => by
    unfold hr_tm
    split
    · rename_i z
      exact Or.inr ⟨n, rfl, by omega, z.1⟩
    · rcases hr_tm_b s c day n with z | ⟨t, z1, z2, z3⟩
      · exact Or.inl z
      · exact Or.inr ⟨t, z1, by omega, z3⟩
theorem hr_tm_same (s : Int → Int) (c day : Int) (t : Nat) : ∀ n : Nat, t ≤ n → hr_ct s c t = hr_ct s c n → hr_tm s c day n = hr_tm s c day t
  | 0, h, _ => by rw [show t = 0 by omega]
  | n + 1, h, e => by
    by_cases z : t = n + 1
    · rw [z]
    · have m := hr_ct_mono s c (show t ≤ n by omega)
      have e2 : hr_ct s c (n + 1) = hr_ct s c n + (if s (1840 + 484 * n) = c then 1 else 0) := rfl
      by_cases y : s (1840 + 484 * (n : Int)) = c
      · rw [if_pos y] at e2; omega
      · rw [if_neg y] at e2
        rw [← hr_tm_same s c day t n (by omega) (by omega)]
        show (if _ then _ else _) = _
        rw [if_neg (fun w => y w.1)]
theorem hr_tm_next (s : Int → Int) (c : Int) (t : Nat) : ∀ n : Nat, t ≤ n → hr_ct s c t < hr_ct s c n → ∃ q : Nat, t ≤ q ∧ q < n ∧ s (1840 + 484 * q) = c ∧ hr_ct s c q = hr_ct s c t
  | 0, h, e => by rw [show t = 0 by omega] at e; omega
  | n + 1, h, e => by
    have e2 : hr_ct s c (n + 1) = hr_ct s c n + (if s (1840 + 484 * n) = c then 1 else 0) := rfl
    by_cases z : t = n + 1
    · rw [z] at e; omega
    · have m := hr_ct_mono s c (show t ≤ n by omega)
      by_cases y : hr_ct s c t < hr_ct s c n
      · obtain ⟨q, q1, q2, q3, q4⟩ := hr_tm_next s c t n (by omega) y
        exact ⟨q, q1, by omega, q3, q4⟩
      · by_cases x : s (1840 + 484 * (n : Int)) = c
        · exact ⟨n, by omega, by omega, x, by omega⟩
        · rw [if_neg x] at e2; omega
/-- the class's place of the reference's term -/
def hr_pl (s : Int → Int) (c t : Int) : Int := if t = -1 then -1 else 3 * c + hr_ct s c t.toNat
set_option maxHeartbeats 2000000 in
theorem c_slotOn {d : Nat} {σ : hh_S} {s : Int → Int} {c day : Int} {Q : Int → hh_S → Prop} (hT : hr_T σ s) (h5 : s 5 ≤ 5) (hc : 0 ≤ c ∧ c < s 5) (hq : Q (hr_pl s c (hr_tm s c day (s 9).toNat)) σ) : hh_Sp (d + 1) hm_X1_slotOn [hh_R 6, hh_I c, hh_I day] σ Q := by
  have t1 := hT.1
  have t2 := hT.2.1 c hc.1 hc.2
  refine wp_X1_slotOn _ _ (fun _ _ _ => ?_)
  unfold P_X1_slotOn
  refine ⟨by omega, ?_⟩
  refine hh_lp5_of (fun n x1 x2 x3 x4 x5 τ => τ = σ ∧ (x1 = c ∧ x2 = day ∧ x4 = c * 3) ∧ ∃ t : Nat, (t : Int) ≤ s 9 ∧ x5 = hr_ct s c t ∧ 3 - x5 ≤ n ∧ x3 = hr_pl s c (hr_tm s c day t)) ?_ 3 c day (-1) (c * 3) 0 σ ⟨rfl, ⟨rfl, rfl, rfl⟩, 0, by omega, rfl, by omega, rfl⟩
  rintro n x1 x2 x3 x4 x5 τ kk ⟨rfl, ⟨rfl, rfl, rfl⟩, t, f1, rfl, f2, rfl⟩ hk
  have nn := hr_ct_nn s x1 t
  have mo := hr_ct_mono s x1 (show t ≤ (s 9).toNat by omega)
  unfold B_X1_slotOn_10
  rw [t2.1]
  refine ⟨by omega, fun z => ?_, fun z => ⟨by omega, ?_⟩⟩
  · rw [← hr_tm_same s x1 x2 t (s 9).toNat (by omega) (by omega)]
    exact hq
  obtain ⟨q, q1, q2, q3, q4⟩ := hr_tm_next s x1 t (s 9).toNat (by omega) (by omega)
  have hT1 := hT.2.2 q (by omega)
  unfold hr_T1 at hT1
  rw [q3] at hT1
  rw [q4] at hT1
  have d1 : τ 9 (x1 * 3 + hr_ct s x1 t) = s (1840 + 484 * (q : Int) + 1) := by rw [show x1 * 3 = 3 * x1 by omega]; exact hT1.2.1.1
  have e2 : hr_ct s x1 (q + 1) = hr_ct s x1 q + (if s (1840 + 484 * q) = x1 then 1 else 0) := rfl
  rw [if_pos q3] at e2
  have es := hr_tm_same s x1 x2 t q q1 q4.symm
  have estep : hr_tm s x1 x2 (q + 1) = if s (1840 + 484 * q) = x1 ∧ s (1840 + 484 * q + 1) ≤ x2 ∧ (hr_tm s x1 x2 q = -1 ∨ s (1840 + 484 * hr_tm s x1 x2 q + 1) ≤ s (1840 + 484 * q + 1)) then (q : Int) else hr_tm s x1 x2 q := rfl
  rw [es] at estep
  have NX : ∀ y : Int, y = hr_pl s x1 (hr_tm s x1 x2 (q + 1)) → B_X1_slotOn_62 d Q kk x1 x2 y (x1 * 3) (hr_ct s x1 t) τ := by
    intro y hy
    unfold B_X1_slotOn_62
    exact ⟨by omega, hk (n - 1) _ _ _ _ _ _ (by omega) ⟨rfl, ⟨rfl, rfl, rfl⟩, q + 1, by omega, by omega, by omega, hy⟩⟩
  have YES : s (1840 + 484 * (q : Int) + 1) ≤ x2 → (hr_tm s x1 x2 t = -1 ∨ s (1840 + 484 * hr_tm s x1 x2 t + 1) ≤ s (1840 + 484 * (q : Int) + 1)) → B_X1_slotOn_59 d Q kk x1 x2 (x1 * 3) (hr_ct s x1 t) (x1 * 3 + hr_ct s x1 t) τ := by
    intro y1 y2
    unfold B_X1_slotOn_59
    refine NX _ ?_
    rw [estep, if_pos ⟨q3, y1, y2⟩]
    unfold hr_pl
    rw [if_neg (by omega), show ((q : Int)).toNat = q by omega, q4]
    omega
  have NO : ¬ (s (1840 + 484 * (q : Int) + 1) ≤ x2 ∧ (hr_tm s x1 x2 t = -1 ∨ s (1840 + 484 * hr_tm s x1 x2 t + 1) ≤ s (1840 + 484 * (q : Int) + 1))) → B_X1_slotOn_62 d Q kk x1 x2 (hr_pl s x1 (hr_tm s x1 x2 t)) (x1 * 3) (hr_ct s x1 t) τ := by
    intro y
    refine NX _ ?_
    rw [estep, if_neg (fun w => y w.2)]
  rw [d1]
  refine ⟨fun z2 => NO (fun w => by have := w.1; omega), fun z2 => ?_⟩
  rcases hr_tm_b s x1 x2 t with b | ⟨u, b1, b2, b3⟩
  · have hp : hr_pl s x1 (hr_tm s x1 x2 t) = -1 := by rw [b]; rfl
    exact ⟨fun _ => YES (by omega) (Or.inl b), fun z3 => by omega⟩
  · have hp : hr_pl s x1 (hr_tm s x1 x2 t) = 3 * x1 + hr_ct s x1 u := by
      unfold hr_pl
      rw [b1, if_neg (by omega), show ((u : Int)).toNat = u by omega]
    have nu := hr_ct_nn s x1 u
    have mu := hr_ct_mono s x1 (show u ≤ (s 9).toNat by omega)
    have mv := hr_ct_mono s x1 (show u + 1 ≤ t by omega)
    have eu : hr_ct s x1 (u + 1) = hr_ct s x1 u + (if s (1840 + 484 * u) = x1 then 1 else 0) := rfl
    rw [if_pos b3] at eu
    have hTu := hT.2.2 u (by omega)
    unfold hr_T1 at hTu
    rw [b3] at hTu
    have du : τ 9 (hr_pl s x1 (hr_tm s x1 x2 t)) = s (1840 + 484 * hr_tm s x1 x2 t + 1) := by rw [hp, b1]; exact hTu.2.1.1
    refine ⟨fun z3 => by omega, fun z3 => ⟨by omega, ?_⟩⟩
    rw [du]
    exact ⟨fun z4 => NO (fun w => by have := w.2; omega), fun z4 => YES (by omega) (Or.inr (by omega))⟩
theorem c_slotOf {d : Nat} {σ : hh_S} {s : Int → Int} {e : Int} {Q : Int → hh_S → Prop} (h : hr_N σ s) (he : 0 ≤ e ∧ e < s 7) (hq : Q (hr_pl s (s (50 + 20 * s (250 + 12 * e + 1) + 1)) (hr_tm s (s (50 + 20 * s (250 + 12 * e + 1) + 1)) (s (250 + 12 * e + 2)) (s 9).toNat)) σ) : hh_Sp (d + 2) hm_X10_slotOf [hh_R 112, hh_I e] σ Q := by
  obtain ⟨hU, hP, hC, hM, hE, hD, hB, hK, hT⟩ := h
  have e1 := hE.1
  have m1 := hM.1
  have c1 := hC.1
  obtain ⟨⟨v1, v2, v3, v4, v5, v6, v7⟩, v8, v10⟩ := hE.2 e he.1 he.2
  have hm := (hM.2 _ v2.2.1 v2.2.2).1.2.1
  refine wp_X10_slotOf _ (fun _ _ => ?_)
  unfold P_X10_slotOf
  rw [v2.1, v3.1, hm.1]
  exact ⟨by omega, c_slotOn hT (by omega) (by omega) hq⟩
set_option maxHeartbeats 2000000 in
theorem c_termOf {d : Nat} {σ π : hh_S} {s : Int → Int} {e : Int} {Q : Int → hh_S → Prop} (hs : σ 129 = s) (h : hr_N π s) (he : 0 ≤ e ∧ e < s 7) (hq : Q (hr_tm s (s (50 + 20 * s (250 + 12 * e + 1) + 1)) (s (250 + 12 * e + 2)) (s 9).toNat) σ) : hh_Sp (d + 1) hm_X12_termOf [hh_R 128, hh_I e] σ Q := by
  obtain ⟨hU, hP, hC, hM, hE, hD, hB, hK, hT⟩ := h
  have e1 := hE.1
  have m1 := hM.1
  have t1 := hT.1
  have v2 := (hE.2 e he.1 he.2).1.2.1
  refine wp_X12_termOf _ (fun _ _ => ?_)
  unfold P_X12_termOf
  rw [hs]
  refine ⟨by omega, ?_⟩
  obtain ⟨c, hc⟩ : ∃ c : Int, c = s (50 + 20 * s (250 + 12 * e + 1) + 1) := ⟨_, rfl⟩
  obtain ⟨day, hd⟩ : ∃ c : Int, c = s (250 + 12 * e + 2) := ⟨_, rfl⟩
  rw [← hc, ← hd] at hq
  rw [← hc]
  refine hh_lp4_of (fun n x1 x2 x3 x4 τ => τ = σ ∧ (x1 = e ∧ x2 = c) ∧ ∃ t : Nat, x4 = t ∧ (t : Int) ≤ s 9 ∧ s 9 - t ≤ n ∧ x3 = hr_tm s c day t) ?_ 15 e c (-1) 0 σ ⟨rfl, ⟨rfl, rfl⟩, 0, rfl, by omega, by omega, rfl⟩
  rintro n x1 x2 x3 x4 τ kk ⟨rfl, ⟨rfl, rfl⟩, t, rfl, f1, f2, rfl⟩ hk
  unfold B_X12_termOf_34
  rw [hs, ← hd]
  refine ⟨fun z => by rw [show t = (s 9).toNat by omega]; exact hq, fun z => ⟨by omega, ?_⟩⟩
  have bt := hr_tm_b s x2 day t
  have bt' : -1 ≤ hr_tm s x2 day t ∧ hr_tm s x2 day t < t := by
    rcases bt with b | ⟨u, b1, b2, b3⟩ <;> omega
  have estep : hr_tm s x2 day (t + 1) = if s (1840 + 484 * t) = x2 ∧ s (1840 + 484 * t + 1) ≤ day ∧ (hr_tm s x2 day t = -1 ∨ s (1840 + 484 * hr_tm s x2 day t + 1) ≤ s (1840 + 484 * t + 1)) then (t : Int) else hr_tm s x2 day t := rfl
  have NX : ∀ y : Int, y = hr_tm s x2 day (t + 1) → B_X12_termOf_132 d Q kk x1 x2 y t τ := by
    intro y hy
    unfold B_X12_termOf_132
    exact ⟨by omega, hk (n - 1) _ _ _ _ _ (by omega) ⟨rfl, ⟨rfl, rfl⟩, t + 1, by omega, by omega, by omega, hy⟩⟩
  have NO : ¬ (s (1840 + 484 * t) = x2 ∧ s (1840 + 484 * t + 1) ≤ day ∧ (hr_tm s x2 day t = -1 ∨ s (1840 + 484 * hr_tm s x2 day t + 1) ≤ s (1840 + 484 * t + 1))) → B_X12_termOf_132 d Q kk x1 x2 (hr_tm s x2 day t) t τ := fun w => NX _ (by rw [estep, if_neg w])
  unfold B_X12_termOf_129
  refine ⟨fun z1 => NO (fun w => z1 w.1), fun z1 => ⟨by omega, fun z2 => NO (fun w => by have := w.2.1; omega), fun z2 => ⟨fun z3 => NX _ (by rw [estep, if_pos ⟨z1, by omega, Or.inl z3⟩]), fun z3 => ⟨by omega, fun z4 => NO (fun w => by have := w.2.2; omega), fun z4 => NX _ (by rw [estep, if_pos ⟨z1, by omega, Or.inr (by omega)⟩])⟩⟩⟩⟩
/-- what terms give for entry e, as known on day k: parts (0), rate (1) -/
def hr_vt (s : Int → Int) (e k w t : Int) : Int := if t = -1 then (if w = 0 then s (250 + 12 * e + 4) else s (20 + 3 * s (250 + 12 * e) + 1)) else hh_min (hh_max (hr_ev (fun i => hr_cd (s (1840 + 484 * t + 2 + 241 * w + 1 + 2 * i)) (s (1840 + 484 * t + 2 + 241 * w + 2 + 2 * i))) (hr_nm s e k) (s (1840 + 484 * t + 2 + 241 * w))) 0) (if w = 0 then 240 else 9999)
def hr_val (s : Int → Int) (e k w : Int) : Int := hr_vt s e k w (hr_tm s (s (50 + 20 * s (250 + 12 * e + 1) + 1)) (s (250 + 12 * e + 2)) (s 9).toNat)
theorem hr_mx {x m : Int} (hm : 0 ≤ m) : hh_max 0 (hh_min m x) = hh_min (hh_max x 0) m := by
  unfold hh_max hh_min
  repeat' split
  all_goals omega
theorem hr_vt_b {σ : hh_S} {s : Int → Int} {e k w t : Int} (h : hr_N σ s) (he : 0 ≤ e ∧ e < s 7) : 0 ≤ hr_vt s e k w t ∧ hr_vt s e k w t ≤ if w = 0 then 240 else 9999 := by
  obtain ⟨hU, hP, hC, hM, hE, hD, hB, hK, hT⟩ := h
  obtain ⟨⟨v1, v2, v3, v4, v5, v6, v7⟩, v8, v10⟩ := hE.2 e he.1 he.2
  have hp := (hP.2 _ v1.2.1 v1.2.2).2.2.1
  unfold hr_vt
  split
  · split <;> omega
  · unfold hh_max hh_min
    repeat' split
    all_goals omega
theorem hr_val_b {σ : hh_S} {s : Int → Int} {e k w : Int} (h : hr_N σ s) (he : 0 ≤ e ∧ e < s 7) : 0 ≤ hr_val s e k w ∧ hr_val s e k w ≤ if w = 0 then 240 else 9999 := hr_vt_b h he
set_option maxHeartbeats 2000000 in
theorem hr_txw {σ : hh_S} {s : Int → Int} {q b w : Int} (h : hr_tx σ s q b) (hw : w = 0 ∨ w = 1) : (∀ i : Int, 0 ≤ i → i < s (b + 241 * w) → hr_wd (hr_cd (s (b + 241 * w + 1 + 2 * i)) (s (b + 241 * w + 2 + 2 * i))) (s (b + 241 * w + 1 + 2 * i)) (s (b + 241 * w + 2 + 2 * i)) ∧ σ 12 (120 * q + (if w = 0 then 0 else s b) + i) = hr_cd (s (b + 241 * w + 1 + 2 * i)) (s (b + 241 * w + 2 + 2 * i))) ∧ hr_wf (fun i => hr_cd (s (b + 241 * w + 1 + 2 * i)) (s (b + 241 * w + 2 + 2 * i))) (s (b + 241 * w)) := by
  obtain ⟨h1, h2, h3, h4, h5⟩ := h
  rcases hw with rfl | rfl
  · rw [if_pos rfl, show b + 241 * 0 = b by omega, show 120 * q + 0 = 120 * q by omega]
    refine ⟨fun i i1 i2 => ⟨by have := h2 i i1 i2; rw [← this.cd]; exact this, (h2 i i1 i2).cd⟩, h4.cg (fun i i1 i2 => (h2 i i1 i2).cd.symm)⟩
  · rw [if_neg (by decide), show b + 241 * 1 = b + 241 by omega]
    refine ⟨fun i i1 i2 => ⟨by have := h3 i i1 i2; rw [← this.cd]; exact this, (h3 i i1 i2).cd⟩, h5.cg (fun i i1 i2 => (h3 i i1 i2).cd.symm)⟩
set_option maxHeartbeats 2000000 in
theorem c_countedOf {d : Nat} {σ : hh_S} {s : Int → Int} {e k : Int} {Q : Int → hh_S → Prop} (h : hr_N σ s) (he : 0 ≤ e ∧ e < s 7) (hq : ∀ ρ : hh_S, (∀ r : Nat, r ≠ 113 → ρ r = σ r) → Q (hr_val s e k 0) ρ) : hh_Sp (d + 5) hm_X10_countedOf [hh_R 112, hh_I e, hh_I k] σ Q := by
  have h' := h
  obtain ⟨hU, hP, hC, hM, hE, hD, hB, hK, hT⟩ := h'
  have e1 := hE.1
  have m1 := hM.1
  have c1 := hC.1
  have t1 := hT.1
  obtain ⟨⟨v1, v2, v3, v4, v5, v6, v7⟩, v8, v10⟩ := hE.2 e he.1 he.2
  have hm := (hM.2 _ v2.2.1 v2.2.2).1.2.1
  refine wp_X10_countedOf _ _ (fun _ _ _ => ?_)
  unfold P_X10_countedOf
  refine c_slotOf h he ?_
  unfold hr_val hr_vt at hq
  rcases hr_tm_b s (s (50 + 20 * s (250 + 12 * e + 1) + 1)) (s (250 + 12 * e + 2)) (s 9).toNat with b | ⟨u, b1, b2, b3⟩
  · rw [b] at hq ⊢
    rw [if_pos rfl, if_pos rfl] at hq
    unfold hr_pl
    rw [if_pos rfl]
    exact ⟨fun z => by omega, fun _ => ⟨by omega, by rw [v5.1]; exact hq σ (fun _ _ => rfl)⟩⟩
  · rw [b1] at hq ⊢
    rw [if_neg (by omega)] at hq
    unfold hr_pl
    rw [if_neg (by omega), show ((u : Int)).toNat = u by omega]
    have hTu := hT.2.2 u (by omega)
    unfold hr_T1 at hTu
    rw [b3] at hTu
    have nu := hr_ct_nn s (s (50 + 20 * s (250 + 12 * e + 1) + 1)) u
    have mu := hr_ct_mono s (s (50 + 20 * s (250 + 12 * e + 1) + 1)) (show u + 1 ≤ (s 9).toNat by omega)
    have eu : hr_ct s (s (50 + 20 * s (250 + 12 * e + 1) + 1)) (u + 1) = hr_ct s (s (50 + 20 * s (250 + 12 * e + 1) + 1)) u + (if s (1840 + 484 * u) = s (50 + 20 * s (250 + 12 * e + 1) + 1) then 1 else 0) := rfl
    rw [if_pos b3] at eu
    have t2 := (hT.2.1 _ hm.2.1 hm.2.2).2
    have tx := hTu.2.2
    have tw := hr_txw tx (w := 0) (Or.inl rfl)
    obtain ⟨q, hqq⟩ : ∃ q : Int, q = 3 * s (50 + 20 * s (250 + 12 * e + 1) + 1) + hr_ct s (s (50 + 20 * s (250 + 12 * e + 1) + 1)) u := ⟨_, rfl⟩
    rw [← hqq] at tx tw ⊢
    have x1 := tx.1
    have e0 : 1840 + 484 * (u : Int) + 2 + 241 * 0 = 1840 + 484 * (u : Int) + 2 := by omega
    rw [e0] at tw hq
    rw [if_pos rfl] at tw hq
    refine ⟨fun _ => ⟨by omega, ?_⟩, fun z => by omega⟩
    refine c_workOut h he (n := s (1840 + 484 * (u : Int) + 2)) (f := fun i => hr_cd (s (1840 + 484 * (u : Int) + 2 + 1 + 2 * i)) (s (1840 + 484 * (u : Int) + 2 + 2 + 2 * i))) (by omega) (by omega) (fun i i1 i2 => ?_) (fun i i1 i2 => (tw.1 i i1 i2).1.b) tw.2 (fun ρ r1 => ?_)
    · rw [← (tw.1 i i1 i2).2, show q * 120 + i = 120 * q + 0 + i by omega]
    · rw [hr_mx (by omega)]
      exact hq ρ r1
set_option maxHeartbeats 2000000 in
theorem c_atOf {d : Nat} {σ : hh_S} {s : Int → Int} {e k : Int} {Q : Int → hh_S → Prop} (h : hr_N σ s) (he : 0 ≤ e ∧ e < s 7) (hq : ∀ ρ : hh_S, (∀ r : Nat, r ≠ 113 → ρ r = σ r) → Q (hr_val s e k 1) ρ) : hh_Sp (d + 5) hm_X10_atOf [hh_R 112, hh_I e, hh_I k] σ Q := by
  have h' := h
  obtain ⟨hU, hP, hC, hM, hE, hD, hB, hK, hT⟩ := h'
  have e1 := hE.1
  have m1 := hM.1
  have c1 := hC.1
  have t1 := hT.1
  have p1 := hP.1
  obtain ⟨⟨v1, v2, v3, v4, v5, v6, v7⟩, v8, v10⟩ := hE.2 e he.1 he.2
  have hm := (hM.2 _ v2.2.1 v2.2.2).1.2.1
  have hp := (hP.2 _ v1.2.1 v1.2.2).1.2.1
  refine wp_X10_atOf _ _ (fun _ _ _ => ?_)
  unfold P_X10_atOf
  refine c_slotOf h he ?_
  unfold hr_val hr_vt at hq
  rcases hr_tm_b s (s (50 + 20 * s (250 + 12 * e + 1) + 1)) (s (250 + 12 * e + 2)) (s 9).toNat with b | ⟨u, b1, b2, b3⟩
  · rw [b] at hq ⊢
    rw [if_pos rfl, if_neg (by decide)] at hq
    unfold hr_pl
    rw [if_pos rfl]
    exact ⟨fun z => by omega, fun _ => ⟨by omega, by rw [v1.1, hp]; exact hq σ (fun _ _ => rfl)⟩⟩
  · rw [b1] at hq ⊢
    rw [if_neg (by omega)] at hq
    unfold hr_pl
    rw [if_neg (by omega), show ((u : Int)).toNat = u by omega]
    have hTu := hT.2.2 u (by omega)
    unfold hr_T1 at hTu
    rw [b3] at hTu
    have nu := hr_ct_nn s (s (50 + 20 * s (250 + 12 * e + 1) + 1)) u
    have mu := hr_ct_mono s (s (50 + 20 * s (250 + 12 * e + 1) + 1)) (show u + 1 ≤ (s 9).toNat by omega)
    have eu : hr_ct s (s (50 + 20 * s (250 + 12 * e + 1) + 1)) (u + 1) = hr_ct s (s (50 + 20 * s (250 + 12 * e + 1) + 1)) u + (if s (1840 + 484 * u) = s (50 + 20 * s (250 + 12 * e + 1) + 1) then 1 else 0) := rfl
    rw [if_pos b3] at eu
    have t2 := (hT.2.1 _ hm.2.1 hm.2.2).2
    have tx := hTu.2.2
    have tw := hr_txw tx (w := 1) (Or.inr rfl)
    obtain ⟨q, hqq⟩ : ∃ q : Int, q = 3 * s (50 + 20 * s (250 + 12 * e + 1) + 1) + hr_ct s (s (50 + 20 * s (250 + 12 * e + 1) + 1)) u := ⟨_, rfl⟩
    rw [← hqq] at tx tw ⊢
    have x1 := tx.1
    have e0 : 1840 + 484 * (u : Int) + 2 + 241 * 1 = 1840 + 484 * (u : Int) + 2 + 241 := by omega
    rw [e0] at tw hq
    rw [if_neg (by decide)] at tw hq
    refine ⟨fun _ => ⟨by omega, ?_⟩, fun z => by omega⟩
    refine c_workOut h he (n := s (1840 + 484 * (u : Int) + 2 + 241)) (f := fun i => hr_cd (s (1840 + 484 * (u : Int) + 2 + 241 + 1 + 2 * i)) (s (1840 + 484 * (u : Int) + 2 + 241 + 2 + 2 * i))) (by omega) (by omega) (fun i i1 i2 => ?_) (fun i i1 i2 => (tw.1 i i1 i2).1.b) tw.2 (fun ρ r1 => ?_)
    · rw [← (tw.1 i i1 i2).2, x1.1, show q * 120 + s (1840 + 484 * (u : Int) + 2) + i = 120 * q + s (1840 + 484 * (u : Int) + 2) + i by omega]
    · rw [hr_mx (by omega)]
      exact hq ρ r1
