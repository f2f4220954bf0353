/-! terms: the class's reading, its levels -/
def hr_tkc (lv w : Int) : Prop := w = 0 ∨ w / 10 < lv ∨ (lv ≤ 3 ∧ w / 10 = 3)
def hr_dm (lv w : Int) : Prop := lv ≤ 3 ∧ w ≠ 0 ∧ w / 10 = 3
def hr_ko (b : Int → Int) (N lv md : Int) (S : List Int) (f k s e : Int) (o : hr_wl) (ty : Int) (R : hr_rs) : Prop := (f ≠ -1000000005 → R = .inl f) ∧ (f = -1000000005 → (hr_dm lv (hr_wk k (b s)) → R = .inl s) ∧ (¬ hr_dm lv (hr_wk k (b s)) → hr_Rn b N R md S k s e o ty))
def hr_ki (b : Int → Int) (N : Int) (S : List Int) (f k s e : Int) (o : hr_wl) (ty : Int) (R : hr_rs) : Prop := (f ≠ -1000000005 → R = .inl f) ∧ (f = -1000000005 → hr_Rn b N R 0 S k s e o ty)
def hr_pg (b : Int → Int) (N lv md : Int) (S : List Int) (f k s e : Int) (o : hr_wl) (ty f' k' s' e' : Int) (o' : hr_wl) (ty' : Int) : Prop := (f' = -1000000005 → f = -1000000005 ∧ hr_ld o' = hr_ld o + 1 ∧ s < s' ∧ hr_tkc lv (hr_wk k' (b s'))) ∧ ∀ R : hr_rs, hr_ko b N lv md S f' k' s' e' o' ty' R → hr_ki b N S f k s e o ty R
def hr_Ct (π : hh_S) (b : Int → Int) (N o0 : Int) (d : Nat) (hm : hh_M) (lv md : Int) : Prop := ∀ (σ : hh_S) (S : List Int) (f k s e : Int) (o : hr_wl) (ty : Int) (Q : Int → hh_S → Prop), (7 * (8 - hr_c1 S) + (8 - hr_c3 S) + 14 - lv ≤ (d : Int) ∧ hr_c1 S ≤ 8 ∧ hr_c3 S ≤ 8) → (lv ≤ 5 → hr_tp S < 10 * lv ∧ hr_tp S ≠ 3) → hr_cst π b N o0 σ S f k s e o ty → (∀ (ρ : hh_S) (f' k' s' e' : Int) (o' : hr_wl) (ty' : Int), hr_cst π b N o0 ρ S f' k' s' e' o' ty' → hr_pg b N lv md S f k s e o ty f' k' s' e' o' ty' → Q 0 ρ) → hh_Sp d hm [hh_R 109] σ Q
/-- the levels -/
def hr_L (lv lvO mdO : Int) : Prop := (lv = 5 ∧ lvO = 6 ∧ mdO = 1) ∨ (lv = 4 ∧ lvO = 5 ∧ mdO = 2) ∨ (lv = 3 ∧ lvO = 4 ∧ mdO = 2) ∨ (lv = 2 ∧ lvO = 3 ∧ mdO = 2) ∨ (lv = 1 ∧ lvO = 2 ∧ mdO = 2)
section hr_lvl
variable {π : hh_S} {b : Int → Int} {N o0 : Int}
theorem hr_live.ok {σ : hh_S} {S : List Int} {k s e : Int} {o : hr_wl} {ty : Int} (h : hr_live b N o0 σ S k s e o ty) : hr_ok S s o ty := by
  obtain ⟨-, -, g3, g4, -⟩ := h
  exact ⟨by omega, g4.2⟩
theorem hr_bod1 {d : Nat} {hmO : hh_M} {lvO mdO : Int} (ht : hr_tb π b N) (hO : hr_Ct π b N o0 (d + 3) hmO lvO mdO) {σ : hh_S} {S : List Int} {k s e : Int} {o : hr_wl} {ty w : Int} (h : hr_cst π b N o0 σ S (-1000000005) k s e o ty) (k3 : k = 3) (hw : hr_sg (b s) = w) (w0 : w ≠ 0) (np : ¬ hr_pb S w) (nc : ¬ (w / 10 = 3 ∧ hr_tp S / 10 = 3)) (wl : lvO ≤ 5 → w < 10 * lvO) (hd : 7 * (8 - hr_c1 S) + (8 - hr_c3 S) + 14 - lvO ≤ ((d + 3 : Nat) : Int) ∧ hr_c1 S ≤ 8 ∧ hr_c3 S ≤ 8) {G : Int → hh_S → Prop} (hG : ∀ (ρ : hh_S) (f' k' s' e' : Int) (o' : hr_wl) (ty' : Int), hr_cst π b N o0 ρ (w :: S) f' k' s' e' o' ty' → (f' = -1000000005 → hr_ld o' = hr_ld o + 1 ∧ s < s' ∧ hr_tkc lvO (hr_wk k' (b s'))) → (∀ R : hr_rs, hr_ko b N lvO mdO (w :: S) f' k' s' e' o' ty' R → hr_Rn b N R 2 S k s e o ty) → G 0 ρ) : hh_Sp (d + 3) hm_X8_readNext [hh_R 109] σ (fun _ σ1 => hh_Sp (d + 3) hmO [hh_R 109] σ1 G) := by
  have tb := h.tb ht
  have hN := ht.1
  have wr := hr_sg_op (b s) (by rw [hw]; exact w0)
  rw [hw] at wr
  have ok := (h.2.2.2.2 rfl).ok
  obtain ⟨⟨g1, g1b, g1c⟩, g2, g3, g4, g5, g6⟩ := h.2.2.2.2 rfl
  unfold hr_ckr at g1c
  have t1 := g2.1
  have t3 := g2.2.2.2.1 (by omega)
  have t4 := g2.2.2.2.2.1 k3
  have es : ((w :: S).length : Int) = S.length + 1 := by rw [List.length_cons]; omega
  have wk : hr_wk k (b s) = w := by rw [k3, hr_wk_3, hw]
  refine c_X8_readNext (k := k) tb (by omega) (by omega) (fun ρ k' s' e' fn nt q7 q8 ck => ?_)
  rw [g1b] at nt
  have n1 := nt.1
  have c := hr_cst.nx (S := w :: S) (o := o) (ty := ty) hN.2.2 h.1 h.2.1.1 (by rw [hr_c1_o (by omega), hr_c3_o (by omega)]; exact h.2.2.1) (by rw [g1b, es]; omega) (by rw [g1b]; omega) g5 g6 (by omega) fn (by rw [g1b]; exact nt) q7 q8 ck
  refine hO ρ (w :: S) (-1000000005) k' s' e' o ty G (by rw [hr_c1_o (by omega), hr_c3_o (by omega)]; exact hd) (fun z => ⟨wl z, by show w ≠ 3; omega⟩) c (fun ρ2 f2 k2 s2 e2 o2 ty2 c2 pg => hG ρ2 f2 k2 s2 e2 o2 ty2 c2 (fun z => ?_) (fun R hR => ?_))
  · have := pg.1 z
    exact ⟨this.2.1, by omega, this.2.2.2⟩
  · have r := (pg.2 R hR).2 rfl
    rw [← wk] at r
    exact hr_Rn.psh ok (by omega) (by rw [wk]; exact np) (by rw [wk]; exact w0) (by rw [wk]; exact nc) nt r
theorem hr_bod2 {d : Nat} {lv lvO mdO : Int} (hN : N ≤ 120) (hL : hr_L lv lvO mdO) {σ : hh_S} {S : List Int} {f k s e : Int} {o : hr_wl} {ty w v : Int} (h : hr_cst π b N o0 σ (w :: S) f k s e o ty) (hw : hr_isop w ∧ hr_op w = v ∧ 10 ≤ w) (hwl : w / 10 = lv) (htc : f = -1000000005 → 2 ≤ hr_ld o ∧ hr_tkc lvO (hr_wk k (b s))) {G : Int → hh_S → Prop} (hG : ∀ ρ : hh_S, hr_cst π b N o0 ρ S f k s e ((w, 0) :: o) ty → hr_ld ((w, 0) :: o) = hr_ld o - 1 → (∀ R : hr_rs, hr_ko b N lv 2 S f k s e ((w, 0) :: o) ty R → hr_ko b N lvO mdO (w :: S) f k s e o ty R) → G 0 ρ) : hh_Sp (d + 1) hm_X8_put [hh_R 109, hh_I v] σ G := by
  have h6 := h.2.2.2.1
  have h5 := h.2.2.1
  rw [hr_c1_o (by omega), hr_c3_o (by omega)] at h5
  refine c_X8_put (by omega) (fun ρ e1 e2 e3 e4 => ?_)
  have ld : hr_ld ((w, 0) :: o) = hr_ld o - 1 := by
    show hr_ld o + (if w = 1 ∨ w = 2 then 1 else if w = 3 then 0 else -1) = _
    rw [if_neg (by omega), if_neg (by omega)]; omega
  refine hG ρ (h.pt hN e1 (fun g g3 _ _ => e2 g g3) (by rw [e2 9 (by omega)]; exact h5.1) (by rw [e2 10 (by omega)]; exact h5.2) e3 (fun z => by rw [e4 z]; exact ⟨rfl, rfl⟩) (fun z => ⟨Or.inr (Or.inr (Or.inr ⟨hw.1, hw.2.1.symm⟩)), fun y => ?_, fun _ _ _ => (htc z).1, (h.2.2.2.2 z).2.2.2.2.2⟩)) ld (fun R hR => ⟨hR.1, fun z => ?_⟩)
  · have : w = 3 := y
    omega
  · obtain ⟨r1, r2⟩ := hR.2 z
    have tc := (htc z).2
    have ok := (h.2.2.2.2 z).ok
    have nd := hr_nd_d (hr_wk k (b s))
    have wr := hr_wk_r k (b s)
    unfold hr_dm at r1 r2 ⊢
    unfold hr_tkc at tc
    unfold hr_L at hL
    generalize hW : hr_wk k (b s) = W at r1 r2 tc nd wr ⊢
    refine ⟨fun y => r1 (by omega), fun y => ?_⟩
    have M2 : hr_Rn b N R 2 (w :: S) k s e o ty := by
      by_cases q : lv ≤ 3 ∧ W ≠ 0 ∧ W / 10 = 3
      · refine hr_Rn.cmp ok ?_ (by rw [hW]; exact q.2.1) ⟨by rw [hW]; exact q.2.2, by show w / 10 = 3; omega⟩ (r1 q)
        rw [hW]
        rintro ⟨y1, y2⟩
        have y3 : hr_nd W ≤ w / 10 := y2
        omega
      · refine hr_Rn.pop ok ?_ (r2 q)
        rw [hW]
        exact ⟨hw.2.2, by show hr_nd W ≤ w / 10; omega⟩
    rcases (show mdO = 1 ∨ mdO = 2 by omega) with q | q
    · rw [q]
      exact hr_Rn.ptd ok (by show w ≠ 3; omega) M2
    · rw [q]; exact M2
theorem hr_rnd {d : Nat} {hmO : hh_M} {lv lvO mdO : Int} (ht : hr_tb π b N) (hO : hr_Ct π b N o0 (d + 3) hmO lvO mdO) (hL : hr_L lv lvO mdO) {σ : hh_S} {S : List Int} {f0 k0 s0 e0 k s e : Int} {o0' o : hr_wl} {ty0 ty w v : Int} (h : hr_cst π b N o0 σ S (-1000000005) k s e o ty) (hl : hr_ld o = hr_ld o0' + 1) (hl0 : 0 ≤ hr_ld o0') (hK : ∀ R : hr_rs, hr_Rn b N R 2 S k s e o ty → hr_ki b N S f0 k0 s0 e0 o0' ty0 R) (k3 : k = 3) (hw : hr_sg (b s) = w) (hwl : w / 10 = lv) (hS : hr_tp S < 10 * lv ∧ hr_tp S ≠ 3) (hv : v = - b s) (hd : 7 * (8 - hr_c1 S) + (8 - hr_c3 S) + 14 - lvO ≤ ((d + 3 : Nat) : Int) ∧ hr_c1 S ≤ 8 ∧ hr_c3 S ≤ 8) {G G2 : Int → hh_S → Prop} (hG : ∀ (ρ : hh_S) (f' k' s' e' : Int) (o' : hr_wl) (ty' : Int), hr_cst π b N o0 ρ S f' k' s' e' o' ty' → (f' = -1000000005 → hr_ld o' = hr_ld o0' + 1 ∧ s < s' ∧ hr_tkc lvO (hr_wk k' (b s'))) → (∀ R : hr_rs, hr_ko b N lv 2 S f' k' s' e' o' ty' R → hr_ki b N S f0 k0 s0 e0 o0' ty0 R) → G 0 ρ) (hG2 : ∀ σ2 : hh_S, hh_Sp (d + 3) hm_X8_put [hh_R 109, hh_I v] σ2 G → G2 0 σ2) : hh_Sp (d + 3) hm_X8_readNext [hh_R 109] σ (fun _ σ1 => hh_Sp (d + 3) hmO [hh_R 109] σ1 G2) := by
  have hN := ht.1
  have hL' := hL
  unfold hr_L at hL'
  have w0 : w ≠ 0 := by omega
  have wr := hr_sg_op (b s) (by rw [hw]; exact w0)
  rw [hw] at wr
  have nd := hr_nd_d w
  refine hr_bod1 ht hO h k3 hw w0 ?_ (by omega) (by omega) hd (fun ρ f1 k1 s1 e1 o1 ty1 c1 p1 K1 => hG2 ρ ?_)
  · rintro ⟨y1, y2⟩
    omega
  · have lw : f1 = -1000000005 → 2 ≤ hr_ld o1 := by
      intro z
      have := (p1 z).1
      omega
    refine hr_bod2 hN.2.2 hL c1 ⟨wr.1, by rw [wr.2.1, hv], wr.2.2.1⟩ hwl (fun z => ⟨lw z, (p1 z).2.2⟩) (fun ρ2 c2 l2 K2 => hG ρ2 f1 k1 s1 e1 _ ty1 c2 (fun z => ?_) (fun R hR => hK R (K1 R (K2 R hR))))
    have := p1 z
    exact ⟨by rw [l2]; omega, this.2.1, this.2.2⟩
theorem hr_ko.lo {lv lvO mdO : Int} (hL : hr_L lv lvO mdO) (h3 : lv ≠ 3) {S : List Int} {f k s e : Int} {o : hr_wl} {ty : Int} {R : hr_rs} (hS : hr_tp S ≠ 3) (ok : f = -1000000005 → hr_ok S s o ty) (h : hr_ko b N lv 2 S f k s e o ty R) : hr_ko b N lvO mdO S f k s e o ty R := by
  refine ⟨h.1, fun z => ?_⟩
  obtain ⟨r1, r2⟩ := h.2 z
  unfold hr_dm at r1 r2 ⊢
  unfold hr_L at hL
  refine ⟨fun y => r1 (by omega), fun y => ?_⟩
  have r := r2 (by omega)
  rcases (show mdO = 1 ∨ mdO = 2 by omega) with q | q
  · rw [q]; exact hr_Rn.ptd (ok z) hS r
  · rw [q]; exact r
/-- the state at the head of a level's loop -/
def hr_lpi (π : hh_S) (b : Int → Int) (N o0 lv lvO : Int) (S : List Int) (f0 k0 s0 e0 : Int) (oo : hr_wl) (ty0 : Int) (n : Nat) (x : Int) (τ : hh_S) : Prop := ∃ (f k s e : Int) (o : hr_wl) (ty : Int), hr_cst π b N o0 τ S f k s e o ty ∧ (f = -1000000005 → f0 = -1000000005 ∧ hr_ld o = hr_ld oo + 1 ∧ 0 ≤ hr_ld oo ∧ s0 < s ∧ x ≤ s ∧ hr_tkc lvO (hr_wk k (b s))) ∧ (∀ R : hr_rs, hr_ko b N lv 2 S f k s e o ty R → hr_ki b N S f0 k0 s0 e0 oo ty0 R) ∧ (n : Int) + x = 122 ∧ 0 ≤ x
theorem hr_lpi.i {lv lvO mdO : Int} (hL : hr_L lv lvO mdO) (h3 : lv ≠ 3) {S : List Int} (hS : hr_tp S ≠ 3) {τ : hh_S} {f0 k0 s0 e0 : Int} {oo : hr_wl} {ty0 f k s e : Int} {o : hr_wl} {ty : Int} (h0 : f0 = -1000000005 → 0 ≤ hr_ld oo) (h : hr_cst π b N o0 τ S f k s e o ty) (pg : hr_pg b N lvO mdO S f0 k0 s0 e0 oo ty0 f k s e o ty) : hr_lpi π b N o0 lv lvO S f0 k0 s0 e0 oo ty0 122 0 τ := by
  refine ⟨f, k, s, e, o, ty, h, fun z => ?_, fun R hR => pg.2 R (hR.lo hL h3 hS (fun z => (h.2.2.2.2 z).ok)), by omega, by omega⟩
  have p := pg.1 z
  have t := (h.2.2.2.2 z).2.1.1
  exact ⟨p.1, p.2.1, h0 p.1, p.2.2.1, by omega, p.2.2.2⟩
/-- leaving a level's loop -/
theorem hr_lpi.x {lv lvO mdO : Int} (hL : hr_L lv lvO mdO) {S : List Int} {f0 k0 s0 e0 : Int} {oo : hr_wl} {ty0 f k s e : Int} {o : hr_wl} {ty x : Int} (p : f = -1000000005 → f0 = -1000000005 ∧ hr_ld o = hr_ld oo + 1 ∧ 0 ≤ hr_ld oo ∧ s0 < s ∧ x ≤ s ∧ hr_tkc lvO (hr_wk k (b s))) (K : ∀ R : hr_rs, hr_ko b N lv 2 S f k s e o ty R → hr_ki b N S f0 k0 s0 e0 oo ty0 R) (hx : f = -1000000005 → hr_wk k (b s) ≠ 0 → hr_wk k (b s) / 10 ≠ lv) : hr_pg b N lv 2 S f0 k0 s0 e0 oo ty0 f k s e o ty := by
  refine ⟨fun z => ?_, K⟩
  obtain ⟨p1, p2, p3, p4, p5, p6⟩ := p z
  have := hx z
  refine ⟨p1, p2, p4, ?_⟩
  unfold hr_tkc at p6 ⊢
  unfold hr_L at hL
  omega
theorem hr_wk_e {k c lv : Int} (h : hr_wk k c ≠ 0) (hl : hr_wk k c / 10 = lv) : k = 3 ∧ ((lv = 5 ∧ (c = 42 ∨ c = 47)) ∨ (lv = 4 ∧ (c = 43 ∨ c = 45)) ∨ (lv = 3 ∧ (c = 60 ∨ c = 61 ∨ c = 62)) ∨ (lv = 2 ∧ c = 38) ∨ (lv = 1 ∧ c = 124)) := by
  rcases hr_wk_d k c with z | ⟨z, y⟩
  · exact absurd z h
  · refine ⟨z, ?_⟩
    rw [y] at h hl
    have d := hr_sg_d c
    omega
theorem C_term {d : Nat} (ht : hr_tb π b N) (hO : hr_Ct π b N o0 (d + 3) hm_X8_readPart 6 1) : hr_Ct π b N o0 (d + 4) hm_X8_readTerm 5 2 := by
  intro σ S f0 k0 s0 e0 oo ty0 Q hd hS h hq
  have hS := hS (by omega)
  have hN := ht.1
  have hL : hr_L 5 6 1 := by unfold hr_L; omega
  refine wp_X8_readTerm (fun _ => hO σ S f0 k0 s0 e0 oo ty0 _ (by omega) (fun z => by omega) h (fun ρ f k s e o ty h1 pg => ?_))
  refine hh_lp1_of (hr_lpi π b N o0 5 6 S f0 k0 s0 e0 oo ty0) ?_ 122 0 ρ (hr_lpi.i hL (by omega) hS.2 (fun z => hr_ld_nn _ (h.2.2.2.2 z).2.2.2.2.2) h1 pg)
  clear h1 pg h
  rintro n x τ kk ⟨f, k, s, e, o, ty, h, p, K, i1, i2⟩ hk
  have tb := h.tb ht
  unfold B_X8_readTerm_6
  have X : (f = -1000000005 → hr_wk k (b s) ≠ 0 → hr_wk k (b s) / 10 ≠ 5) → Q 0 τ := fun z => hq τ f k s e o ty h (hr_lpi.x hL p K z)
  have RB : f = -1000000005 → k = 3 → (b s = 42 ∨ b s = 47) → x < 120 → B_X8_readTerm_30 (d + 3) Q kk x τ := by
    intro z k3 bs xs
    subst z
    obtain ⟨p1, p2, p3, p4, p5, p6⟩ := p rfl
    obtain ⟨⟨g1, g1b, g1c⟩, g2, g3, g4, g5, g6⟩ := h.2.2.2.2 rfl
    have t1 := g2.1
    have t3 := g2.2.2.2.1 (by omega)
    have hb := tb.b (show 0 ≤ s by omega) (show s < N by omega)
    have hsg := hr_sg_d (b s)
    have wk : hr_wk k (b s) = hr_sg (b s) := by rw [k3, hr_wk_3]
    unfold B_X8_readTerm_30
    rw [g1]
    refine ⟨by omega, ?_⟩
    refine hr_rnd ht hO hL h p2 p3 (fun R r => K R ⟨fun z => absurd rfl z, fun _ => ⟨fun y => ?_, fun _ => r⟩⟩) k3 rfl (by omega) hS (by omega) (by omega) (fun ρ2 f2 k2 s2 e2 o2 ty2 c2 q2 K2 => ?_) (fun σ2 z => ⟨by omega, z⟩)
    · unfold hr_dm at y; omega
    · refine ⟨by omega, hk (n - 1) _ _ (by omega) ⟨f2, k2, s2, e2, o2, ty2, c2, fun z => ?_, K2, by omega, by omega⟩⟩
      have := q2 z
      exact ⟨p1, this.1, p3, by omega, by omega, this.2.2⟩
  refine ⟨fun z => X (fun y w1 w2 => ?_), fun z => c_sign ht h (by omega) (fun z1 z2 z3 => ⟨fun _ => RB z1 z2 (Or.inl z3) (by omega), fun y => by omega⟩) (fun z1 => ⟨fun y => by omega, fun _ => c_sign ht h (by omega) (fun z2 z3 z4 => ⟨fun y => by omega, fun _ => RB z2 z3 (Or.inr z4) (by omega)⟩) (fun z2 => ⟨fun _ => X (fun y w1 w2 => ?_), fun y => by omega⟩)⟩)⟩
  · have := hr_wk_e w1 w2
    have p5 := (p y).2.2.2.2.1
    have g2 := (h.2.2.2.2 y).2.1
    have t1 := g2.1
    have t3 := g2.2.2.2.1 (by omega)
    omega
  · have := hr_wk_e w1 w2
    omega
theorem C_sum {d : Nat} (ht : hr_tb π b N) (hO : hr_Ct π b N o0 (d + 3) hm_X8_readTerm 5 2) : hr_Ct π b N o0 (d + 4) hm_X8_readSum 4 2 := by
  intro σ S f0 k0 s0 e0 oo ty0 Q hd hS h hq
  have hS := hS (by omega)
  have hN := ht.1
  have hL : hr_L 4 5 2 := by unfold hr_L; omega
  refine wp_X8_readSum (fun _ => hO σ S f0 k0 s0 e0 oo ty0 _ (by omega) (fun z => by omega) h (fun ρ f k s e o ty h1 pg => ?_))
  refine hh_lp1_of (hr_lpi π b N o0 4 5 S f0 k0 s0 e0 oo ty0) ?_ 122 0 ρ (hr_lpi.i hL (by omega) hS.2 (fun z => hr_ld_nn _ (h.2.2.2.2 z).2.2.2.2.2) h1 pg)
  clear h1 pg h
  rintro n x τ kk ⟨f, k, s, e, o, ty, h, p, K, i1, i2⟩ hk
  have tb := h.tb ht
  unfold B_X8_readSum_6
  have X : (f = -1000000005 → hr_wk k (b s) ≠ 0 → hr_wk k (b s) / 10 ≠ 4) → Q 0 τ := fun z => hq τ f k s e o ty h (hr_lpi.x hL p K z)
  have RB : f = -1000000005 → k = 3 → (b s = 43 ∨ b s = 45) → x < 120 → B_X8_readSum_30 (d + 3) Q kk x τ := by
    intro z k3 bs xs
    subst z
    obtain ⟨p1, p2, p3, p4, p5, p6⟩ := p rfl
    obtain ⟨⟨g1, g1b, g1c⟩, g2, g3, g4, g5, g6⟩ := h.2.2.2.2 rfl
    have t1 := g2.1
    have t3 := g2.2.2.2.1 (by omega)
    have hb := tb.b (show 0 ≤ s by omega) (show s < N by omega)
    have hsg := hr_sg_d (b s)
    have wk : hr_wk k (b s) = hr_sg (b s) := by rw [k3, hr_wk_3]
    unfold B_X8_readSum_30
    rw [g1]
    refine ⟨by omega, ?_⟩
    refine hr_rnd ht hO hL h p2 p3 (fun R r => K R ⟨fun z => absurd rfl z, fun _ => ⟨fun y => ?_, fun _ => r⟩⟩) k3 rfl (by omega) hS (by omega) (by omega) (fun ρ2 f2 k2 s2 e2 o2 ty2 c2 q2 K2 => ?_) (fun σ2 z => ⟨by omega, z⟩)
    · unfold hr_dm at y; omega
    · refine ⟨by omega, hk (n - 1) _ _ (by omega) ⟨f2, k2, s2, e2, o2, ty2, c2, fun z => ?_, K2, by omega, by omega⟩⟩
      have := q2 z
      exact ⟨p1, this.1, p3, by omega, by omega, this.2.2⟩
  refine ⟨fun z => X (fun y w1 w2 => ?_), fun z => c_sign ht h (by omega) (fun z1 z2 z3 => ⟨fun _ => RB z1 z2 (Or.inl z3) (by omega), fun y => by omega⟩) (fun z1 => ⟨fun y => by omega, fun _ => c_sign ht h (by omega) (fun z2 z3 z4 => ⟨fun y => by omega, fun _ => RB z2 z3 (Or.inr z4) (by omega)⟩) (fun z2 => ⟨fun _ => X (fun y w1 w2 => ?_), fun y => by omega⟩)⟩)⟩
  · have := hr_wk_e w1 w2
    have p5 := (p y).2.2.2.2.1
    have g2 := (h.2.2.2.2 y).2.1
    have t1 := g2.1
    have t3 := g2.2.2.2.1 (by omega)
    omega
  · have := hr_wk_e w1 w2
    omega
theorem C_and {d : Nat} (ht : hr_tb π b N) (hO : hr_Ct π b N o0 (d + 3) hm_X8_readTest 3 2) : hr_Ct π b N o0 (d + 4) hm_X8_readAnd 2 2 := by
  intro σ S f0 k0 s0 e0 oo ty0 Q hd hS h hq
  have hS := hS (by omega)
  have hN := ht.1
  have hL : hr_L 2 3 2 := by unfold hr_L; omega
  refine wp_X8_readAnd (fun _ => hO σ S f0 k0 s0 e0 oo ty0 _ (by omega) (fun z => by omega) h (fun ρ f k s e o ty h1 pg => ?_))
  refine hh_lp1_of (hr_lpi π b N o0 2 3 S f0 k0 s0 e0 oo ty0) ?_ 122 0 ρ (hr_lpi.i hL (by omega) hS.2 (fun z => hr_ld_nn _ (h.2.2.2.2 z).2.2.2.2.2) h1 pg)
  clear h1 pg h
  rintro n x τ kk ⟨f, k, s, e, o, ty, h, p, K, i1, i2⟩ hk
  have tb := h.tb ht
  unfold B_X8_readAnd_6
  have X : (f = -1000000005 → hr_wk k (b s) ≠ 0 → hr_wk k (b s) / 10 ≠ 2) → Q 0 τ := fun z => hq τ f k s e o ty h (hr_lpi.x hL p K z)
  refine ⟨fun z => X (fun y w1 w2 => ?_), fun z => c_sign ht h (by omega) (fun z1 k3 bs => ⟨fun y => by omega, fun _ => ?_⟩) (fun z2 => ⟨fun _ => X (fun y w1 w2 => ?_), fun y => by omega⟩)⟩
  · have := hr_wk_e w1 w2
    have p5 := (p y).2.2.2.2.1
    have g2 := (h.2.2.2.2 y).2.1
    have t1 := g2.1
    have t3 := g2.2.2.2.1 (by omega)
    omega
  · subst z1
    obtain ⟨p1, p2, p3, p4, p5, p6⟩ := p rfl
    have hsg := hr_sg_d (b s)
    have wk : hr_wk k (b s) = hr_sg (b s) := by rw [k3, hr_wk_3]
    refine hr_rnd ht hO hL h p2 p3 (fun R r => K R ⟨fun z => absurd rfl z, fun _ => ⟨fun y => ?_, fun _ => r⟩⟩) k3 rfl (by omega) hS (by omega) (by omega) (fun ρ2 f2 k2 s2 e2 o2 ty2 c2 q2 K2 => ?_) (fun σ2 z => z)
    · unfold hr_dm at y; omega
    · refine ⟨by omega, hk (n - 1) _ _ (by omega) ⟨f2, k2, s2, e2, o2, ty2, c2, fun z => ?_, K2, by omega, by omega⟩⟩
      have := q2 z
      exact ⟨p1, this.1, p3, by omega, by omega, this.2.2⟩
  · have := hr_wk_e w1 w2
    omega
theorem C_or {d : Nat} (ht : hr_tb π b N) (hO : hr_Ct π b N o0 (d + 3) hm_X8_readAnd 2 2) : hr_Ct π b N o0 (d + 4) hm_X8_readOr 1 2 := by
  intro σ S f0 k0 s0 e0 oo ty0 Q hd hS h hq
  have hS := hS (by omega)
  have hN := ht.1
  have hL : hr_L 1 2 2 := by unfold hr_L; omega
  refine wp_X8_readOr (fun _ => hO σ S f0 k0 s0 e0 oo ty0 _ (by omega) (fun z => by omega) h (fun ρ f k s e o ty h1 pg => ?_))
  refine hh_lp1_of (hr_lpi π b N o0 1 2 S f0 k0 s0 e0 oo ty0) ?_ 122 0 ρ (hr_lpi.i hL (by omega) hS.2 (fun z => hr_ld_nn _ (h.2.2.2.2 z).2.2.2.2.2) h1 pg)
  clear h1 pg h
  rintro n x τ kk ⟨f, k, s, e, o, ty, h, p, K, i1, i2⟩ hk
  have tb := h.tb ht
  unfold B_X8_readOr_6
  have X : (f = -1000000005 → hr_wk k (b s) ≠ 0 → hr_wk k (b s) / 10 ≠ 1) → Q 0 τ := fun z => hq τ f k s e o ty h (hr_lpi.x hL p K z)
  refine ⟨fun z => X (fun y w1 w2 => ?_), fun z => c_sign ht h (by omega) (fun z1 k3 bs => ⟨fun y => by omega, fun _ => ?_⟩) (fun z2 => ⟨fun _ => X (fun y w1 w2 => ?_), fun y => by omega⟩)⟩
  · have := hr_wk_e w1 w2
    have p5 := (p y).2.2.2.2.1
    have g2 := (h.2.2.2.2 y).2.1
    have t1 := g2.1
    have t3 := g2.2.2.2.1 (by omega)
    omega
  · subst z1
    obtain ⟨p1, p2, p3, p4, p5, p6⟩ := p rfl
    have hsg := hr_sg_d (b s)
    have wk : hr_wk k (b s) = hr_sg (b s) := by rw [k3, hr_wk_3]
    refine hr_rnd ht hO hL h p2 p3 (fun R r => K R ⟨fun z => absurd rfl z, fun _ => ⟨fun y => ?_, fun _ => r⟩⟩) k3 rfl (by omega) hS (by omega) (by omega) (fun ρ2 f2 k2 s2 e2 o2 ty2 c2 q2 K2 => ?_) (fun σ2 z => z)
    · unfold hr_dm at y; omega
    · refine ⟨by omega, hk (n - 1) _ _ (by omega) ⟨f2, k2, s2, e2, o2, ty2, c2, fun z => ?_, K2, by omega, by omega⟩⟩
      have := q2 z
      exact ⟨p1, this.1, p3, by omega, by omega, this.2.2⟩
  · have := hr_wk_e w1 w2
    omega
theorem C_test {d : Nat} (ht : hr_tb π b N) (hO : hr_Ct π b N o0 (d + 3) hm_X8_readSum 4 2) : hr_Ct π b N o0 (d + 4) hm_X8_readTest 3 2 := by
  intro σ S f0 k0 s0 e0 oo ty0 Q hd hS h hq
  have hS := hS (by omega)
  have hN := ht.1
  have hL : hr_L 3 4 2 := by unfold hr_L; omega
  have h0 : f0 = -1000000005 → 0 ≤ hr_ld oo := fun z => hr_ld_nn _ (h.2.2.2.2 z).2.2.2.2.2
  refine wp_X8_readTest (fun _ => hO σ S f0 k0 s0 e0 oo ty0 _ (by omega) (fun z => by omega) h (fun τ f k s e o ty h1 pg => ?_))
  have tb := h1.tb ht
  have RB : f = -1000000005 → k = 3 → (b s = 60 ∨ b s = 61 ∨ b s = 62) → B_X8_readTest_31 (d + 3) Q τ := by
    intro z k3 bs
    subst z
    obtain ⟨p1, p2, p4, p6⟩ := pg.1 rfl
    obtain ⟨⟨g1, g1b, g1c⟩, g2, g3, g4, g5, g6⟩ := h1.2.2.2.2 rfl
    have t1 := g2.1
    have t3 := g2.2.2.2.1 (by omega)
    have hb := tb.b (show 0 ≤ s by omega) (show s < N by omega)
    have hsg := hr_sg_d (b s)
    unfold B_X8_readTest_31
    rw [g1]
    refine ⟨by omega, ?_⟩
    refine hr_rnd ht hO hL h1 p2 (h0 p1) (fun R r => pg.2 R ⟨fun z => absurd rfl z, fun _ => ⟨fun y => ?_, fun _ => r⟩⟩) k3 rfl (by omega) hS (by omega) (by omega) (fun ρ2 f2 k2 s2 e2 o2 ty2 c2 q2 K2 => ?_) (fun σ2 z => ⟨by omega, z⟩)
    · unfold hr_dm at y; omega
    · refine hq ρ2 f2 k2 s2 e2 o2 ty2 c2 ⟨fun z => ?_, K2⟩
      have := q2 z
      refine ⟨p1, this.1, by omega, ?_⟩
      have tc := this.2.2
      unfold hr_tkc at tc ⊢
      omega
  refine c_sign ht h1 (by omega) (fun z1 z2 z3 => ⟨fun _ => RB z1 z2 (by omega), fun y => by omega⟩) (fun z1 => ⟨fun y => by omega, fun _ => c_sign ht h1 (by omega) (fun z2 z3 z4 => ⟨fun _ => RB z2 z3 (by omega), fun y => by omega⟩) (fun z2 => ⟨fun y => by omega, fun _ => c_sign ht h1 (by omega) (fun z4 z5 z6 => ⟨fun y => by omega, fun _ => RB z4 z5 (by omega)⟩) (fun z4 => ⟨fun _ => ?_, fun y => by omega⟩)⟩)⟩)
  have N3 : f = -1000000005 → hr_wk k (b s) = 0 ∨ hr_wk k (b s) / 10 ≠ 3 := by
    intro z
    by_cases q : hr_wk k (b s) = 0
    · exact Or.inl q
    · refine Or.inr (fun q2 => ?_)
      have := hr_wk_e q q2
      omega
  refine hq τ f k s e o ty h1 ⟨fun z => ?_, fun R hR => pg.2 R ⟨hR.1, fun z => ⟨fun y => ?_, fun y => (hR.2 z).2 (fun w => ?_)⟩⟩⟩
  · obtain ⟨p1, p2, p4, p6⟩ := pg.1 z
    refine ⟨p1, p2, p4, ?_⟩
    have := N3 z
    unfold hr_tkc at p6 ⊢
    omega
  · unfold hr_dm at y; omega
  · have := N3 z
    unfold hr_dm at w; omega
end hr_lvl
