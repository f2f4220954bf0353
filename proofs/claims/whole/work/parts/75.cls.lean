/-! terms: a part, and all levels -/
section hr_prt
variable {π : hh_S} {b : Int → Int} {N o0 : Int}
theorem hr_pg6 {S : List Int} {k s e k' s' e' w v : Int} {o : hr_wl} {ty ty' : Int} (hw : w = 1 ∨ w = 2) (hs : s < s') (hR : ∀ R : hr_rs, hr_Rn b N R 1 S k' s' e' ((w, v) :: o) ty' → hr_Rn b N R 0 S k s e o ty) : hr_pg b N 6 1 S (-1000000005) k s e o ty (-1000000005) k' s' e' ((w, v) :: o) ty' := by
  refine ⟨fun _ => ⟨rfl, ?_, hs, ?_⟩, fun R h => ⟨fun z => absurd rfl z, fun _ => hR R ((h.2 rfl).2 (fun z => ?_))⟩⟩
  · show hr_ld o + (if w = 1 ∨ w = 2 then 1 else if w = 3 then 0 else -1) = _
    rw [if_pos hw]
  · have := hr_wk_r k' (b s')
    unfold hr_tkc
    omega
  · unfold hr_dm at z
    omega
theorem c_brackets {d : Nat} (ht : hr_tb π b N) (hO : hr_Ct π b N o0 (d + 6) hm_X8_readOr 1 2) {σ : hh_S} {S : List Int} {k s e : Int} {o : hr_wl} {ty : Int} {Q : Int → hh_S → Prop} (h : hr_cst π b N o0 σ S (-1000000005) k s e o ty) (k3 : k = 3) (bs : b s = 40) (hc : hr_c1 S < 8) (hd : 7 * (8 - hr_c1 S) + (8 - hr_c3 S) + 14 - 6 ≤ ((d + 8 : Nat) : Int) ∧ hr_c1 S ≤ 8 ∧ hr_c3 S ≤ 8) (hq : ∀ (ρ : hh_S) (f' k' s' e' : Int) (o' : hr_wl) (ty' : Int), hr_cst π b N o0 ρ S f' k' s' e' o' ty' → hr_pg b N 6 1 S (-1000000005) k s e o ty f' k' s' e' o' ty' → Q 0 ρ) : hh_Sp (d + 7) hm_X8_readBrackets [hh_R 109] σ Q := by
  have tb := h.tb ht
  have hN := ht.1
  have ok := (h.2.2.2.2 rfl).ok
  have n1 := hr_c1_nn S
  have n3 := hr_c3_nn S
  obtain ⟨⟨g1, g1b, g1c⟩, g2, g3, g4, g5, g6⟩ := h.2.2.2.2 rfl
  unfold hr_ckr at g1c
  have t1 := g2.1
  have t3 := g2.2.2.2.1 (by omega)
  have es : ((1 :: S).length : Int) = S.length + 1 := by rw [List.length_cons]; omega
  have q9 := h.2.2.1
  refine wp_X8_readBrackets (fun _ => ?_)
  unfold P_X8_readBrackets
  refine ⟨by omega, ?_⟩
  refine hh_name (P := fun τ => hh_Sp (d + 6) hm_X8_readNext [hh_R 109] τ _) (fun τ hτ => ?_)
  have a1 : ∀ r : Nat, r ≠ 109 → τ r = σ r := fun r hr => by rw [hτ, hh_up_ne hr]
  have a2 : ∀ g : Int, g ≠ 9 → τ 109 g = σ 109 g := fun g hg => by rw [hτ, hh_up_off hg]
  have a9 : τ 109 9 = hr_c1 (1 :: S) := by rw [hτ, hh_up_at, hr_c1_1, q9.1]
  clear hτ
  have a8 : τ 109 8 = e := by rw [a2 8 (by omega), g1b]
  refine c_X8_readNext (k := k) (b := b) (N := N) ⟨by rw [a2 1 (by omega)]; exact tb.1, fun j j1 j2 => by rw [a1 110 (by omega)]; exact tb.2 j j1 j2⟩ (by omega) (by rw [a2 6 (by omega)]; omega) (fun ρ1 k1 s1 e1 fn nt p7 p8 ck => ?_)
  have cc := hr_cst.nx (π := π) (o0 := o0) (S := 1 :: S) (o := o) (ty := ty) hN.2.2 ⟨fun r r1 r2 => by rw [a1 r r1]; exact h.1.1 r r1 r2, fun i hi => by rw [a1 111 (by omega)]; exact h.1.2.1 i hi, fun g hg => by rw [a2 g (by omega)]; exact h.1.2.2 g hg⟩ (by rw [a2 11 (by omega)]; exact h.2.1.1) ⟨a9, by rw [a2 10 (by omega), q9.2, hr_c3_o (by omega)]⟩ (by rw [a2 3 (by omega), a8, es]; omega) (by rw [a2 5 (by omega), a8]; omega) (by rw [a1 111 (by omega)]; exact g5) g6 (by omega) fn nt p7 p8 ck
  rw [a8] at nt
  have nt1 := nt.1
  refine hO ρ1 (1 :: S) (-1000000005) k1 s1 e1 o ty _ (by rw [hr_c1_1, hr_c3_o (by omega)]; omega) (fun _ => ⟨by show (1 : Int) < 10 * 1; omega, by show (1 : Int) ≠ 3; omega⟩) cc (fun ρ2 f2 k2 s2 e2 o2 ty2 c2 pg => ?_)
  have r9 := c2.2.2.1
  rw [hr_c1_1, hr_c3_o (by omega)] at r9
  refine ⟨by omega, ?_⟩
  refine hh_name (P := fun τ => hh_Sp (d + 6) hm_X8_isAtSign [hh_R 109, hh_I 41] τ _) (fun τ2 hτ2 => ?_)
  have b1 : ∀ r : Nat, r ≠ 109 → τ2 r = ρ2 r := fun r hr => by rw [hτ2, hh_up_ne hr]
  have b2 : ∀ g : Int, g ≠ 9 → τ2 109 g = ρ2 109 g := fun g hg => by rw [hτ2, hh_up_off hg]
  have b9 : τ2 109 9 = hr_c1 S := by rw [hτ2, hh_up_at, r9.1]; omega
  clear hτ2
  have c3 : hr_cst π b N o0 τ2 S f2 k2 s2 e2 o2 ty2 := by
    obtain ⟨⟨f1, f2', f3⟩, f4, f5, f6, f7⟩ := c2
    refine ⟨⟨fun r r1 r2 => by rw [b1 r r1]; exact f1 r r1 r2, fun i hi => by rw [b1 111 (by omega)]; exact f2' i hi, fun g hg => by rw [b2 g (by omega)]; exact f3 g hg⟩, by rw [b2 11 (by omega)]; exact f4, ⟨b9, by rw [b2 10 (by omega)]; exact r9.2⟩, by rw [b2 3 (by omega), b2 5 (by omega)]; exact f6, fun z => ?_⟩
    obtain ⟨y1, y2, y3, y4, y5, y6⟩ := f7 z
    rw [es] at y3
    exact ⟨by rw [b2 7 (by omega), b2 8 (by omega), b2 6 (by omega)]; exact y1, y2, by rw [b2 3 (by omega)]; omega, by rw [b2 5 (by omega)]; exact y4, by rw [b1 111 (by omega)]; exact y5, y6⟩
  have BRA : ∀ R : hr_rs, hr_ko b N 1 2 (1 :: S) f2 k2 s2 e2 o2 ty2 R → hr_Rn b N R 0 S k s e o ty := fun R hR => hr_Rn.bra ok (by omega) ⟨k3, bs⟩ hc nt ((pg.2 R hR).2 rfl)
  refine c_sign ht c3 (by omega) (fun z1 z2 z3 => ⟨fun y => by omega, fun _ => ?_⟩) (fun z1 => ⟨fun _ => ?_, fun y => by omega⟩)
  · subst z1
    have p := pg.1 rfl
    have tb3 := c3.tb ht
    have ok2 := (c2.2.2.2.2 rfl).ok
    obtain ⟨⟨v1, v1b, v1c⟩, v2, v3, v4, v5, v6⟩ := c3.2.2.2.2 rfl
    unfold hr_ckr at v1c
    have u1 := v2.1
    have u3 := v2.2.2.2.1 (by omega)
    have okl := (c2.2.2.2.2 rfl).2.2.1
    rw [es] at okl
    refine c_X8_readNext (k := k2) tb3 (by omega) (by omega) (fun ρ3 k4 s4 e4 fn4 nt4 p7 p8 ck4 => ?_)
    have cc4 := hr_cst.nx (π := π) (o0 := o0) (S := S) (o := o2) (ty := ty2) hN.2.2 c3.1 c3.2.1.1 c3.2.2.1 (by rw [v1b]; omega) (by rw [v1b]; omega) v5 v6 (by omega) fn4 nt4 p7 p8 ck4
    rw [v1b] at nt4
    have nt5 := nt4.1
    refine hq ρ3 (-1000000005) k4 s4 e4 o2 ty2 cc4 ⟨fun _ => ⟨rfl, p.2.1, by omega, ?_⟩, fun R hR => ⟨fun z => absurd rfl z, fun _ => BRA R ⟨fun z => absurd rfl z, fun _ => ⟨fun z => ?_, fun _ => ?_⟩⟩⟩⟩
    · have := hr_wk_r k4 (b s4)
      unfold hr_tkc
      omega
    · have : hr_wk k2 (b s2) = 0 := by rw [z2, z3]; rfl
      exact absurd this z.2.1
    · refine hr_Rn.ket ok2 ⟨z2, z3⟩ nt4 ((hR.2 rfl).2 (fun z => ?_))
      unfold hr_dm at z
      omega
  · refine c_X8_fail hN.2.2 c3 (fun ρ3 f3 c4 y1 y2 y3 => hq ρ3 f3 k2 s2 e2 o2 ty2 c4 ⟨fun z => absurd z y3, fun R hR => ⟨fun z => absurd rfl z, fun _ => BRA R ?_⟩⟩)
    have Rf := hR.1 y3
    refine ⟨fun z => by rw [Rf, y2 z], fun z => ?_⟩
    have Rs : R = .inl s2 := by rw [Rf, y1 z]
    refine ⟨fun _ => Rs, fun w => ?_⟩
    have tc := (pg.1 z).2.2.2
    unfold hr_tkc at tc
    unfold hr_dm at w
    have wr := hr_wk_r k2 (b s2)
    refine hr_Rn.opn (c2.2.2.2.2 z).ok (by omega) (fun w2 => ?_) Rs
    rcases z1 with q | q | q
    · exact q z
    · exact q w2.1
    · exact q w2.2
theorem C_part {d : Nat} (ht : hr_tb π b N) (hP : hr_Ct π b N o0 (d + 7) hm_X8_readPart 6 1) (hO : hr_Ct π b N o0 (d + 6) hm_X8_readOr 1 2) : hr_Ct π b N o0 (d + 8) hm_X8_readPart 6 1 := by
  intro σ S f k s e o ty Q hd _ h hq
  have tb := h.tb ht
  have hN := ht.1
  have n1 := hr_c1_nn S
  have n3 := hr_c3_nn S
  refine wp_X8_readPart (fun _ => ?_)
  unfold P_X8_readPart
  rw [h.2.1.1]
  refine ⟨fun z => ?_, fun z => hq σ f k s e o ty h ⟨fun y => absurd y z, fun R hR => ⟨hR.1, fun y => absurd y z⟩⟩⟩
  subst z
  have ok := (h.2.2.2.2 rfl).ok
  obtain ⟨⟨g1, g1b, g1c⟩, g2, g3, g4, g5, g6⟩ := h.2.2.2.2 rfl
  have g1c' := g1c
  unfold hr_ckr at g1c'
  have t1 := g2.1
  have t2 := g2.2.1
  have t3 := g2.2.2.2.1
  have q9 := h.2.2.1
  have FAIL : (hr_sA b k s → 8 ≤ hr_c3 S) → (hr_sB b k s → 8 ≤ hr_c1 S) → ¬ hr_sC k s e → ¬ hr_sD b k s e → B_X8_readPart_177 (d + 7) Q σ := by
    intro a1 a2 a3 a4
    unfold B_X8_readPart_177
    refine c_X8_fail hN.2.2 h (fun ρ f' c y1 y2 y3 => hq ρ f' k s e o ty c ⟨fun y => absurd y y3, fun R hR => ⟨fun y => absurd rfl y, fun _ => hr_Rn.wro ok a1 a2 a3 a4 ?_⟩⟩)
    rw [hR.1 y3, y1 rfl]
  have P152 : (hr_sA b k s → 8 ≤ hr_c3 S) → ¬ hr_sC k s e → ¬ hr_sD b k s e → B_X8_readPart_152 (d + 7) Q σ := by
    intro a1 a3 a4
    unfold B_X8_readPart_152
    refine c_sign ht h (by omega) (fun _ k3 bs => ⟨fun y => by omega, fun _ => ⟨fun y => FAIL a1 (fun _ => by omega) a3 a4, fun y => c_brackets ht hO h k3 bs (by omega) hd hq⟩⟩) (fun z => ⟨fun _ => FAIL a1 (fun z2 => ?_) a3 a4, fun y => by omega⟩)
    unfold hr_sB at z2
    omega
  have P97 : ¬ hr_sC k s e → ¬ hr_sD b k s e → B_X8_readPart_97 (d + 7) Q σ := by
    intro a3 a4
    unfold B_X8_readPart_97
    refine c_sign ht h (by omega) (fun _ k3 bs => ⟨fun y => by omega, fun _ => ⟨fun y => P152 (fun _ => by omega) a3 a4, fun y => ⟨by omega, ?_⟩⟩⟩) (fun z => ⟨fun _ => P152 (fun z2 => ?_) a3 a4, fun y => by omega⟩)
    · have t3' := t3 (by omega)
      have es : ((3 :: S).length : Int) = S.length + 1 := by rw [List.length_cons]; omega
      refine hh_name (P := fun τ => hh_Sp (d + 7) hm_X8_readNext [hh_R 109] τ _) (fun τ hτ => ?_)
      have a1 : ∀ r : Nat, r ≠ 109 → τ r = σ r := fun r hr => by rw [hτ, hh_up_ne hr]
      have a2 : ∀ g : Int, g ≠ 10 → τ 109 g = σ 109 g := fun g hg => by rw [hτ, hh_up_off hg]
      have a9 : τ 109 10 = hr_c3 (3 :: S) := by rw [hτ, hh_up_at, hr_c3_3, q9.2]
      clear hτ
      have a8 : τ 109 8 = e := by rw [a2 8 (by omega), g1b]
      refine c_X8_readNext (k := k) (b := b) (N := N) ⟨by rw [a2 1 (by omega)]; exact tb.1, fun j j1 j2 => by rw [a1 110 (by omega)]; exact tb.2 j j1 j2⟩ (by omega) (by rw [a2 6 (by omega)]; omega) (fun ρ1 k1 s1 e1 fn nt p7 p8 ck => ?_)
      have cc := hr_cst.nx (π := π) (o0 := o0) (S := 3 :: S) (o := o) (ty := ty) hN.2.2 ⟨fun r r1 r2 => by rw [a1 r r1]; exact h.1.1 r r1 r2, fun i hi => by rw [a1 111 (by omega)]; exact h.1.2.1 i hi, fun g hg => by rw [a2 g (by omega)]; exact h.1.2.2 g hg⟩ (by rw [a2 11 (by omega)]; exact h.2.1.1) ⟨by rw [a2 9 (by omega), q9.1, hr_c1_o (by omega)], a9⟩ (by rw [a2 3 (by omega), a8, es]; omega) (by rw [a2 5 (by omega), a8]; omega) (by rw [a1 111 (by omega)]; exact g5) g6 (by omega) fn nt p7 p8 ck
      rw [a8] at nt
      have nt1 := nt.1
      refine hP ρ1 (3 :: S) (-1000000005) k1 s1 e1 o ty _ (by rw [hr_c3_3, hr_c1_o (by omega)]; omega) (fun z => by omega) cc (fun ρ2 f2 k2 s2 e2 o2 ty2 c2 pg => ?_)
      have r9 := c2.2.2.1
      rw [hr_c3_3, hr_c1_o (by omega)] at r9
      have r6 := c2.2.2.2.1
      refine ⟨by omega, ?_⟩
      refine c_X8_put (by rw [hh_up_off (by omega)]; omega) (fun ρ3 e1' e2' e3' e4' => ?_)
      rw [hh_up_off (show (3 : Int) ≠ 10 by omega)] at e3' e4'
      rw [hh_up_ne (show (111 : Nat) ≠ 109 by omega)] at e3'
      have c3 := c2.pt (v := -33) (ρ := ρ3) hN.2.2 (fun r r1 r2 => by rw [e1' r r1 r2, hh_up_ne r1]) (fun g w1 w2 w3 => by rw [e2' g w1, hh_up_off w3]) (by rw [e2' 9 (by omega), hh_up_off (by omega), r9.1]) (by rw [e2' 10 (by omega), hh_up_at, r9.2]; omega) e3' (fun z => by rw [e4' z]; exact ⟨hh_up_off (by omega), hh_up_ne (by omega)⟩) (fun z => ⟨Or.inr (Or.inr (Or.inl ⟨rfl, rfl⟩)), fun _ => ?_, fun _ _ w => absurd rfl w, (c2.2.2.2.2 z).2.2.2.2.2⟩)
      · refine hq ρ3 f2 k2 s2 e2 _ ty2 c3 ⟨fun z => ?_, fun R hR => ⟨fun z => absurd rfl z, fun _ => hr_Rn.neg ok (by omega) ⟨k3, bs⟩ (by omega) nt ((pg.2 R ⟨hR.1, fun z => ⟨fun w => ?_, fun _ => hr_Rn.pt3 (c2.2.2.2.2 z).ok ((hR.2 z).2 (fun w => ?_))⟩⟩).2 rfl)⟩⟩
        · have p := pg.1 z
          refine ⟨rfl, ?_, by omega, p.2.2.2⟩
          show hr_ld o2 + (if (3 : Int) = 1 ∨ (3 : Int) = 2 then 1 else if (3 : Int) = 3 then 0 else -1) = _
          rw [if_neg (by omega), if_pos rfl, p.2.1]
          omega
        · unfold hr_dm at w; omega
        · unfold hr_dm at w; omega
      · have p := (pg.1 z).2.1
        have := hr_ld_nn o g6
        omega
    · unfold hr_sA at z2
      omega
  refine ⟨fun z => ⟨fun z2 => P97 ?_ ?_, fun z2 => ?_⟩, fun z => ?_⟩
  · unfold hr_sC; omega
  · unfold hr_sD; omega
  · have k1 : k = 1 := by omega
    have t3' := t3 (by omega)
    rw [g1, g1b]
    refine ⟨by omega, fun y => P97 (by unfold hr_sC; omega) (by unfold hr_sD; omega), fun y => ⟨by omega, ?_⟩⟩
    have bl := g2.2.2.2.2.2.2 k1 s (by omega) (by omega)
    have hb := tb.b (show 0 ≤ s by omega) (show s < N by omega)
    have eb : σ 110 s = b s := by omega
    rw [eb, (hr_i2c (by omega) (by omega)).1]
    refine c_indexOf bl (fun y1 r r0 => ⟨fun w => by omega, fun _ => ?_⟩) (fun y1 => ⟨fun _ => P97 (by unfold hr_sC; omega) (fun w => y1 w.2.2), fun w => by omega⟩)
    rw [g1, eb]
    refine ⟨by omega, ?_⟩
    refine c_emit ht h (Or.inr (Or.inl ⟨rfl, rfl, y1⟩)) (Or.inr rfl) (Or.inl k1) (fun ρ k' s' e' c nt => hq ρ _ k' s' e' _ _ c (hr_pg6 (Or.inr rfl) ?_ (fun R hR => hr_Rn.nam ok ⟨k1, y, y1⟩ nt hR)))
    have := nt.1
    omega
  · have k2 : k = 2 ∧ e - s ≤ 5 := by omega
    have t3' := t3 (by omega)
    refine c_readNumber ht h k2 (fun ρ k' s' e' c nt => hq ρ _ k' s' e' _ _ c (hr_pg6 (Or.inl rfl) ?_ (fun R hR => hr_Rn.num ok k2 nt hR)))
    have := nt.1
    omega
theorem hr_Ct.v {d : Nat} {hm : hh_M} {lv md : Int} (h : lv ≤ 6) (hd : d ≤ 7) : hr_Ct π b N o0 d hm lv md := by
  intro σ S f k s e o ty Q hb
  exfalso
  omega
theorem C_all (ht : hr_tb π b N) (d : Nat) : hr_Ct π b N o0 d hm_X8_readPart 6 1 ∧ hr_Ct π b N o0 d hm_X8_readTerm 5 2 ∧ hr_Ct π b N o0 d hm_X8_readSum 4 2 ∧ hr_Ct π b N o0 d hm_X8_readTest 3 2 ∧ hr_Ct π b N o0 d hm_X8_readAnd 2 2 ∧ hr_Ct π b N o0 d hm_X8_readOr 1 2 := by
  induction d using Nat.strongRecOn with
  | _ d ih =>
    by_cases z : d ≤ 7
    · exact ⟨.v (by omega) z, .v (by omega) z, .v (by omega) z, .v (by omega) z, .v (by omega) z, .v (by omega) z⟩
    · obtain ⟨q, rfl⟩ : ∃ q, d = q + 8 := ⟨d - 8, by omega⟩
      have i7 := ih (q + 7) (by omega)
      have i6 := ih (q + 6) (by omega)
      exact ⟨C_part ht i7.1 i6.2.2.2.2.2, C_term (d := q + 4) ht i7.1, C_sum (d := q + 4) ht i7.2.1, C_test (d := q + 4) ht i7.2.2.1, C_and (d := q + 4) ht i7.2.2.2.1, C_or (d := q + 4) ht i7.2.2.2.2.1⟩
end hr_prt
