/-! making: the constructors (by program) -/
def dl_X11 : List hh_D := .inr (11, [some 1, some 55, none, some 109, some 112, some 117, some 122, none, some 123, some 124, some 125, some 126, some 127]) :: ((((((((((([] ++ dl_X4.map (hk_mp 1 0)) ++ dl_X4.map (hk_mp 55 0)) ++ dl_X8.map (hk_mp 109 0)) ++ dl_X10.map (hk_mp 112 1)) ++ dl_X7.map (hk_mp 117 1)) ++ [.inl (0, 20)]) ++ [.inl (2, 40)]) ++ [.inl (0, 2)]) ++ [.inl (0, 240)]) ++ [.inl (0, 240)]) ++ [.inl (0, 3)])
def sg_X11 : hh_S := fun r => if r = 54 then hk_ru else if r = 108 then hk_ru else if r = 124 then hk_m1 else fun _ => 0
def qq_X11 (h0 : Nat) (q0 : Nat → Nat) (q1 : Nat → Nat) (q2 : Nat → Nat) (q3 : Nat → Nat) (q4 : Nat → Nat) (a5 : Nat) (a6 : Nat) (a7 : Nat) (a8 : Nat) (a9 : Nat) (a10 : Nat) (k : Nat) : Nat := if k = 0 then h0 else if k < 55 then q0 (k - 1) else if k < 109 then q1 (k - 55) else if k < 112 then q2 (k - 109) else if k < 117 then q3 (k - 112) else if k < 122 then q4 (k - 117) else if k = 122 then a5 else if k = 123 then a6 else if k = 124 then a7 else if k = 125 then a8 else if k = 126 then a9 else if k = 127 then a10 else 0
set_option maxHeartbeats 2000000 in
theorem mk_X11 (K : hk_G) (h0 : Nat) : hk_Sp K 3 127 8577 hm_X11_init [.ref h0] [(h0, .inr (11, [.null, .null, .int 0, .null, .null, .null, .null, .int 0, .null, .null, .null, .null, .null]))] (hk_Q K dl_X11 h0 0 sg_X11) := by
  refine wk_X11 K h0 (fun b0 w0 b1 w1 b2 w2 b3 w3 b4 w4 a5 a6 a7 a8 a9 a10 h0 h1 h2 h3 h4 => ?_)
  obtain ⟨q0, h0a, h0b, h0c⟩ := h0
  obtain ⟨q1, h1a, h1b, h1c⟩ := h1
  obtain ⟨q2, h2a, h2b, h2c⟩ := h2
  obtain ⟨q3, h3a, h3b, h3c⟩ := h3
  obtain ⟨q4, h4a, h4b, h4c⟩ := h4
  obtain ⟨q, hq⟩ : ∃ q : Nat → Nat, q = qq_X11 h0 q0 q1 q2 q3 q4 a5 a6 a7 a8 a9 a10 := ⟨_, rfl⟩
  have k0 : q 0 = h0 := by rw [hq]; rfl
  refine ⟨q, k0, by rw [hq]; rfl, ?_⟩
  have k1 : q 1 = b0 := by rw [hq]; exact h0a
  have e0 : hk_sg K q sg_X11 1 (dl_X4.map (hk_mp 1 0)) = w0 := by
    rw [h0c]
    refine hk_sg_sh (off := 1) (B := 54) (E := false) (fun k hk => ?_) (fun k hk => ?_) dl_X4 0 (by decide +kernel) (by decide +kernel) (by decide)
    · rcases hk with hk | hk
      · unfold hk_ph
        rw [if_neg (by omega), hq]
        unfold qq_X11
        rw [if_neg (by omega), if_pos (by omega), show 1 + k - 1 = k by omega]
      · exact absurd hk.2 (by decide)
    · unfold sg_X11 sg_X4
      by_cases z : k = 53
      · subst z; rfl
      · rw [if_neg z, if_neg (by omega), if_neg (by omega), if_neg (by omega)]
  have k55 : q 55 = b1 := by rw [hq]; exact h1a
  have e1 : hk_sg K q sg_X11 55 (dl_X4.map (hk_mp 55 0)) = w1 := by
    rw [h1c]
    refine hk_sg_sh (off := 55) (B := 54) (E := false) (fun k hk => ?_) (fun k hk => ?_) dl_X4 0 (by decide +kernel) (by decide +kernel) (by decide)
    · rcases hk with hk | hk
      · unfold hk_ph
        rw [if_neg (by omega), hq]
        unfold qq_X11
        rw [if_neg (by omega), if_neg (by omega), if_pos (by omega), show 55 + k - 55 = k by omega]
      · exact absurd hk.2 (by decide)
    · unfold sg_X11 sg_X4
      by_cases z : k = 53
      · subst z; rfl
      · rw [if_neg z, if_neg (by omega), if_neg (by omega), if_neg (by omega)]
  have k109 : q 109 = b2 := by rw [hq]; exact h2a
  have e2 : hk_sg K q sg_X11 109 (dl_X8.map (hk_mp 109 0)) = w2 := by
    rw [h2c]
    refine hk_sg_sh (off := 109) (B := 3) (E := false) (fun k hk => ?_) (fun k hk => ?_) dl_X8 0 (by decide +kernel) (by decide +kernel) (by decide)
    · rcases hk with hk | hk
      · unfold hk_ph
        rw [if_neg (by omega), hq]
        unfold qq_X11
        rw [if_neg (by omega), if_neg (by omega), if_neg (by omega), if_pos (by omega), show 109 + k - 109 = k by omega]
      · exact absurd hk.2 (by decide)
    · unfold sg_X11
      rw [if_neg (by omega), if_neg (by omega), if_neg (by omega)]
  have k112 : q 112 = b3 := by rw [hq]; exact h3a
  have e3 : hk_sg K q sg_X11 112 (dl_X10.map (hk_mp 112 1)) = w3 := by
    rw [h3c]
    refine hk_sg_sh (off := 112) (B := 5) (E := true) (fun k hk => ?_) (fun k hk => ?_) dl_X10 0 (by decide +kernel) (by decide +kernel) (by decide)
    · rcases hk with hk | hk
      · unfold hk_ph
        rw [if_neg (by omega), hq]
        unfold qq_X11
        rw [if_neg (by omega), if_neg (by omega), if_neg (by omega), if_neg (by omega), if_pos (by omega), show 112 + k - 112 = k by omega]
      · rw [hk.1, h3b]; exact k1
    · unfold sg_X11
      rw [if_neg (by omega), if_neg (by omega), if_neg (by omega)]
  have k117 : q 117 = b4 := by rw [hq]; exact h4a
  have e4 : hk_sg K q sg_X11 117 (dl_X7.map (hk_mp 117 1)) = w4 := by
    rw [h4c]
    refine hk_sg_sh (off := 117) (B := 5) (E := true) (fun k hk => ?_) (fun k hk => ?_) dl_X7 0 (by decide +kernel) (by decide +kernel) (by decide)
    · rcases hk with hk | hk
      · unfold hk_ph
        rw [if_neg (by omega), hq]
        unfold qq_X11
        rw [if_neg (by omega), if_neg (by omega), if_neg (by omega), if_neg (by omega), if_neg (by omega), if_pos (by omega), show 117 + k - 117 = k by omega]
      · rw [hk.1, h4b]; exact k1
    · unfold sg_X11
      rw [if_neg (by omega), if_neg (by omega), if_neg (by omega)]
  have k122 : q 122 = a5 := by rw [hq]; rfl
  have e5 : hk_sg K q sg_X11 122 [.inl (0, 20)] = [(a5, .inl (K.1 0, 20, .inl (fun _ => 0)))] := hk_sg_one k122 rfl
  have k123 : q 123 = a6 := by rw [hq]; rfl
  have e6 : hk_sg K q sg_X11 123 [.inl (2, 40)] = [(a6, .inl (K.1 2, 40, .inl (fun _ => 0)))] := hk_sg_one k123 rfl
  have k124 : q 124 = a7 := by rw [hq]; rfl
  have e7 : hk_sg K q sg_X11 124 [.inl (0, 2)] = [(a7, .inl (K.1 0, 2, .inl (upd (upd (fun _ => 0) (Int32.ofInt 0).toNatClampNeg (Int32.ofInt (-1))) (Int32.ofInt 1).toNatClampNeg (Int32.ofInt (-1)))))] := by
    refine hk_sg_one k124 ?_
    show Sum.inl (K.1 0, 2, Sum.inl (fun j : Nat => Int32.ofInt (hk_m1 (j : Int)))) = _
    rw [hk_u_m1]
  have k125 : q 125 = a8 := by rw [hq]; rfl
  have e8 : hk_sg K q sg_X11 125 [.inl (0, 240)] = [(a8, .inl (K.1 0, 240, .inl (fun _ => 0)))] := hk_sg_one k125 rfl
  have k126 : q 126 = a9 := by rw [hq]; rfl
  have e9 : hk_sg K q sg_X11 126 [.inl (0, 240)] = [(a9, .inl (K.1 0, 240, .inl (fun _ => 0)))] := hk_sg_one k126 rfl
  have k127 : q 127 = a10 := by rw [hq]; rfl
  have e10 : hk_sg K q sg_X11 127 [.inl (0, 3)] = [(a10, .inl (K.1 0, 3, .inl (fun _ => 0)))] := hk_sg_one k127 rfl
  have c0 := hk_sg_cat (a := []) (wa := []) (r := 1) rfl (r2 := 1) (by decide +kernel) e0
  have c1 := hk_sg_cat c0 (r2 := 55) (by decide +kernel) e1
  have c2 := hk_sg_cat c1 (r2 := 109) (by decide +kernel) e2
  have c3 := hk_sg_cat c2 (r2 := 112) (by decide +kernel) e3
  have c4 := hk_sg_cat c3 (r2 := 117) (by decide +kernel) e4
  have c5 := hk_sg_cat c4 (r2 := 122) (by decide +kernel) e5
  have c6 := hk_sg_cat c5 (r2 := 123) (by decide +kernel) e6
  have c7 := hk_sg_cat c6 (r2 := 124) (by decide +kernel) e7
  have c8 := hk_sg_cat c7 (r2 := 125) (by decide +kernel) e8
  have c9 := hk_sg_cat c8 (r2 := 126) (by decide +kernel) e9
  have c10 := hk_sg_cat c9 (r2 := 127) (by decide +kernel) e10
  have eo : hh_en (q, K) sg_X11 0 (.inr (11, [some 1, some 55, none, some 109, some 112, some 117, some 122, none, some 123, some 124, some 125, some 126, some 127])) = Sum.inr (11, [Value.ref (q 1), Value.ref (q 55), Value.int (Int32.ofInt (sg_X11 0 2)), Value.ref (q 109), Value.ref (q 112), Value.ref (q 117), Value.ref (q 122), Value.int (Int32.ofInt (sg_X11 0 7)), Value.ref (q 123), Value.ref (q 124), Value.ref (q 125), Value.ref (q 126), Value.ref (q 127)]) := rfl
  rw [k1, k55, k109, k112, k117, k122, k123, k124, k125, k126, k127] at eo
  have e9 : hk_sg K q sg_X11 0 dl_X11 = (q 0, hh_en (q, K) sg_X11 0 (.inr (11, [some 1, some 55, none, some 109, some 112, some 117, some 122, none, some 123, some 124, some 125, some 126, some 127]))) :: hk_sg K q sg_X11 1 ((((((((((([] ++ dl_X4.map (hk_mp 1 0)) ++ dl_X4.map (hk_mp 55 0)) ++ dl_X8.map (hk_mp 109 0)) ++ dl_X10.map (hk_mp 112 1)) ++ dl_X7.map (hk_mp 117 1)) ++ [.inl (0, 20)]) ++ [.inl (2, 40)]) ++ [.inl (0, 2)]) ++ [.inl (0, 240)]) ++ [.inl (0, 240)]) ++ [.inl (0, 3)]) := rfl
  rw [e9, eo, k0, c10]
  rfl
