/-! making: the constructors (by program) -/
def dl_X12 : List hh_D := .inr (12, [some 1, some 2, none, some 3, some 4, some 5, none, none, none, none, none, none, none, none, none, none, some 6, some 7, none, none, none, some 8, some 9, some 10, some 11, some 12, some 13, some 14, some 15, none, some 16, none, some 17, some 18, some 19]) :: ((((((((((((((((((([] ++ [.inl (0, 9100)]) ++ [.inl (0, 9100)]) ++ [.inl (0, 240)]) ++ [.inl (0, 240)]) ++ [.inl (0, 120)]) ++ [.inl (0, 482)]) ++ [.inl (0, 130)]) ++ [.inl (0, 130)]) ++ [.inl (0, 128)]) ++ [.inl (0, 3)]) ++ [.inl (0, 90)]) ++ [.inl (0, 7)]) ++ [.inl (0, 7)]) ++ [.inl (0, 7)]) ++ [.inl (0, 8)]) ++ [.inl (0, 20)]) ++ [.inl (0, 40)]) ++ [.inl (0, 2)]) ++ [.inl (0, 20)])
def sg_X12 : hh_S := fun r => if r = 1 then hk_rs else if r = 18 then hk_m1 else fun _ => 0
def hk_fl (g : hh_G) (σ : hh_S) (r : Nat) : Nat → List (Option Nat) → List Value
  | _, [] => []
  | k, o :: l => hh_fv g σ r k o :: hk_fl g σ r (k + 1) l
theorem hk_fl_eq {g : hh_G} {σ : hh_S} {r : Nat} : ∀ (l : List (Option Nat)) (n : Nat), l.mapIdx (fun i o => hh_fv g σ r (n + i) o) = hk_fl g σ r n l
  | [], _ => rfl
  | o :: l, n => by
    rw [List.mapIdx_cons]
    show hh_fv g σ r (n + 0) o :: l.mapIdx (fun i o => hh_fv g σ r (n + (i + 1)) o) = hh_fv g σ r n o :: hk_fl g σ r (n + 1) l
    rw [← hk_fl_eq l (n + 1), Nat.add_zero]
    have e : (fun (i : Nat) (o : Option Nat) => hh_fv g σ r (n + (i + 1)) o) = (fun i o => hh_fv g σ r (n + 1 + i) o) := by
      funext i o
      rw [show n + (i + 1) = n + 1 + i by omega]
    rw [e]
theorem hk_en_fl {g : hh_G} {σ : hh_S} {r c : Nat} {l : List (Option Nat)} : hh_en g σ r (.inr (c, l)) = Sum.inr (c, hk_fl g σ r 0 l) := by
  show Sum.inr (c, l.mapIdx (fun k o => hh_fv g σ r k o)) = _
  rw [← hk_fl_eq l 0]
  simp only [Nat.zero_add]
def qq_X12 (h0 : Nat) (a0 : Nat) (a1 : Nat) (a2 : Nat) (a3 : Nat) (a4 : Nat) (a5 : Nat) (a6 : Nat) (a7 : Nat) (a8 : Nat) (a9 : Nat) (a10 : Nat) (a11 : Nat) (a12 : Nat) (a13 : Nat) (a14 : Nat) (a15 : Nat) (a16 : Nat) (a17 : Nat) (a18 : Nat) (k : Nat) : Nat := if k = 0 then h0 else if k = 1 then a0 else if k = 2 then a1 else if k = 3 then a2 else if k = 4 then a3 else if k = 5 then a4 else if k = 6 then a5 else if k = 7 then a6 else if k = 8 then a7 else if k = 9 then a8 else if k = 10 then a9 else if k = 11 then a10 else if k = 12 then a11 else if k = 13 then a12 else if k = 14 then a13 else if k = 15 then a14 else if k = 16 then a15 else if k = 17 then a16 else if k = 18 then a17 else if k = 19 then a18 else 0
set_option maxHeartbeats 4000000 in
theorem mk_X12 (K : hk_G) (h0 : Nat) : hk_Sp K 1 19 19874 hm_X12_init [.ref h0] [(h0, .inr (12, [.null, .null, .int 0, .null, .null, .null, .int 0, .int 0, .int 0, .int 0, .int 0, .int 0, .int 0, .int 0, .int 0, .int 0, .null, .null, .int 0, .int 0, .int 0, .null, .null, .null, .null, .null, .null, .null, .null, .int 0, .null, .int 0, .null, .null, .null]))] (hk_Q K dl_X12 h0 0 sg_X12) := by
  refine wk_X12 K h0 (fun a0 a1 a2 a3 a4 a5 a6 a7 a8 a9 a10 a11 a12 a13 a14 a15 a16 a17 a18  => ?_)
  obtain ⟨q, hq⟩ : ∃ q : Nat → Nat, q = qq_X12 h0 a0 a1 a2 a3 a4 a5 a6 a7 a8 a9 a10 a11 a12 a13 a14 a15 a16 a17 a18 := ⟨_, rfl⟩
  have k0 : q 0 = h0 := by rw [hq]; rfl
  refine ⟨q, k0, by rw [hq]; rfl, ?_⟩
  have k1 : q 1 = a0 := by rw [hq]; rfl
  have e0 : hk_sg K q sg_X12 1 [.inl (0, 9100)] = [(a0, .inl (K.1 0, 9100, .inl (upd (upd (upd (fun _ => 0) (Int32.ofInt 1).toNatClampNeg (Int32.ofInt (120))) (Int32.ofInt 2).toNatClampNeg (Int32.ofInt (8))) (Int32.ofInt 3).toNatClampNeg (Int32.ofInt (30)))))] := by
    refine hk_sg_one k1 ?_
    show Sum.inl (K.1 0, 9100, Sum.inl (fun j : Nat => Int32.ofInt (hk_rs (j : Int)))) = _
    rw [hk_u_rs]
  have k2 : q 2 = a1 := by rw [hq]; rfl
  have e1 : hk_sg K q sg_X12 2 [.inl (0, 9100)] = [(a1, .inl (K.1 0, 9100, .inl (fun _ => 0)))] := hk_sg_one k2 rfl
  have k3 : q 3 = a2 := by rw [hq]; rfl
  have e2 : hk_sg K q sg_X12 3 [.inl (0, 240)] = [(a2, .inl (K.1 0, 240, .inl (fun _ => 0)))] := hk_sg_one k3 rfl
  have k4 : q 4 = a3 := by rw [hq]; rfl
  have e3 : hk_sg K q sg_X12 4 [.inl (0, 240)] = [(a3, .inl (K.1 0, 240, .inl (fun _ => 0)))] := hk_sg_one k4 rfl
  have k5 : q 5 = a4 := by rw [hq]; rfl
  have e4 : hk_sg K q sg_X12 5 [.inl (0, 120)] = [(a4, .inl (K.1 0, 120, .inl (fun _ => 0)))] := hk_sg_one k5 rfl
  have k6 : q 6 = a5 := by rw [hq]; rfl
  have e5 : hk_sg K q sg_X12 6 [.inl (0, 482)] = [(a5, .inl (K.1 0, 482, .inl (fun _ => 0)))] := hk_sg_one k6 rfl
  have k7 : q 7 = a6 := by rw [hq]; rfl
  have e6 : hk_sg K q sg_X12 7 [.inl (0, 130)] = [(a6, .inl (K.1 0, 130, .inl (fun _ => 0)))] := hk_sg_one k7 rfl
  have k8 : q 8 = a7 := by rw [hq]; rfl
  have e7 : hk_sg K q sg_X12 8 [.inl (0, 130)] = [(a7, .inl (K.1 0, 130, .inl (fun _ => 0)))] := hk_sg_one k8 rfl
  have k9 : q 9 = a8 := by rw [hq]; rfl
  have e8 : hk_sg K q sg_X12 9 [.inl (0, 128)] = [(a8, .inl (K.1 0, 128, .inl (fun _ => 0)))] := hk_sg_one k9 rfl
  have k10 : q 10 = a9 := by rw [hq]; rfl
  have e9 : hk_sg K q sg_X12 10 [.inl (0, 3)] = [(a9, .inl (K.1 0, 3, .inl (fun _ => 0)))] := hk_sg_one k10 rfl
  have k11 : q 11 = a10 := by rw [hq]; rfl
  have e10 : hk_sg K q sg_X12 11 [.inl (0, 90)] = [(a10, .inl (K.1 0, 90, .inl (fun _ => 0)))] := hk_sg_one k11 rfl
  have k12 : q 12 = a11 := by rw [hq]; rfl
  have e11 : hk_sg K q sg_X12 12 [.inl (0, 7)] = [(a11, .inl (K.1 0, 7, .inl (fun _ => 0)))] := hk_sg_one k12 rfl
  have k13 : q 13 = a12 := by rw [hq]; rfl
  have e12 : hk_sg K q sg_X12 13 [.inl (0, 7)] = [(a12, .inl (K.1 0, 7, .inl (fun _ => 0)))] := hk_sg_one k13 rfl
  have k14 : q 14 = a13 := by rw [hq]; rfl
  have e13 : hk_sg K q sg_X12 14 [.inl (0, 7)] = [(a13, .inl (K.1 0, 7, .inl (fun _ => 0)))] := hk_sg_one k14 rfl
  have k15 : q 15 = a14 := by rw [hq]; rfl
  have e14 : hk_sg K q sg_X12 15 [.inl (0, 8)] = [(a14, .inl (K.1 0, 8, .inl (fun _ => 0)))] := hk_sg_one k15 rfl
  have k16 : q 16 = a15 := by rw [hq]; rfl
  have e15 : hk_sg K q sg_X12 16 [.inl (0, 20)] = [(a15, .inl (K.1 0, 20, .inl (fun _ => 0)))] := hk_sg_one k16 rfl
  have k17 : q 17 = a16 := by rw [hq]; rfl
  have e16 : hk_sg K q sg_X12 17 [.inl (0, 40)] = [(a16, .inl (K.1 0, 40, .inl (fun _ => 0)))] := hk_sg_one k17 rfl
  have k18 : q 18 = a17 := by rw [hq]; rfl
  have e17 : hk_sg K q sg_X12 18 [.inl (0, 2)] = [(a17, .inl (K.1 0, 2, .inl (upd (upd (fun _ => 0) (Int32.ofInt 0).toNatClampNeg (Int32.ofInt (-1))) (Int32.ofInt 1).toNatClampNeg (Int32.ofInt (-1)))))] := by
    refine hk_sg_one k18 ?_
    show Sum.inl (K.1 0, 2, Sum.inl (fun j : Nat => Int32.ofInt (hk_m1 (j : Int)))) = _
    rw [hk_u_m1]
  have k19 : q 19 = a18 := by rw [hq]; rfl
  have e18 : hk_sg K q sg_X12 19 [.inl (0, 20)] = [(a18, .inl (K.1 0, 20, .inl (fun _ => 0)))] := hk_sg_one k19 rfl
  have c0 := hk_sg_cat (a := []) (wa := []) (r := 1) rfl (r2 := 1) (by decide +kernel) e0
  have c1 := hk_sg_cat c0 (r2 := 2) (by decide +kernel) e1
  have c2 := hk_sg_cat c1 (r2 := 3) (by decide +kernel) e2
  have c3 := hk_sg_cat c2 (r2 := 4) (by decide +kernel) e3
  have c4 := hk_sg_cat c3 (r2 := 5) (by decide +kernel) e4
  have c5 := hk_sg_cat c4 (r2 := 6) (by decide +kernel) e5
  have c6 := hk_sg_cat c5 (r2 := 7) (by decide +kernel) e6
  have c7 := hk_sg_cat c6 (r2 := 8) (by decide +kernel) e7
  have c8 := hk_sg_cat c7 (r2 := 9) (by decide +kernel) e8
  have c9 := hk_sg_cat c8 (r2 := 10) (by decide +kernel) e9
  have c10 := hk_sg_cat c9 (r2 := 11) (by decide +kernel) e10
  have c11 := hk_sg_cat c10 (r2 := 12) (by decide +kernel) e11
  have c12 := hk_sg_cat c11 (r2 := 13) (by decide +kernel) e12
  have c13 := hk_sg_cat c12 (r2 := 14) (by decide +kernel) e13
  have c14 := hk_sg_cat c13 (r2 := 15) (by decide +kernel) e14
  have c15 := hk_sg_cat c14 (r2 := 16) (by decide +kernel) e15
  have c16 := hk_sg_cat c15 (r2 := 17) (by decide +kernel) e16
  have c17 := hk_sg_cat c16 (r2 := 18) (by decide +kernel) e17
  have c18 := hk_sg_cat c17 (r2 := 19) (by decide +kernel) e18
  have hz : Int32.ofInt 0 = (0 : Int32) := rfl
  have hs0 : sg_X12 0 = (fun _ => 0) := rfl
  have eo : hh_en (q, K) sg_X12 0 (.inr (12, [some 1, some 2, none, some 3, some 4, some 5, none, none, none, none, none, none, none, none, none, none, some 6, some 7, none, none, none, some 8, some 9, some 10, some 11, some 12, some 13, some 14, some 15, none, some 16, none, some 17, some 18, some 19])) = Sum.inr (12, [Value.ref (q 1), Value.ref (q 2), Value.int (Int32.ofInt 0), Value.ref (q 3), Value.ref (q 4), Value.ref (q 5), Value.int (Int32.ofInt 0), Value.int (Int32.ofInt 0), Value.int (Int32.ofInt 0), Value.int (Int32.ofInt 0), Value.int (Int32.ofInt 0), Value.int (Int32.ofInt 0), Value.int (Int32.ofInt 0), Value.int (Int32.ofInt 0), Value.int (Int32.ofInt 0), Value.int (Int32.ofInt 0), Value.ref (q 6), Value.ref (q 7), Value.int (Int32.ofInt 0), Value.int (Int32.ofInt 0), Value.int (Int32.ofInt 0), Value.ref (q 8), Value.ref (q 9), Value.ref (q 10), Value.ref (q 11), Value.ref (q 12), Value.ref (q 13), Value.ref (q 14), Value.ref (q 15), Value.int (Int32.ofInt 0), Value.ref (q 16), Value.int (Int32.ofInt 0), Value.ref (q 17), Value.ref (q 18), Value.ref (q 19)]) := by
    rw [hk_en_fl]
    simp only [hk_fl, hh_fv, hs0]
  rw [k1, k2, k3, k4, k5, k6, k7, k8, k9, k10, k11, k12, k13, k14, k15, k16, k17, k18, k19, hz] at eo
  have e9 : hk_sg K q sg_X12 0 dl_X12 = (q 0, hh_en (q, K) sg_X12 0 (.inr (12, [some 1, some 2, none, some 3, some 4, some 5, none, none, none, none, none, none, none, none, none, none, some 6, some 7, none, none, none, some 8, some 9, some 10, some 11, some 12, some 13, some 14, some 15, none, some 16, none, some 17, some 18, some 19]))) :: hk_sg K q sg_X12 1 ((((((((((((((((((([] ++ [.inl (0, 9100)]) ++ [.inl (0, 9100)]) ++ [.inl (0, 240)]) ++ [.inl (0, 240)]) ++ [.inl (0, 120)]) ++ [.inl (0, 482)]) ++ [.inl (0, 130)]) ++ [.inl (0, 130)]) ++ [.inl (0, 128)]) ++ [.inl (0, 3)]) ++ [.inl (0, 90)]) ++ [.inl (0, 7)]) ++ [.inl (0, 7)]) ++ [.inl (0, 7)]) ++ [.inl (0, 8)]) ++ [.inl (0, 20)]) ++ [.inl (0, 40)]) ++ [.inl (0, 2)]) ++ [.inl (0, 20)]) := rfl
  rw [e9, eo, k0, c18]
  simp only [List.nil_append, List.cons_append]
