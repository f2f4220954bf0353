/-! the law: its start -/
theorem hl_known {s : State} {args : Array Value} (hts : ∀ w ∈ hh_tbl, w.before args s = true) : ∃ D : va_G, ∀ (k : Nat) (q : vw_C), vwCl[k]? = some q → u_Kn s q.1 q.2.1 q.2.2 (D.1 k) (D.2 k) := by
  obtain ⟨c0, i0, h0⟩ := u_known (C := RX0) (T := TX0) (N := 8) (n := 8) hts hu_0 (hts _ (hh_in 320 (by decide +kernel) (by decide +kernel)))
  obtain ⟨c1, i1, h1⟩ := u_known (C := RX1) (T := TX1) (N := 7) (n := 7) hts hu_1 (hts _ (hh_in 136 (by decide +kernel) (by decide +kernel)))
  obtain ⟨c2, i2, h2⟩ := u_known (C := RX2) (T := TX2) (N := 6) (n := 6) hts hu_2 (hts _ (hh_in 289 (by decide +kernel) (by decide +kernel)))
  obtain ⟨c3, i3, h3⟩ := u_known (C := RX3) (T := TX3) (N := 12) (n := 12) hts hu_3 (hts _ (hh_in 226 (by decide +kernel) (by decide +kernel)))
  obtain ⟨c4, i4, h4⟩ := u_known (C := RX4) (T := TX4) (N := 9) (n := 9) hts hu_4 (hts _ (hh_in 101 (by decide +kernel) (by decide +kernel)))
  obtain ⟨c5, i5, h5⟩ := u_known (C := RX5) (T := TX5) (N := 11) (n := 11) hts hu_5 (hts _ (hh_in 174 (by decide +kernel) (by decide +kernel)))
  obtain ⟨c6, i6, h6⟩ := u_known (C := RX6) (T := TX6) (N := 4) (n := 4) hts hu_6 (hts _ (hh_in 107 (by decide +kernel) (by decide +kernel)))
  obtain ⟨c7, i7, h7⟩ := u_known (C := RX7) (T := TX7) (N := 7) (n := 7) hts hu_7 (hts _ (hh_in 503 (by decide +kernel) (by decide +kernel)))
  obtain ⟨c8, i8, h8⟩ := u_known (C := RX8) (T := TX8) (N := 12) (n := 12) hts hu_8 (hts _ (hh_in 431 (by decide +kernel) (by decide +kernel)))
  obtain ⟨c9, i9, h9⟩ := u_known (C := RX9) (T := TX9) (N := 4) (n := 4) hts hu_9 (hts _ (hh_in 359 (by decide +kernel) (by decide +kernel)))
  obtain ⟨c10, i10, h10⟩ := u_known (C := RX10) (T := TX10) (N := 5) (n := 5) hts hu_10 (hts _ (hh_in 480 (by decide +kernel) (by decide +kernel)))
  obtain ⟨c11, i11, h11⟩ := u_known (C := RX11) (T := TX11) (N := 13) (n := 13) hts hu_11 (hts _ (hh_in 93 (by decide +kernel) (by decide +kernel)))
  obtain ⟨c12, i12, h12⟩ := u_known (C := RX12) (T := TX12) (N := 35) (n := 35) hts hu_12 (hts _ (hh_in 1223 (by decide +kernel) (by decide +kernel)))
  refine ⟨(fun k => if k = 0 then c0 else if k = 1 then c1 else if k = 2 then c2 else if k = 3 then c3 else if k = 4 then c4 else if k = 5 then c5 else if k = 6 then c6 else if k = 7 then c7 else if k = 8 then c8 else if k = 9 then c9 else if k = 10 then c10 else if k = 11 then c11 else c12, fun k => if k = 0 then i0 else if k = 1 then i1 else if k = 2 then i2 else if k = 3 then i3 else if k = 4 then i4 else if k = 5 then i5 else if k = 6 then i6 else if k = 7 then i7 else if k = 8 then i8 else if k = 9 then i9 else if k = 10 then i10 else if k = 11 then i11 else i12), fun k q hq => ?_⟩
  have hk : k < 13 := (List.getElem?_eq_some_iff.mp hq).1
  rcases (show k = 0 ∨ k = 1 ∨ k = 2 ∨ k = 3 ∨ k = 4 ∨ k = 5 ∨ k = 6 ∨ k = 7 ∨ k = 8 ∨ k = 9 ∨ k = 10 ∨ k = 11 ∨ k = 12 by omega) with z | z | z | z | z | z | z | z | z | z | z | z | z <;> (subst z; cases hq)
  · exact h0
  · exact h1
  · exact h2
  · exact h3
  · exact h4
  · exact h5
  · exact h6
  · exact h7
  · exact h8
  · exact h9
  · exact h10
  · exact h11
  · exact h12
theorem hl_arr {s : State} {args : Array Value} {ty : FieldType} (h : (Cond.arrayClass ty).before args s = true) : ∃ cA : ClassId, ArrOfT s cA ty ∧ s.vm.findClass ("[" ++ ty.toString) = some cA := by
  obtain ⟨cA, kA, comp, h1, h2, h3⟩ := Cond.arrayClass_spec h
  exact ⟨cA, fun n z => ⟨fun k h => (by cases h), kA, h2, comp, h3⟩, h1⟩
theorem hl_nest {s : State} {args : Array Value} (hts : ∀ w ∈ lw_tbl, w.before args s = true) : ∀ q ∈ hh_nx, va_Nw (.methodLinkNest q.1 q.2.1 q.2.2.1 q.2.2.2) s := by
  exact List.forall_mem_cons.mpr ⟨va_Nw.of rfl (hts _ (List.mem_of_getElem? (i := 1015) (by decide +kernel))), List.forall_mem_cons.mpr ⟨va_Nw.of rfl (hts _ (List.mem_of_getElem? (i := 1186) (by decide +kernel))), List.forall_mem_cons.mpr ⟨va_Nw.of rfl (hts _ (List.mem_of_getElem? (i := 607) (by decide +kernel))), List.forall_mem_cons.mpr ⟨va_Nw.of rfl (hts _ (List.mem_of_getElem? (i := 1166) (by decide +kernel))), List.forall_mem_cons.mpr ⟨va_Nw.of rfl (hts _ (List.mem_of_getElem? (i := 1181) (by decide +kernel))), List.forall_mem_cons.mpr ⟨va_Nw.of rfl (hts _ (List.mem_of_getElem? (i := 683) (by decide +kernel))), List.forall_mem_cons.mpr ⟨va_Nw.of rfl (hts _ (List.mem_of_getElem? (i := 1176) (by decide +kernel))), List.forall_mem_cons.mpr ⟨va_Nw.of rfl (hts _ (List.mem_of_getElem? (i := 1192) (by decide +kernel))), List.forall_mem_cons.mpr ⟨va_Nw.of rfl (hts _ (List.mem_of_getElem? (i := 625) (by decide +kernel))), List.forall_mem_cons.mpr ⟨va_Nw.of rfl (hts _ (List.mem_of_getElem? (i := 1171) (by decide +kernel))), List.forall_mem_cons.mpr ⟨va_Nw.of rfl (hts _ (List.mem_of_getElem? (i := 590) (by decide +kernel))), List.forall_mem_cons.mpr ⟨va_Nw.of rfl (hts _ (List.mem_of_getElem? (i := 1161) (by decide +kernel))), List.forall_mem_cons.mpr ⟨va_Nw.of rfl (hts _ (List.mem_of_getElem? (i := 1117) (by decide +kernel))), List.forall_mem_cons.mpr ⟨va_Nw.of rfl (hts _ (List.mem_of_getElem? (i := 1191) (by decide +kernel))), fun _ h => absurd h List.not_mem_nil⟩⟩⟩⟩⟩⟩⟩⟩⟩⟩⟩⟩⟩⟩
theorem hl_nestk {s : State} {args : Array Value} (hts : ∀ w ∈ lw_tbl, w.before args s = true) : ∀ q ∈ hk_nx, va_Nw (.methodLinkNest q.1 q.2.1 q.2.2.1 q.2.2.2) s := by
  exact List.forall_mem_cons.mpr ⟨va_Nw.of rfl (hts _ (List.mem_of_getElem? (i := 102) (by decide +kernel))), List.forall_mem_cons.mpr ⟨va_Nw.of rfl (hts _ (List.mem_of_getElem? (i := 108) (by decide +kernel))), List.forall_mem_cons.mpr ⟨va_Nw.of rfl (hts _ (List.mem_of_getElem? (i := 137) (by decide +kernel))), List.forall_mem_cons.mpr ⟨va_Nw.of rfl (hts _ (List.mem_of_getElem? (i := 175) (by decide +kernel))), List.forall_mem_cons.mpr ⟨va_Nw.of rfl (hts _ (List.mem_of_getElem? (i := 227) (by decide +kernel))), List.forall_mem_cons.mpr ⟨va_Nw.of rfl (hts _ (List.mem_of_getElem? (i := 290) (by decide +kernel))), List.forall_mem_cons.mpr ⟨va_Nw.of rfl (hts _ (List.mem_of_getElem? (i := 321) (by decide +kernel))), List.forall_mem_cons.mpr ⟨va_Nw.of rfl (hts _ (List.mem_of_getElem? (i := 360) (by decide +kernel))), List.forall_mem_cons.mpr ⟨va_Nw.of rfl (hts _ (List.mem_of_getElem? (i := 432) (by decide +kernel))), fun _ h => absurd h List.not_mem_nil⟩⟩⟩⟩⟩⟩⟩⟩⟩
def hl_tm : Nat → Term := fun i => if i = 0 then .string "HourHouse$Tape" 48 else if i = 1 then .string "HourHouse$Tape" 60 else .string "HourHouse$Tape" 122
set_option maxHeartbeats 4000000 in
theorem hl_strs {s : State} {args : Array Value} {A : Nat → Prop} (hg : (Jvm.Cond.and given_1 narrow_1).before args s = true) (hA : ∀ a : Nat, a < s.heap.size → ¬ A a) : ∃ adK adV : Nat → Nat, vk_S 3 hh_sl hh_sb adK adV A s s.heap ∧ ∀ i : Nat, i < 3 → (hl_tm i).eval args s none [] s = some (.ref (adK i)) := by
  have hs := flat_of_before _ hg
  refine vk_Sof (tm := hl_tm) (fun i hi => ?_) (fun i hi => ?_) (fun i hi => ?_) (fun i hi => ?_) (fun i hi => ?_) (fun i hi j hj => ?_) (fun i j hi hj hij => ?_) hA
  · rcases (show i = 0 ∨ i = 1 ∨ i = 2 by omega) with z | z | z <;> subst z <;> decide
  · rcases (show i = 0 ∨ i = 1 ∨ i = 2 by omega) with z | z | z <;> subst z
    · exact hs (Cond.exactly (Term.string "HourHouse$Tape" 48) "java/lang/String") (by decide +kernel)
    · exact hs (Cond.exactly (Term.string "HourHouse$Tape" 60) "java/lang/String") (by decide +kernel)
    · exact hs (Cond.exactly (Term.string "HourHouse$Tape" 122) "java/lang/String") (by decide +kernel)
  · rcases (show i = 0 ∨ i = 1 ∨ i = 2 by omega) with z | z | z <;> subst z
    · exact hs (Cond.eq (.field (Term.string "HourHouse$Tape" 48) "java/lang/String" "coder" "B") (.int 0)) (by decide +kernel)
    · exact hs (Cond.eq (.field (Term.string "HourHouse$Tape" 60) "java/lang/String" "coder" "B") (.int 0)) (by decide +kernel)
    · exact hs (Cond.eq (.field (Term.string "HourHouse$Tape" 122) "java/lang/String" "coder" "B") (.int 0)) (by decide +kernel)
  · rcases (show i = 0 ∨ i = 1 ∨ i = 2 by omega) with z | z | z <;> subst z
    · exact hs (Cond.arrayOf (.field (Term.string "HourHouse$Tape" 48) "java/lang/String" "value" "[B") .byte) (by decide +kernel)
    · exact hs (Cond.arrayOf (.field (Term.string "HourHouse$Tape" 60) "java/lang/String" "value" "[B") .byte) (by decide +kernel)
    · exact hs (Cond.arrayOf (.field (Term.string "HourHouse$Tape" 122) "java/lang/String" "value" "[B") .byte) (by decide +kernel)
  · rcases (show i = 0 ∨ i = 1 ∨ i = 2 by omega) with z | z | z <;> subst z
    · exact hs (Cond.eq (.length (.field (Term.string "HourHouse$Tape" 48) "java/lang/String" "value" "[B")) (.int 5)) (by decide +kernel)
    · exact hs (Cond.eq (.length (.field (Term.string "HourHouse$Tape" 60) "java/lang/String" "value" "[B")) (.int 4)) (by decide +kernel)
    · exact hs (Cond.eq (.length (.field (Term.string "HourHouse$Tape" 122) "java/lang/String" "value" "[B")) (.int 7)) (by decide +kernel)
  · rcases (show i = 0 ∨ i = 1 ∨ i = 2 by omega) with z | z | z <;> subst z
    · have hj : j < 5 := hj
      rcases (show j = 0 ∨ j = 1 ∨ j = 2 ∨ j = 3 ∨ j = 4 by omega) with z | z | z | z | z <;> subst z
      · exact hs (Cond.eq (.elem (.field (Term.string "HourHouse$Tape" 48) "java/lang/String" "value" "[B") (.int 0)) (.int 112)) (by decide +kernel)
      · exact hs (Cond.eq (.elem (.field (Term.string "HourHouse$Tape" 48) "java/lang/String" "value" "[B") (.int 1)) (.int 97)) (by decide +kernel)
      · exact hs (Cond.eq (.elem (.field (Term.string "HourHouse$Tape" 48) "java/lang/String" "value" "[B") (.int 2)) (.int 114)) (by decide +kernel)
      · exact hs (Cond.eq (.elem (.field (Term.string "HourHouse$Tape" 48) "java/lang/String" "value" "[B") (.int 3)) (.int 116)) (by decide +kernel)
      · exact hs (Cond.eq (.elem (.field (Term.string "HourHouse$Tape" 48) "java/lang/String" "value" "[B") (.int 4)) (.int 115)) (by decide +kernel)
    · have hj : j < 4 := hj
      rcases (show j = 0 ∨ j = 1 ∨ j = 2 ∨ j = 3 by omega) with z | z | z | z <;> subst z
      · exact hs (Cond.eq (.elem (.field (Term.string "HourHouse$Tape" 60) "java/lang/String" "value" "[B") (.int 0)) (.int 114)) (by decide +kernel)
      · exact hs (Cond.eq (.elem (.field (Term.string "HourHouse$Tape" 60) "java/lang/String" "value" "[B") (.int 1)) (.int 97)) (by decide +kernel)
      · exact hs (Cond.eq (.elem (.field (Term.string "HourHouse$Tape" 60) "java/lang/String" "value" "[B") (.int 2)) (.int 116)) (by decide +kernel)
      · exact hs (Cond.eq (.elem (.field (Term.string "HourHouse$Tape" 60) "java/lang/String" "value" "[B") (.int 3)) (.int 101)) (by decide +kernel)
    · have hj : j < 7 := hj
      rcases (show j = 0 ∨ j = 1 ∨ j = 2 ∨ j = 3 ∨ j = 4 ∨ j = 5 ∨ j = 6 by omega) with z | z | z | z | z | z | z <;> subst z
      · exact hs (Cond.eq (.elem (.field (Term.string "HourHouse$Tape" 122) "java/lang/String" "value" "[B") (.int 0)) (.int 110)) (by decide +kernel)
      · exact hs (Cond.eq (.elem (.field (Term.string "HourHouse$Tape" 122) "java/lang/String" "value" "[B") (.int 1)) (.int 114)) (by decide +kernel)
      · exact hs (Cond.eq (.elem (.field (Term.string "HourHouse$Tape" 122) "java/lang/String" "value" "[B") (.int 2)) (.int 107)) (by decide +kernel)
      · exact hs (Cond.eq (.elem (.field (Term.string "HourHouse$Tape" 122) "java/lang/String" "value" "[B") (.int 3)) (.int 99)) (by decide +kernel)
      · exact hs (Cond.eq (.elem (.field (Term.string "HourHouse$Tape" 122) "java/lang/String" "value" "[B") (.int 4)) (.int 103)) (by decide +kernel)
      · exact hs (Cond.eq (.elem (.field (Term.string "HourHouse$Tape" 122) "java/lang/String" "value" "[B") (.int 5)) (.int 119)) (by decide +kernel)
      · exact hs (Cond.eq (.elem (.field (Term.string "HourHouse$Tape" 122) "java/lang/String" "value" "[B") (.int 6)) (.int 109)) (by decide +kernel)
  · rcases (show i = 0 ∨ i = 1 ∨ i = 2 by omega) with z | z | z <;> subst z <;> rcases (show j = 0 ∨ j = 1 ∨ j = 2 by omega) with y | y | y <;> subst y
    · exact absurd rfl hij
    · exact Or.inl (hs (Cond.not (Cond.eq (Term.string "HourHouse$Tape" 48) (Term.string "HourHouse$Tape" 60))) (by decide +kernel))
    · exact Or.inl (hs (Cond.not (Cond.eq (Term.string "HourHouse$Tape" 48) (Term.string "HourHouse$Tape" 122))) (by decide +kernel))
    · exact Or.inr (hs (Cond.not (Cond.eq (Term.string "HourHouse$Tape" 48) (Term.string "HourHouse$Tape" 60))) (by decide +kernel))
    · exact absurd rfl hij
    · exact Or.inr (hs (Cond.not (Cond.eq (Term.string "HourHouse$Tape" 122) (Term.string "HourHouse$Tape" 60))) (by decide +kernel))
    · exact Or.inr (hs (Cond.not (Cond.eq (Term.string "HourHouse$Tape" 48) (Term.string "HourHouse$Tape" 122))) (by decide +kernel))
    · exact Or.inl (hs (Cond.not (Cond.eq (Term.string "HourHouse$Tape" 122) (Term.string "HourHouse$Tape" 60))) (by decide +kernel))
    · exact absurd rfl hij
theorem kn_L_7 : hk_N "HourHouseLaw" 7 11 13 [.null, .null, .int 0, .null, .null, .null, .null, .int 0, .null, .null, .null, .null, .null] := ⟨RX11, TX11, tyX11, rfl, hu_11, tyX11_ok, hh_in 92 (by decide +kernel) (by decide +kernel), hh_in 93 (by decide +kernel) (by decide +kernel), hh_in 70 (by decide +kernel) (by decide +kernel), fun j hj => by rcases (show j = 0 ∨ j = 1 ∨ j = 2 ∨ j = 3 ∨ j = 4 ∨ j = 5 ∨ j = 6 ∨ j = 7 ∨ j = 8 ∨ j = 9 ∨ j = 10 ∨ j = 11 ∨ j = 12 by omega) with rfl | rfl | rfl | rfl | rfl | rfl | rfl | rfl | rfl | rfl | rfl | rfl | rfl <;> rfl⟩
theorem kn_L_10 : hk_N "HourHouseLaw" 10 12 35 [.null, .null, .int 0, .null, .null, .null, .int 0, .int 0, .int 0, .int 0, .int 0, .int 0, .int 0, .int 0, .int 0, .int 0, .null, .null, .int 0, .int 0, .int 0, .null, .null, .null, .null, .null, .null, .null, .null, .int 0, .null, .int 0, .null, .null, .null] := ⟨RX12, TX12, tyX12, rfl, hu_12, tyX12_ok, hh_in 1222 (by decide +kernel) (by decide +kernel), hh_in 1223 (by decide +kernel) (by decide +kernel), hh_in 82 (by decide +kernel) (by decide +kernel), fun j hj => by rcases (show j = 0 ∨ j = 1 ∨ j = 2 ∨ j = 3 ∨ j = 4 ∨ j = 5 ∨ j = 6 ∨ j = 7 ∨ j = 8 ∨ j = 9 ∨ j = 10 ∨ j = 11 ∨ j = 12 ∨ j = 13 ∨ j = 14 ∨ j = 15 ∨ j = 16 ∨ j = 17 ∨ j = 18 ∨ j = 19 ∨ j = 20 ∨ j = 21 ∨ j = 22 ∨ j = 23 ∨ j = 24 ∨ j = 25 ∨ j = 26 ∨ j = 27 ∨ j = 28 ∨ j = 29 ∨ j = 30 ∨ j = 31 ∨ j = 32 ∨ j = 33 ∨ j = 34 by omega) with rfl | rfl | rfl | rfl | rfl | rfl | rfl | rfl | rfl | rfl | rfl | rfl | rfl | rfl | rfl | rfl | rfl | rfl | rfl | rfl | rfl | rfl | rfl | rfl | rfl | rfl | rfl | rfl | rfl | rfl | rfl | rfl | rfl | rfl | rfl <;> rfl⟩
theorem lkI_9 : Cond.methodLink "HourHouseLaw" 9 yX11_init ∈ hh_tbl := hh_in 94 (by decide +kernel) (by decide +kernel)
theorem lkI_12 : Cond.methodLink "HourHouseLaw" 12 yX12_init ∈ hh_tbl := hh_in 1224 (by decide +kernel) (by decide +kernel)
theorem hl_sr48 : Cond.stringRef "HourHouse$Tape" 48 "parts" ∈ lw_tbl := List.mem_of_getElem? (i := 830) (by decide +kernel)
theorem hl_sr60 : Cond.stringRef "HourHouse$Tape" 60 "rate" ∈ lw_tbl := List.mem_of_getElem? (i := 988) (by decide +kernel)
theorem hl_sr122 : Cond.stringRef "HourHouse$Tape" 122 "nrkcgwm" ∈ lw_tbl := List.mem_of_getElem? (i := 923) (by decide +kernel)
theorem hl_ls1 : Cond.laysStatic "java/lang/String" "COMPACT_STRINGS" "Z" ∈ lw_tbl := List.mem_of_getElem? (i := 848) (by decide +kernel)
theorem hl_ls2 : Cond.laysStatic "jdk/internal/util/Preconditions" "SIOOBE_FORMATTER" "Ljava/util/function/BiFunction;" ∈ lw_tbl := List.mem_of_getElem? (i := 864) (by decide +kernel)
theorem hl_in1 : Cond.initialized "java/lang/String" ∈ hh_tbl := hh_in 86 (by decide +kernel) (by decide +kernel)
theorem hl_in2 : Cond.initialized "jdk/internal/util/Preconditions" ∈ hh_tbl := hh_in 88 (by decide +kernel) (by decide +kernel)
theorem hl_ac0 : Cond.arrayClass .int ∈ hh_tbl := hh_in 134 (by decide +kernel) (by decide +kernel)
theorem hl_ac1 : Cond.arrayClass .byte ∈ hh_tbl := hh_in 478 (by decide +kernel) (by decide +kernel)
theorem hl_ac2 : Cond.arrayClass .short ∈ hh_tbl := hh_in 572 (by decide +kernel) (by decide +kernel)
theorem hl_ac3 : Cond.arrayClass .boolean ∈ hh_tbl := hh_in 531 (by decide +kernel) (by decide +kernel)
theorem hl_dl : hh_dl = dl_X11 ++ dl_X12.map (hk_mp 128 0) := by decide +kernel
theorem hl_dl0 : dl_X11.map (hk_mp 0 0) = dl_X11 := by decide +kernel
