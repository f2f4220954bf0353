section hh_rules
variable {d : Nat} {mi : hh_M} {pc : Nat} {ls : List (Option hh_V)} {st : List hh_V} {σ : hh_S} {Q : Int → hh_S → Prop}
theorem hh_ok.push {v : hh_V} (h : hh_ok ls st σ) (hv : hh_cv v) : hh_ok ls (v :: st) σ :=
  ⟨h.1, fun w hw => (List.mem_cons.mp hw).elim (fun e => e ▸ hv) (h.2.1 w), h.2.2⟩
theorem hh_ok.pop {v : hh_V} (h : hh_ok ls (v :: st) σ) : hh_ok ls st σ := ⟨h.1, fun w hw => h.2.1 w (List.mem_cons_of_mem _ hw), h.2.2⟩
theorem hh_ok.top {v : hh_V} (h : hh_ok ls (v :: st) σ) : hh_cv v := h.2.1 v List.mem_cons_self
theorem hh_ok.at {v : hh_V} {i : Nat} (h : hh_ok ls st σ) (hl : ls[i]? = some (some v)) : hh_cv v := h.1 v (List.mem_of_getElem? hl)
theorem hh_ok.sto {σ' : hh_S} (h : hh_ok ls st σ) (hs : hh_cs σ') : hh_ok ls st σ' := ⟨h.1, h.2.1, hs⟩
theorem hh_ok.set {v : hh_V} (h : hh_ok ls st σ) (i : Nat) (hv : hh_cv v) : hh_ok (ls.set i (some v)) st σ :=
  ⟨fun w hw => by
    rcases List.mem_or_eq_of_mem_set hw with q | q
    · exact h.1 w q
    · cases q; exact hv, h.2.1, h.2.2⟩
theorem hh_ok.setn (h : hh_ok ls st σ) (i : Nat) : hh_ok (ls.set i none) st σ :=
  ⟨fun w hw => (by
    rcases List.mem_or_eq_of_mem_set hw with q | q
    · exact h.1 w q
    · cases q), h.2.1, h.2.2⟩
theorem hh_lat {g : hh_G} {A : Array Slot} {n i : Nat} {v : hh_V} (hA : lv_has A n (hh_al g 0 ls)) (hl : ls[i]? = some (some v)) : A[i]? = some (.val (hh_tr g v)) :=
  hA.2.2 (i, hh_tr g v) ((hh_al_mem ls 0).mpr ⟨i, v, hl, by rw [Nat.zero_add]⟩)
/-- no long stands right ahead of a place -/
def hh_nl (ls : List (Option hh_V)) : Nat → Bool
  | 0 => true
  | i + 1 => match ls[i]? with
    | some (some (.inr (.inl _))) => false
    | _ => true
theorem hh_cat (g : hh_G) (v : hh_V) (h : (hh_tr g v).category = 2) : ∃ x, v = hh_L x := by
  rcases v with x | x | r
  · simp [hh_tr, Value.category] at h
  · exact ⟨x, rfl⟩
  · simp [hh_tr, Value.category] at h
theorem hh_has1 {g : hh_G} {A : Array Slot} {n i : Nat} {v : hh_V} (hn : hh_nl ls i = true) (hA : lv_has A n ((i, hh_tr g v) :: (hh_al g 0 ls).filter (fun q => !(q.1 == i) && !(q.1 + 1 == i && q.2.category == 2)))) : lv_has A n (hh_al g 0 (ls.set i (some v))) := by
  refine ⟨hA.1, hA.2.1, fun q hq => ?_⟩
  obtain ⟨j, w, hj, rfl⟩ := (hh_al_mem _ 0).mp hq
  rw [Nat.zero_add]
  rw [List.getElem?_set] at hj
  by_cases e : i = j
  · subst e
    rw [if_pos rfl] at hj
    by_cases hlt : i < ls.length
    · rw [if_pos hlt] at hj
      cases hj
      exact hA.2.2 (i, hh_tr g v) List.mem_cons_self
    · rw [if_neg hlt] at hj; cases hj
  · rw [if_neg e] at hj
    refine hA.2.2 (j, hh_tr g w) (List.mem_cons_of_mem _ (List.mem_filter.mpr ⟨(hh_al_mem ls 0).mpr ⟨j, w, hj, by rw [Nat.zero_add]⟩, ?_⟩))
    have e1 : (j == i) = false := by simpa using fun q => e q.symm
    show (!(j == i) && !(j + 1 == i && (hh_tr g w).category == 2)) = true
    rw [e1]
    by_cases e2 : j + 1 = i
    · subst e2
      have : ¬ (hh_tr g w).category = 2 := by
        intro hc
        obtain ⟨x, rfl⟩ := hh_cat g w hc
        simp [hh_nl, hj] at hn
      simp [this]
    · simp [e2]
theorem hh_has2 {g : hh_G} {A : Array Slot} {n i : Nat} {v : hh_V} (hn : hh_nl ls i = true) (hA : lv_has A n ((i, hh_tr g v) :: (hh_al g 0 ls).filter (fun q => !(q.1 == i) && (!(q.1 == i + 1) && !(q.1 + 1 == i && q.2.category == 2))))) : lv_has A n (hh_al g 0 ((ls.set (i + 1) none).set i (some v))) := by
  refine ⟨hA.1, hA.2.1, fun q hq => ?_⟩
  obtain ⟨j, w, hj, rfl⟩ := (hh_al_mem _ 0).mp hq
  rw [Nat.zero_add]
  rw [List.getElem?_set] at hj
  by_cases e : i = j
  · subst e
    rw [if_pos rfl] at hj
    by_cases hlt : i < (ls.set (i + 1) none).length
    · rw [if_pos hlt] at hj
      cases hj
      exact hA.2.2 (i, hh_tr g v) List.mem_cons_self
    · rw [if_neg hlt] at hj; cases hj
  · rw [if_neg e] at hj
    rw [List.getElem?_set] at hj
    by_cases e3 : i + 1 = j
    · rw [if_pos e3] at hj
      by_cases hlt : i + 1 < ls.length
      · rw [if_pos hlt] at hj; cases hj
      · rw [if_neg hlt] at hj; cases hj
    · rw [if_neg e3] at hj
      refine hA.2.2 (j, hh_tr g w) (List.mem_cons_of_mem _ (List.mem_filter.mpr ⟨(hh_al_mem ls 0).mpr ⟨j, w, hj, by rw [Nat.zero_add]⟩, ?_⟩))
      have e1 : (j == i) = false := by simpa using fun q => e q.symm
      have e4 : (j == i + 1) = false := by simpa using fun q => e3 q.symm
      show (!(j == i) && (!(j == i + 1) && !(j + 1 == i && (hh_tr g w).category == 2))) = true
      rw [e1, e4]
      by_cases e2 : j + 1 = i
      · subst e2
        have : ¬ (hh_tr g w).category = 2 := by
          intro hc
          obtain ⟨x, rfl⟩ := hh_cat g w hc
          simp [hh_nl, hj] at hn
        simp [this]
      · simp [e2]

theorem hh_iconst {n : Int} (hd : decode mi.2.1 pc = .ok (.iconst n, 1)) (hn : hh_can n) (k : hh_J d mi (pc + 1) ls (hh_I n :: st) σ Q) : hh_J d mi pc ls st σ Q := by
  intro l g p e s m args below meth c H locs A hC hk hP hS hA
  obtain ⟨hx, hb, hr, hml, hown, hts, hlk, hF⟩ := id hC
  refine lv_iconst (v := Int32.ofInt n) hx hb hd rfl ?_
  exact k l g p e s m args below meth c H locs A hC (hk.push hn) hP hS hA
theorem hh_bipush {n : Int} (hd : decode mi.2.1 pc = .ok (.bipush n, 2)) (hn : -128 ≤ n ∧ n ≤ 127) (k : hh_J d mi (pc + 2) ls (hh_I n :: st) σ Q) : hh_J d mi pc ls st σ Q := by
  intro l g p e s m args below meth c H locs A hC hk hP hS hA
  obtain ⟨hx, hb, hr, hml, hown, hts, hlk, hF⟩ := id hC
  refine lv_bipush (v := Int32.ofInt n) hx hb hd ?_ ?_
  · rw [← Int32.toInt_inj, Int8.toInt_toInt32, Int8.toInt_ofInt_of_le (by omega) (by omega), hh_toInt n ⟨by omega, by omega⟩]
  · exact k l g p e s m args below meth c H locs A hC (hk.push (show hh_can n from ⟨by omega, by omega⟩)) hP hS hA
theorem hh_sipush {n : Int} (hd : decode mi.2.1 pc = .ok (.sipush n, 3)) (hn : -32768 ≤ n ∧ n ≤ 32767) (k : hh_J d mi (pc + 3) ls (hh_I n :: st) σ Q) : hh_J d mi pc ls st σ Q := by
  intro l g p e s m args below meth c H locs A hC hk hP hS hA
  obtain ⟨hx, hb, hr, hml, hown, hts, hlk, hF⟩ := id hC
  refine lv_sipush (v := Int32.ofInt n) hx hb hd ?_ ?_
  · rw [← Int32.toInt_inj, Int16.toInt_toInt32, Int16.toInt_ofInt_of_le (by omega) (by omega), hh_toInt n ⟨by omega, by omega⟩]
  · exact k l g p e s m args below meth c H locs A hC (hk.push (show hh_can n from ⟨by omega, by omega⟩)) hP hS hA
theorem hh_ldc {n : Int} {index : Nat} (hd : decode mi.2.1 pc = .ok (.ldc index, 2)) (hw : Cond.constant mi.1.cls index (Int32.ofInt n) ∈ hh_tbl) (hn : hh_can n) (k : hh_J d mi (pc + 2) ls (hh_I n :: st) σ Q) : hh_J d mi pc ls st σ Q := by
  intro l g p e s m args below meth c H locs A hC hk hP hS hA
  obtain ⟨hx, hb, hr, hml, hown, hts, hlk, hF⟩ := id hC
  refine lv_ldc (v := Int32.ofInt n) hx hb hown (hts _ hw) hd ?_
  exact k l g p e s m args below meth c H locs A hC (hk.push hn) hP hS hA
theorem hh_ldc_w {n : Int} {index : Nat} (hd : decode mi.2.1 pc = .ok (.ldc_w index, 3)) (hw : Cond.constant mi.1.cls index (Int32.ofInt n) ∈ hh_tbl) (hn : hh_can n) (k : hh_J d mi (pc + 3) ls (hh_I n :: st) σ Q) : hh_J d mi pc ls st σ Q := by
  intro l g p e s m args below meth c H locs A hC hk hP hS hA
  obtain ⟨hx, hb, hr, hml, hown, hts, hlk, hF⟩ := id hC
  intro T hT X
  obtain ⟨t, a1, b1⟩ := k l g p e s m args below meth c H locs A hC (hk.push hn) hP hS hA T hT X
  exact ⟨t, va_ldcwI X hx hown (hts _ hw) (g := F0 m pc A (st.map (hh_tr g))) rfl (by rw [hb]; exact hd) t a1, b1⟩
theorem hh_ldc2 {n : Int} {index : Nat} (hd : decode mi.2.1 pc = .ok (.ldc2_w index, 3)) (hw : Cond.constantLong mi.1.cls index (Int64.ofInt n) ∈ hh_tbl) (hn : hh_caL n) (k : hh_J d mi (pc + 3) ls (hh_L n :: st) σ Q) : hh_J d mi pc ls st σ Q := by
  intro l g p e s m args below meth c H locs A hC hk hP hS hA
  obtain ⟨hx, hb, hr, hml, hown, hts, hlk, hF⟩ := id hC
  refine lv_ldc2 (v := Int64.ofInt n) hx hb hown (hts _ hw) hd ?_
  exact k l g p e s m args below meth c H locs A hC (hk.push hn) hP hS hA
theorem hh_lconst0 (hd : decode mi.2.1 pc = .ok (.lconst 0, 1)) (k : hh_J d mi (pc + 1) ls (hh_L 0 :: st) σ Q) : hh_J d mi pc ls st σ Q := by
  intro l g p e s m args below meth c H locs A hC hk hP hS hA
  obtain ⟨hx, hb, hr, hml, hown, hts, hlk, hF⟩ := id hC
  refine lv_lconst (v := Int64.ofInt 0) hx hb hd rfl ?_
  exact k l g p e s m args below meth c H locs A hC (hk.push (show hh_caL 0 from ⟨by decide, by decide⟩)) hP hS hA
theorem hh_iload_n {i : Fin 4} {x : Int} (hd : decode mi.2.1 pc = .ok (.iload_n i, 1)) (hl : ls[(i : Nat)]? = some (some (hh_I x))) (k : hh_J d mi (pc + 1) ls (hh_I x :: st) σ Q) : hh_J d mi pc ls st σ Q := by
  intro l g p e s m args below meth c H locs A hC hk hP hS hA
  obtain ⟨hx, hb, hr, hml, hown, hts, hlk, hF⟩ := id hC
  refine lv_iload_n hx hb hd rfl (hh_lat hA hl) ?_
  exact k l g p e s m args below meth c H locs A hC (hk.push (hk.at hl)) hP hS hA
theorem hh_iload {i : Nat} {x : Int} (hd : decode mi.2.1 pc = .ok (.iload i, 2)) (hl : ls[i]? = some (some (hh_I x))) (k : hh_J d mi (pc + 2) ls (hh_I x :: st) σ Q) : hh_J d mi pc ls st σ Q := by
  intro l g p e s m args below meth c H locs A hC hk hP hS hA
  obtain ⟨hx, hb, hr, hml, hown, hts, hlk, hF⟩ := id hC
  refine lv_iload hx hb hd (hh_lat hA hl) ?_
  exact k l g p e s m args below meth c H locs A hC (hk.push (hk.at hl)) hP hS hA
theorem hh_lload_n {i : Fin 4} {x : Int} (hd : decode mi.2.1 pc = .ok (.lload_n i, 1)) (hl : ls[(i : Nat)]? = some (some (hh_L x))) (k : hh_J d mi (pc + 1) ls (hh_L x :: st) σ Q) : hh_J d mi pc ls st σ Q := by
  intro l g p e s m args below meth c H locs A hC hk hP hS hA
  obtain ⟨hx, hb, hr, hml, hown, hts, hlk, hF⟩ := id hC
  refine lv_lload_n hx hb hd rfl (hh_lat hA hl) ?_
  exact k l g p e s m args below meth c H locs A hC (hk.push (hk.at hl)) hP hS hA
theorem hh_lload {i : Nat} {x : Int} (hd : decode mi.2.1 pc = .ok (.lload i, 2)) (hl : ls[i]? = some (some (hh_L x))) (k : hh_J d mi (pc + 2) ls (hh_L x :: st) σ Q) : hh_J d mi pc ls st σ Q := by
  intro l g p e s m args below meth c H locs A hC hk hP hS hA
  obtain ⟨hx, hb, hr, hml, hown, hts, hlk, hF⟩ := id hC
  refine lv_lload hx hb hd (hh_lat hA hl) ?_
  exact k l g p e s m args below meth c H locs A hC (hk.push (hk.at hl)) hP hS hA
theorem hh_aload_n {i : Fin 4} {x : Nat} (hd : decode mi.2.1 pc = .ok (.aload_n i, 1)) (hl : ls[(i : Nat)]? = some (some (hh_R x))) (k : hh_J d mi (pc + 1) ls (hh_R x :: st) σ Q) : hh_J d mi pc ls st σ Q := by
  intro l g p e s m args below meth c H locs A hC hk hP hS hA
  obtain ⟨hx, hb, hr, hml, hown, hts, hlk, hF⟩ := id hC
  refine lv_aload_n hx hb hd rfl (hh_lat hA hl) ?_
  exact k l g p e s m args below meth c H locs A hC (hk.push (hk.at hl)) hP hS hA
theorem hh_aload {i : Nat} {x : Nat} (hd : decode mi.2.1 pc = .ok (.aload i, 2)) (hl : ls[i]? = some (some (hh_R x))) (k : hh_J d mi (pc + 2) ls (hh_R x :: st) σ Q) : hh_J d mi pc ls st σ Q := by
  intro l g p e s m args below meth c H locs A hC hk hP hS hA
  obtain ⟨hx, hb, hr, hml, hown, hts, hlk, hF⟩ := id hC
  refine lv_aload hx hb hd (hh_lat hA hl) ?_
  exact k l g p e s m args below meth c H locs A hC (hk.push (hk.at hl)) hP hS hA
theorem hh_istore_n {i : Fin 4} {x : Int} (hd : decode mi.2.1 pc = .ok (.istore_n i, 1)) (hi : (i : Nat) < mi.2.2.1) (hn : hh_nl ls (i : Nat) = true) (k : hh_J d mi (pc + 1) (ls.set (i : Nat) (some (hh_I x))) st σ Q) : hh_J d mi pc ls (hh_I x :: st) σ Q := by
  intro l g p e s m args below meth c H locs A hC hk hP hS hA
  obtain ⟨hx, hb, hr, hml, hown, hts, hlk, hF⟩ := id hC
  refine lv_istore_n hx hb hd rfl hA hi rfl (fun A' hA' => ?_)
  exact k l g p e s m args below meth c H locs A' hC (hk.pop.set _ hk.top) hP hS (hh_has1 hn hA')
theorem hh_istore {i : Nat} {x : Int} (hd : decode mi.2.1 pc = .ok (.istore i, 2)) (hi : i < mi.2.2.1) (hn : hh_nl ls i = true) (k : hh_J d mi (pc + 2) (ls.set i (some (hh_I x))) st σ Q) : hh_J d mi pc ls (hh_I x :: st) σ Q := by
  intro l g p e s m args below meth c H locs A hC hk hP hS hA
  obtain ⟨hx, hb, hr, hml, hown, hts, hlk, hF⟩ := id hC
  refine lv_istore hx hb hd hA hi rfl (fun A' hA' => ?_)
  exact k l g p e s m args below meth c H locs A' hC (hk.pop.set _ hk.top) hP hS (hh_has1 hn hA')
theorem hh_astore_n {i : Fin 4} {x : Nat} (hd : decode mi.2.1 pc = .ok (.astore_n i, 1)) (hi : (i : Nat) < mi.2.2.1) (hn : hh_nl ls (i : Nat) = true) (k : hh_J d mi (pc + 1) (ls.set (i : Nat) (some (hh_R x))) st σ Q) : hh_J d mi pc ls (hh_R x :: st) σ Q := by
  intro l g p e s m args below meth c H locs A hC hk hP hS hA
  obtain ⟨hx, hb, hr, hml, hown, hts, hlk, hF⟩ := id hC
  refine lv_astore_n hx hb hd rfl hA hi rfl (fun A' hA' => ?_)
  exact k l g p e s m args below meth c H locs A' hC (hk.pop.set _ hk.top) hP hS (hh_has1 hn hA')
theorem hh_astore {i : Nat} {x : Nat} (hd : decode mi.2.1 pc = .ok (.astore i, 2)) (hi : i < mi.2.2.1) (hn : hh_nl ls i = true) (k : hh_J d mi (pc + 2) (ls.set i (some (hh_R x))) st σ Q) : hh_J d mi pc ls (hh_R x :: st) σ Q := by
  intro l g p e s m args below meth c H locs A hC hk hP hS hA
  obtain ⟨hx, hb, hr, hml, hown, hts, hlk, hF⟩ := id hC
  refine lv_astore hx hb hd hA hi rfl (fun A' hA' => ?_)
  exact k l g p e s m args below meth c H locs A' hC (hk.pop.set _ hk.top) hP hS (hh_has1 hn hA')
theorem hh_lstore {i : Nat} {x : Int} (hd : decode mi.2.1 pc = .ok (.lstore i, 2)) (hi : i + 1 < mi.2.2.1) (hn : hh_nl ls i = true) (k : hh_J d mi (pc + 2) ((ls.set (i + 1) none).set i (some (hh_L x))) st σ Q) : hh_J d mi pc ls (hh_L x :: st) σ Q := by
  intro l g p e s m args below meth c H locs A hC hk hP hS hA
  obtain ⟨hx, hb, hr, hml, hown, hts, hlk, hF⟩ := id hC
  refine lv_lstore hx hb hd hA hi rfl (fun A' hA' => ?_)
  exact k l g p e s m args below meth c H locs A' hC ((hk.pop.setn _).set _ hk.top) hP hS (hh_has2 hn hA')
theorem hh_iinc {i : Nat} {n x : Int} (hd : decode mi.2.1 pc = .ok (.iinc i n, 3)) (hi : i < mi.2.2.1) (hl : ls[i]? = some (some (hh_I x))) (hn : hh_nl ls i = true) (hc : hh_can (x + n)) (k : hh_J d mi (pc + 3) (ls.set i (some (hh_I (x + n)))) st σ Q) : hh_J d mi pc ls st σ Q := by
  intro l g p e s m args below meth c H locs A hC hk hP hS hA
  obtain ⟨hx, hb, hr, hml, hown, hts, hlk, hF⟩ := id hC
  obtain ⟨j, hj⟩ := List.getElem?_of_mem ((hh_al_mem (g := g) (q := (i, hh_tr g (hh_I x))) ls 0).mpr ⟨i, hh_I x, hl, by rw [Nat.zero_add]⟩)
  refine lv_iinc (v := Int32.ofInt (x + n)) hx hb hd hA hj (Int32.ofInt_add x n).symm hi rfl (fun A' hA' => ?_)
  exact k l g p e s m args below meth c H locs A' hC (hk.set _ hc) hP hS (hh_has1 (v := hh_I (x + n)) hn hA')
theorem hh_iadd {a b : Int} (hd : decode mi.2.1 pc = .ok (.iadd, 1)) (hc : hh_can (a + b)) (k : hh_J d mi (pc + 1) ls (hh_I (a + b) :: st) σ Q) : hh_J d mi pc ls (hh_I b :: hh_I a :: st) σ Q := by
  intro l g p e s m args below meth c H locs A hC hk hP hS hA
  obtain ⟨hx, hb, hr, hml, hown, hts, hlk, hF⟩ := id hC
  refine lv_iadd hx hb hd ?_
  rw [← Int32.ofInt_add a b]
  exact k l g p e s m args below meth c H locs A hC (hk.pop.pop.push hc) hP hS hA
theorem hh_iadd_w {a b : Int} (hd : decode mi.2.1 pc = .ok (.iadd, 1)) (k : hh_J d mi (pc + 1) ls (hh_I (hh_wr (a + b)) :: st) σ Q) : hh_J d mi pc ls (hh_I b :: hh_I a :: st) σ Q := by
  intro l g p e s m args below meth c H locs A hC hk hP hS hA
  obtain ⟨hx, hb, hr, hml, hown, hts, hlk, hF⟩ := id hC
  refine lv_iadd hx hb hd ?_
  rw [← Int32.ofInt_add a b, ← hh_ofw]
  exact k l g p e s m args below meth c H locs A hC (hk.pop.pop.push (hh_can_wr _)) hP hS hA
theorem hh_isub {a b : Int} (hd : decode mi.2.1 pc = .ok (.isub, 1)) (hc : hh_can (a - b)) (k : hh_J d mi (pc + 1) ls (hh_I (a - b) :: st) σ Q) : hh_J d mi pc ls (hh_I b :: hh_I a :: st) σ Q := by
  intro l g p e s m args below meth c H locs A hC hk hP hS hA
  obtain ⟨hx, hb, hr, hml, hown, hts, hlk, hF⟩ := id hC
  refine lv_isub hx hb hd ?_
  rw [← Int32.ofInt_sub a b]
  exact k l g p e s m args below meth c H locs A hC (hk.pop.pop.push hc) hP hS hA
theorem hh_isub_w {a b : Int} (hd : decode mi.2.1 pc = .ok (.isub, 1)) (k : hh_J d mi (pc + 1) ls (hh_I (hh_wr (a - b)) :: st) σ Q) : hh_J d mi pc ls (hh_I b :: hh_I a :: st) σ Q := by
  intro l g p e s m args below meth c H locs A hC hk hP hS hA
  obtain ⟨hx, hb, hr, hml, hown, hts, hlk, hF⟩ := id hC
  refine lv_isub hx hb hd ?_
  rw [← Int32.ofInt_sub a b, ← hh_ofw]
  exact k l g p e s m args below meth c H locs A hC (hk.pop.pop.push (hh_can_wr _)) hP hS hA
theorem hh_imul {a b : Int} (hd : decode mi.2.1 pc = .ok (.imul, 1)) (hc : hh_can (a * b)) (k : hh_J d mi (pc + 1) ls (hh_I (a * b) :: st) σ Q) : hh_J d mi pc ls (hh_I b :: hh_I a :: st) σ Q := by
  intro l g p e s m args below meth c H locs A hC hk hP hS hA
  obtain ⟨hx, hb, hr, hml, hown, hts, hlk, hF⟩ := id hC
  refine lv_imul hx hb hd ?_
  rw [← Int32.ofInt_mul a b]
  exact k l g p e s m args below meth c H locs A hC (hk.pop.pop.push hc) hP hS hA
theorem hh_imul_w {a b : Int} (hd : decode mi.2.1 pc = .ok (.imul, 1)) (k : hh_J d mi (pc + 1) ls (hh_I (hh_wr (a * b)) :: st) σ Q) : hh_J d mi pc ls (hh_I b :: hh_I a :: st) σ Q := by
  intro l g p e s m args below meth c H locs A hC hk hP hS hA
  obtain ⟨hx, hb, hr, hml, hown, hts, hlk, hF⟩ := id hC
  refine lv_imul hx hb hd ?_
  rw [← Int32.ofInt_mul a b, ← hh_ofw]
  exact k l g p e s m args below meth c H locs A hC (hk.pop.pop.push (hh_can_wr _)) hP hS hA
theorem hh_ineg {a : Int} (hd : decode mi.2.1 pc = .ok (.ineg, 1)) (hc : hh_can (-a)) (k : hh_J d mi (pc + 1) ls (hh_I (-a) :: st) σ Q) : hh_J d mi pc ls (hh_I a :: st) σ Q := by
  intro l g p e s m args below meth c H locs A hC hk hP hS hA
  obtain ⟨hx, hb, hr, hml, hown, hts, hlk, hF⟩ := id hC
  refine lv_ineg hx hb hd ?_
  rw [← Int32.ofInt_neg]
  exact k l g p e s m args below meth c H locs A hC (hk.pop.push hc) hP hS hA
theorem hh_idiv {a b : Int} (hd : decode mi.2.1 pc = .ok (.idiv, 1)) (h0 : 0 ≤ a) (h1 : 0 < b) (k : hh_J d mi (pc + 1) ls (hh_I (a / b) :: st) σ Q) : hh_J d mi pc ls (hh_I b :: hh_I a :: st) σ Q := by
  intro l g p e s m args below meth c H locs A hC hk hP hS hA
  obtain ⟨hx, hb, hr, hml, hown, hts, hlk, hF⟩ := id hC
  have hcb : hh_can b := hk.top
  have hca : hh_can a := hk.pop.top
  have hle : a / b ≤ a := Int.ediv_le_self b h0
  have hge : 0 ≤ a / b := Int.ediv_nonneg h0 (by omega)
  have hcq : hh_can (a / b) := ⟨by omega, by omega⟩
  refine lv_idiv hx hb hd (fun q => ?_) ?_
  · rw [← hh_0, hh_eq hcb ⟨by omega, by omega⟩] at q
    omega
  · have e0 : Int32.ofInt a / Int32.ofInt b = Int32.ofInt (a / b) := by
      rw [← Int32.toInt_inj, Int32.toInt_div, hh_toInt a hca, hh_toInt b hcb, Int.tdiv_eq_ediv_of_nonneg h0]
      exact (Int32.toInt_ofInt (n := a / b)).symm
    rw [e0]
    exact k l g p e s m args below meth c H locs A hC (hk.pop.pop.push hcq) hP hS hA
theorem hh_idiv_w {a b : Int} (hd : decode mi.2.1 pc = .ok (.idiv, 1)) (h1 : b ≠ 0) (k : hh_J d mi (pc + 1) ls (hh_I (hh_wr (a.tdiv b)) :: st) σ Q) : hh_J d mi pc ls (hh_I b :: hh_I a :: st) σ Q := by
  intro l g p e s m args below meth c H locs A hC hk hP hS hA
  obtain ⟨hx, hb, hr, hml, hown, hts, hlk, hF⟩ := id hC
  have hcb : hh_can b := hk.top
  have hca : hh_can a := hk.pop.top
  refine lv_idiv hx hb hd (fun q => ?_) ?_
  · rw [← hh_0, hh_eq hcb ⟨by omega, by omega⟩] at q
    exact h1 q
  · have e0 : Int32.ofInt a / Int32.ofInt b = Int32.ofInt (hh_wr (a.tdiv b)) := by
      rw [← Int32.toInt_inj, Int32.toInt_div, hh_toInt a hca, hh_toInt b hcb, hh_ofw]
      exact (Int32.toInt_ofInt (n := a.tdiv b)).symm
    rw [e0]
    exact k l g p e s m args below meth c H locs A hC (hk.pop.pop.push (hh_can_wr _)) hP hS hA
theorem hh_irem {a b : Int} (hd : decode mi.2.1 pc = .ok (.irem, 1)) (h0 : 0 ≤ a) (h1 : 0 < b) (k : hh_J d mi (pc + 1) ls (hh_I (a % b) :: st) σ Q) : hh_J d mi pc ls (hh_I b :: hh_I a :: st) σ Q := by
  intro l g p e s m args below meth c H locs A hC hk hP hS hA
  obtain ⟨hx, hb, hr, hml, hown, hts, hlk, hF⟩ := id hC
  have hcb : hh_can b := hk.top
  have hca : hh_can a := hk.pop.top
  have hlt : a % b < b := Int.emod_lt_of_pos a h1
  have hge : 0 ≤ a % b := Int.emod_nonneg a (by omega)
  have hcq : hh_can (a % b) := ⟨by omega, by omega⟩
  refine lv_irem hx hb hd (fun q => ?_) ?_
  · rw [← hh_0, hh_eq hcb ⟨by omega, by omega⟩] at q
    omega
  · have e1 : Int32.ofInt a / Int32.ofInt b = Int32.ofInt (a / b) := by
      rw [← Int32.toInt_inj, Int32.toInt_div, hh_toInt a hca, hh_toInt b hcb, Int.tdiv_eq_ediv_of_nonneg h0]
      exact (Int32.toInt_ofInt (n := a / b)).symm
    have e0 : Int32.ofInt a - Int32.ofInt a / Int32.ofInt b * Int32.ofInt b = Int32.ofInt (a % b) := by
      rw [e1, ← Int32.ofInt_mul, ← Int32.ofInt_sub, Int.emod_def, Int.mul_comm b]
    rw [e0]
    exact k l g p e s m args below meth c H locs A hC (hk.pop.pop.push hcq) hP hS hA
theorem hh_iand {a b : Int} (hd : decode mi.2.1 pc = .ok (.iand, 1)) (k : hh_J d mi (pc + 1) ls (hh_I (hh_and a b) :: st) σ Q) : hh_J d mi pc ls (hh_I b :: hh_I a :: st) σ Q := by
  intro l g p e s m args below meth c H locs A hC hk hP hS hA
  obtain ⟨hx, hb, hr, hml, hown, hts, hlk, hF⟩ := id hC
  refine lv_iand hx hb hd ?_
  rw [← Int32.ofInt_toInt (Int32.ofInt a &&& Int32.ofInt b)]
  exact k l g p e s m args below meth c H locs A hC (hk.pop.pop.push (hh_can_i _)) hP hS hA
theorem hh_ior {a b : Int} (hd : decode mi.2.1 pc = .ok (.ior, 1)) (k : hh_J d mi (pc + 1) ls (hh_I (hh_or a b) :: st) σ Q) : hh_J d mi pc ls (hh_I b :: hh_I a :: st) σ Q := by
  intro l g p e s m args below meth c H locs A hC hk hP hS hA
  obtain ⟨hx, hb, hr, hml, hown, hts, hlk, hF⟩ := id hC
  refine lv_ior hx hb hd ?_
  rw [← Int32.ofInt_toInt (Int32.ofInt a ||| Int32.ofInt b)]
  exact k l g p e s m args below meth c H locs A hC (hk.pop.pop.push (hh_can_i _)) hP hS hA
theorem hh_ixor {a b : Int} (hd : decode mi.2.1 pc = .ok (.ixor, 1)) (k : hh_J d mi (pc + 1) ls (hh_I (hh_xor a b) :: st) σ Q) : hh_J d mi pc ls (hh_I b :: hh_I a :: st) σ Q := by
  intro l g p e s m args below meth c H locs A hC hk hP hS hA
  obtain ⟨hx, hb, hr, hml, hown, hts, hlk, hF⟩ := id hC
  refine lv_ixor hx hb hd ?_
  rw [← Int32.ofInt_toInt (Int32.ofInt a ^^^ Int32.ofInt b)]
  exact k l g p e s m args below meth c H locs A hC (hk.pop.pop.push (hh_can_i _)) hP hS hA
theorem hh_ishl {a b : Int} (hd : decode mi.2.1 pc = .ok (.ishl, 1)) (k : hh_J d mi (pc + 1) ls (hh_I (hh_shl a b) :: st) σ Q) : hh_J d mi pc ls (hh_I b :: hh_I a :: st) σ Q := by
  intro l g p e s m args below meth c H locs A hC hk hP hS hA
  obtain ⟨hx, hb, hr, hml, hown, hts, hlk, hF⟩ := id hC
  refine lv_ishl hx hb hd ?_
  rw [← Int32.ofInt_toInt (Int32.ofInt a <<< (Int32.ofInt b &&& 31))]
  exact k l g p e s m args below meth c H locs A hC (hk.pop.pop.push (hh_can_i _)) hP hS hA
theorem hh_ishr {a b : Int} (hd : decode mi.2.1 pc = .ok (.ishr, 1)) (k : hh_J d mi (pc + 1) ls (hh_I (hh_shr a b) :: st) σ Q) : hh_J d mi pc ls (hh_I b :: hh_I a :: st) σ Q := by
  intro l g p e s m args below meth c H locs A hC hk hP hS hA
  obtain ⟨hx, hb, hr, hml, hown, hts, hlk, hF⟩ := id hC
  refine lv_ishr hx hb hd ?_
  rw [← Int32.ofInt_toInt (Int32.ofInt a >>> (Int32.ofInt b &&& 31))]
  exact k l g p e s m args below meth c H locs A hC (hk.pop.pop.push (hh_can_i _)) hP hS hA
theorem hh_iushr {a b : Int} (hd : decode mi.2.1 pc = .ok (.iushr, 1)) (k : hh_J d mi (pc + 1) ls (hh_I (hh_ush a b) :: st) σ Q) : hh_J d mi pc ls (hh_I b :: hh_I a :: st) σ Q := by
  intro l g p e s m args below meth c H locs A hC hk hP hS hA
  obtain ⟨hx, hb, hr, hml, hown, hts, hlk, hF⟩ := id hC
  refine lv_iushr (v := Int32.ofInt (hh_ush a b)) hx hb hd (Int32.ofInt_toInt _).symm ?_
  exact k l g p e s m args below meth c H locs A hC (hk.pop.pop.push (hh_can_i _)) hP hS hA
theorem hh_oi2b {a : Int} (hd : decode mi.2.1 pc = .ok (.i2b, 1)) (k : hh_J d mi (pc + 1) ls (hh_I (hh_i2b a) :: st) σ Q) : hh_J d mi pc ls (hh_I a :: st) σ Q := by
  intro l g p e s m args below meth c H locs A hC hk hP hS hA
  obtain ⟨hx, hb, hr, hml, hown, hts, hlk, hF⟩ := id hC
  refine lv_i2b (v := Int32.ofInt (hh_i2b a)) hx hb hd (Int32.ofInt_toInt _).symm ?_
  exact k l g p e s m args below meth c H locs A hC (hk.pop.push (hh_can_i _)) hP hS hA
theorem hh_oi2s {a : Int} (hd : decode mi.2.1 pc = .ok (.i2s, 1)) (k : hh_J d mi (pc + 1) ls (hh_I (hh_i2s a) :: st) σ Q) : hh_J d mi pc ls (hh_I a :: st) σ Q := by
  intro l g p e s m args below meth c H locs A hC hk hP hS hA
  obtain ⟨hx, hb, hr, hml, hown, hts, hlk, hF⟩ := id hC
  refine lv_i2s (v := Int32.ofInt (hh_i2s a)) hx hb hd (Int32.ofInt_toInt _).symm ?_
  exact k l g p e s m args below meth c H locs A hC (hk.pop.push (hh_can_i _)) hP hS hA
theorem hh_oi2c {a : Int} (hd : decode mi.2.1 pc = .ok (.i2c, 1)) (k : hh_J d mi (pc + 1) ls (hh_I (hh_i2c a) :: st) σ Q) : hh_J d mi pc ls (hh_I a :: st) σ Q := by
  intro l g p e s m args below meth c H locs A hC hk hP hS hA
  obtain ⟨hx, hb, hr, hml, hown, hts, hlk, hF⟩ := id hC
  refine lv_i2c (v := Int32.ofInt (hh_i2c a)) hx hb hd (Int32.ofInt_toInt _).symm ?_
  exact k l g p e s m args below meth c H locs A hC (hk.pop.push (hh_can_i _)) hP hS hA
theorem hh_i2l {a : Int} (hd : decode mi.2.1 pc = .ok (.i2l, 1)) (k : hh_J d mi (pc + 1) ls (hh_L a :: st) σ Q) : hh_J d mi pc ls (hh_I a :: st) σ Q := by
  intro l g p e s m args below meth c H locs A hC hk hP hS hA
  obtain ⟨hx, hb, hr, hml, hown, hts, hlk, hF⟩ := id hC
  have hca : hh_can a := hk.top
  have hcl : hh_caL a := ⟨by omega, by omega⟩
  refine lv_i2l (v := Int64.ofInt a) hx hb hd ?_ ?_
  · rw [← Int64.toInt_inj, Int32.toInt_toInt64, hh_toInt a hca, hh_toL a hcl]
  · exact k l g p e s m args below meth c H locs A hC (hk.pop.push hcl) hP hS hA
theorem hh_l2i {a : Int} (hd : decode mi.2.1 pc = .ok (.l2i, 1)) (hc : hh_can a) (k : hh_J d mi (pc + 1) ls (hh_I a :: st) σ Q) : hh_J d mi pc ls (hh_L a :: st) σ Q := by
  intro l g p e s m args below meth c H locs A hC hk hP hS hA
  obtain ⟨hx, hb, hr, hml, hown, hts, hlk, hF⟩ := id hC
  refine lv_l2i (v := Int32.ofInt a) hx hb hd Int64.toInt32_ofInt ?_
  exact k l g p e s m args below meth c H locs A hC (hk.pop.push hc) hP hS hA
theorem hh_lmul {a b : Int} (hd : decode mi.2.1 pc = .ok (.lmul, 1)) (hc : hh_caL (a * b)) (k : hh_J d mi (pc + 1) ls (hh_L (a * b) :: st) σ Q) : hh_J d mi pc ls (hh_L b :: hh_L a :: st) σ Q := by
  intro l g p e s m args below meth c H locs A hC hk hP hS hA
  obtain ⟨hx, hb, hr, hml, hown, hts, hlk, hF⟩ := id hC
  refine lv_lmul hx hb hd ?_
  rw [← Int64.ofInt_mul]
  exact k l g p e s m args below meth c H locs A hC (hk.pop.pop.push hc) hP hS hA
theorem hh_ldiv {a b : Int} (hd : decode mi.2.1 pc = .ok (.ldiv, 1)) (h0 : 0 ≤ a) (h1 : 0 < b) (k : hh_J d mi (pc + 1) ls (hh_L (a / b) :: st) σ Q) : hh_J d mi pc ls (hh_L b :: hh_L a :: st) σ Q := by
  intro l g p e s m args below meth c H locs A hC hk hP hS hA
  obtain ⟨hx, hb, hr, hml, hown, hts, hlk, hF⟩ := id hC
  have hcb : hh_caL b := hk.top
  have hca : hh_caL a := hk.pop.top
  have hle : a / b ≤ a := Int.ediv_le_self b h0
  have hge : 0 ≤ a / b := Int.ediv_nonneg h0 (by omega)
  have hcq : hh_caL (a / b) := ⟨by omega, by omega⟩
  refine lv_ldiv hx hb hd (fun q => ?_) ?_
  · have q2 := congrArg Int64.toInt q
    rw [hh_toL b hcb] at q2
    have : (0 : Int64).toInt = 0 := rfl
    omega
  · have e0 : Int64.ofInt a / Int64.ofInt b = Int64.ofInt (a / b) := by
      rw [← Int64.toInt_inj, Int64.toInt_div, hh_toL a hca, hh_toL b hcb, Int.tdiv_eq_ediv_of_nonneg h0]
      exact (Int64.toInt_ofInt (n := a / b)).symm
    rw [e0]
    exact k l g p e s m args below meth c H locs A hC (hk.pop.pop.push hcq) hP hS hA
def hh_cmp (a b : Int) : Int := if b < a then 1 else if a = b then 0 else -1
theorem hh_cmp_of {a b : Int} (ha : hh_caL a) (hb : hh_caL b) : lg_cmp (Int64.ofInt a) (Int64.ofInt b) = Int32.ofInt (hh_cmp a b) := by
  unfold lg_cmp hh_cmp
  have e1 : (Int64.ofInt a > Int64.ofInt b) ↔ b < a := by
    rw [gt_iff_lt, Int64.lt_iff_toInt_lt, hh_toL a ha, hh_toL b hb]
  have e2 : (Int64.ofInt a = Int64.ofInt b) ↔ a = b := by
    rw [← Int64.toInt_inj, hh_toL a ha, hh_toL b hb]
  by_cases h1 : b < a
  · rw [if_pos (e1.mpr h1), if_pos h1]; rfl
  · rw [if_neg (fun q => h1 (e1.mp q)), if_neg h1]
    by_cases h2 : a = b
    · rw [if_pos (e2.mpr h2), if_pos h2]; rfl
    · rw [if_neg (fun q => h2 (e2.mp q)), if_neg h2]; rfl
theorem hh_can_cmp (a b : Int) : hh_can (hh_cmp a b) := by
  unfold hh_cmp
  split
  · exact ⟨by decide, by decide⟩
  · split <;> exact ⟨by decide, by decide⟩
theorem hh_lcmp {a b : Int} (hd : decode mi.2.1 pc = .ok (.lcmp, 1)) (k : hh_J d mi (pc + 1) ls (hh_I (hh_cmp a b) :: st) σ Q) : hh_J d mi pc ls (hh_L b :: hh_L a :: st) σ Q := by
  intro l g p e s m args below meth c H locs A hC hk hP hS hA
  obtain ⟨hx, hb, hr, hml, hown, hts, hlk, hF⟩ := id hC
  have hcb : hh_caL b := hk.top
  have hca : hh_caL a := hk.pop.top
  refine W.lcmp hx hb hd ?_
  rw [hh_cmp_of hca hcb]
  exact k l g p e s m args below meth c H locs A hC (hk.pop.pop.push (hh_can_cmp a b)) hP hS hA
theorem hh_dup {v : hh_V} (hd : decode mi.2.1 pc = .ok (.dup, 1)) (hv : ∀ g, (hh_tr g v).category = 1) (k : hh_J d mi (pc + 1) ls (v :: v :: st) σ Q) : hh_J d mi pc ls (v :: st) σ Q := by
  intro l g p e s m args below meth c H locs A hC hk hP hS hA
  obtain ⟨hx, hb, hr, hml, hown, hts, hlk, hF⟩ := id hC
  refine lv_dup hx hb hd (hv g) ?_
  exact k l g p e s m args below meth c H locs A hC (hk.push hk.top) hP hS hA
theorem hh_pop {v : hh_V} (hd : decode mi.2.1 pc = .ok (.pop, 1)) (hv : ∀ g, (hh_tr g v).category = 1) (k : hh_J d mi (pc + 1) ls st σ Q) : hh_J d mi pc ls (v :: st) σ Q := by
  intro l g p e s m args below meth c H locs A hC hk hP hS hA
  obtain ⟨hx, hb, hr, hml, hown, hts, hlk, hF⟩ := id hC
  refine lv_pop hx hb hd (hv g) ?_
  exact k l g p e s m args below meth c H locs A hC hk.pop hP hS hA
theorem hh_dup2 {v w : hh_V} (hd : decode mi.2.1 pc = .ok (.dup2, 1)) (hv : ∀ g, (hh_tr g v).category = 1) (hw : ∀ g, (hh_tr g w).category = 1) (k : hh_J d mi (pc + 1) ls (v :: w :: v :: w :: st) σ Q) : hh_J d mi pc ls (v :: w :: st) σ Q := by
  intro l g p e s m args below meth c H locs A hC hk hP hS hA
  obtain ⟨hx, hb, hr, hml, hown, hts, hlk, hF⟩ := id hC
  refine lv_dup2_11 hx hb hd (hv g) (hw g) ?_
  exact k l g p e s m args below meth c H locs A hC ((hk.push hk.pop.top).push hk.top) hP hS hA
theorem hh_icmp_eq {a b off : Int} {tgt : Nat} (hd : decode mi.2.1 pc = .ok (.if_icmp .eq off, 3)) (ht : (pc : Int) + off = (tgt : Int)) (kt : a = b → hh_J d mi tgt ls st σ Q) (kf : ¬ (a = b) → hh_J d mi (pc + 3) ls st σ Q) : hh_J d mi pc ls (hh_I b :: hh_I a :: st) σ Q := by
  intro l g p e s m args below meth c H locs A hC hk hP hS hA
  obtain ⟨hx, hb, hr, hml, hown, hts, hlk, hF⟩ := id hC
  have hcb : hh_can b := hk.top
  have hca : hh_can a := hk.pop.top
  exact lv_icmp_eq hx hb hd ht (fun q => kt ((hh_eq hca hcb).mp q) l g p e s m args below meth c H locs A hC hk.pop.pop hP hS hA) (fun q => kf (fun z => q ((hh_eq hca hcb).mpr z)) l g p e s m args below meth c H locs A hC hk.pop.pop hP hS hA)
theorem hh_if_eq {a off : Int} {tgt : Nat} (hd : decode mi.2.1 pc = .ok (.ifCond .eq off, 3)) (ht : (pc : Int) + off = (tgt : Int)) (kt : a = 0 → hh_J d mi tgt ls st σ Q) (kf : ¬ (a = 0) → hh_J d mi (pc + 3) ls st σ Q) : hh_J d mi pc ls (hh_I a :: st) σ Q := by
  intro l g p e s m args below meth c H locs A hC hk hP hS hA
  obtain ⟨hx, hb, hr, hml, hown, hts, hlk, hF⟩ := id hC
  have hca : hh_can a := hk.top
  have hcb : hh_can 0 := ⟨by decide, by decide⟩
  exact lv_if_eq hx hb hd ht (fun q => kt ((hh_eq hca hcb).mp q) l g p e s m args below meth c H locs A hC hk.pop hP hS hA) (fun q => kf (fun z => q ((hh_eq hca hcb).mpr z)) l g p e s m args below meth c H locs A hC hk.pop hP hS hA)
theorem hh_icmp_ne {a b off : Int} {tgt : Nat} (hd : decode mi.2.1 pc = .ok (.if_icmp .ne off, 3)) (ht : (pc : Int) + off = (tgt : Int)) (kt : ¬ a = b → hh_J d mi tgt ls st σ Q) (kf : a = b → hh_J d mi (pc + 3) ls st σ Q) : hh_J d mi pc ls (hh_I b :: hh_I a :: st) σ Q := by
  intro l g p e s m args below meth c H locs A hC hk hP hS hA
  obtain ⟨hx, hb, hr, hml, hown, hts, hlk, hF⟩ := id hC
  have hcb : hh_can b := hk.top
  have hca : hh_can a := hk.pop.top
  exact lv_icmp_ne hx hb hd ht (fun q => kt (fun z => q ((hh_eq hca hcb).mpr z)) l g p e s m args below meth c H locs A hC hk.pop.pop hP hS hA) (fun q => kf ((hh_eq hca hcb).mp q) l g p e s m args below meth c H locs A hC hk.pop.pop hP hS hA)
theorem hh_if_ne {a off : Int} {tgt : Nat} (hd : decode mi.2.1 pc = .ok (.ifCond .ne off, 3)) (ht : (pc : Int) + off = (tgt : Int)) (kt : ¬ a = 0 → hh_J d mi tgt ls st σ Q) (kf : a = 0 → hh_J d mi (pc + 3) ls st σ Q) : hh_J d mi pc ls (hh_I a :: st) σ Q := by
  intro l g p e s m args below meth c H locs A hC hk hP hS hA
  obtain ⟨hx, hb, hr, hml, hown, hts, hlk, hF⟩ := id hC
  have hca : hh_can a := hk.top
  have hcb : hh_can 0 := ⟨by decide, by decide⟩
  exact lv_if_ne hx hb hd ht (fun q => kt (fun z => q ((hh_eq hca hcb).mpr z)) l g p e s m args below meth c H locs A hC hk.pop hP hS hA) (fun q => kf ((hh_eq hca hcb).mp q) l g p e s m args below meth c H locs A hC hk.pop hP hS hA)
theorem hh_icmp_lt {a b off : Int} {tgt : Nat} (hd : decode mi.2.1 pc = .ok (.if_icmp .lt off, 3)) (ht : (pc : Int) + off = (tgt : Int)) (kt : a < b → hh_J d mi tgt ls st σ Q) (kf : ¬ (a < b) → hh_J d mi (pc + 3) ls st σ Q) : hh_J d mi pc ls (hh_I b :: hh_I a :: st) σ Q := by
  intro l g p e s m args below meth c H locs A hC hk hP hS hA
  obtain ⟨hx, hb, hr, hml, hown, hts, hlk, hF⟩ := id hC
  have hcb : hh_can b := hk.top
  have hca : hh_can a := hk.pop.top
  exact lv_icmp_lt hx hb hd ht (fun q => kt ((hh_lt hca hcb).mp q) l g p e s m args below meth c H locs A hC hk.pop.pop hP hS hA) (fun q => kf (fun z => q ((hh_lt hca hcb).mpr z)) l g p e s m args below meth c H locs A hC hk.pop.pop hP hS hA)
theorem hh_if_lt {a off : Int} {tgt : Nat} (hd : decode mi.2.1 pc = .ok (.ifCond .lt off, 3)) (ht : (pc : Int) + off = (tgt : Int)) (kt : a < 0 → hh_J d mi tgt ls st σ Q) (kf : ¬ (a < 0) → hh_J d mi (pc + 3) ls st σ Q) : hh_J d mi pc ls (hh_I a :: st) σ Q := by
  intro l g p e s m args below meth c H locs A hC hk hP hS hA
  obtain ⟨hx, hb, hr, hml, hown, hts, hlk, hF⟩ := id hC
  have hca : hh_can a := hk.top
  have hcb : hh_can 0 := ⟨by decide, by decide⟩
  exact lv_if_lt hx hb hd ht (fun q => kt ((hh_lt hca hcb).mp q) l g p e s m args below meth c H locs A hC hk.pop hP hS hA) (fun q => kf (fun z => q ((hh_lt hca hcb).mpr z)) l g p e s m args below meth c H locs A hC hk.pop hP hS hA)
theorem hh_icmp_ge {a b off : Int} {tgt : Nat} (hd : decode mi.2.1 pc = .ok (.if_icmp .ge off, 3)) (ht : (pc : Int) + off = (tgt : Int)) (kt : b ≤ a → hh_J d mi tgt ls st σ Q) (kf : ¬ (b ≤ a) → hh_J d mi (pc + 3) ls st σ Q) : hh_J d mi pc ls (hh_I b :: hh_I a :: st) σ Q := by
  intro l g p e s m args below meth c H locs A hC hk hP hS hA
  obtain ⟨hx, hb, hr, hml, hown, hts, hlk, hF⟩ := id hC
  have hcb : hh_can b := hk.top
  have hca : hh_can a := hk.pop.top
  exact lv_icmp_ge hx hb hd ht (fun q => kt ((hh_le hcb hca).mp q) l g p e s m args below meth c H locs A hC hk.pop.pop hP hS hA) (fun q => kf (fun z => q ((hh_le hcb hca).mpr z)) l g p e s m args below meth c H locs A hC hk.pop.pop hP hS hA)
theorem hh_if_ge {a off : Int} {tgt : Nat} (hd : decode mi.2.1 pc = .ok (.ifCond .ge off, 3)) (ht : (pc : Int) + off = (tgt : Int)) (kt : 0 ≤ a → hh_J d mi tgt ls st σ Q) (kf : ¬ (0 ≤ a) → hh_J d mi (pc + 3) ls st σ Q) : hh_J d mi pc ls (hh_I a :: st) σ Q := by
  intro l g p e s m args below meth c H locs A hC hk hP hS hA
  obtain ⟨hx, hb, hr, hml, hown, hts, hlk, hF⟩ := id hC
  have hca : hh_can a := hk.top
  have hcb : hh_can 0 := ⟨by decide, by decide⟩
  exact lv_if_ge hx hb hd ht (fun q => kt ((hh_le hcb hca).mp q) l g p e s m args below meth c H locs A hC hk.pop hP hS hA) (fun q => kf (fun z => q ((hh_le hcb hca).mpr z)) l g p e s m args below meth c H locs A hC hk.pop hP hS hA)
theorem hh_icmp_gt {a b off : Int} {tgt : Nat} (hd : decode mi.2.1 pc = .ok (.if_icmp .gt off, 3)) (ht : (pc : Int) + off = (tgt : Int)) (kt : b < a → hh_J d mi tgt ls st σ Q) (kf : ¬ (b < a) → hh_J d mi (pc + 3) ls st σ Q) : hh_J d mi pc ls (hh_I b :: hh_I a :: st) σ Q := by
  intro l g p e s m args below meth c H locs A hC hk hP hS hA
  obtain ⟨hx, hb, hr, hml, hown, hts, hlk, hF⟩ := id hC
  have hcb : hh_can b := hk.top
  have hca : hh_can a := hk.pop.top
  exact lv_icmp_gt hx hb hd ht (fun q => kt ((hh_lt hcb hca).mp q) l g p e s m args below meth c H locs A hC hk.pop.pop hP hS hA) (fun q => kf (fun z => q ((hh_lt hcb hca).mpr z)) l g p e s m args below meth c H locs A hC hk.pop.pop hP hS hA)
theorem hh_if_gt {a off : Int} {tgt : Nat} (hd : decode mi.2.1 pc = .ok (.ifCond .gt off, 3)) (ht : (pc : Int) + off = (tgt : Int)) (kt : 0 < a → hh_J d mi tgt ls st σ Q) (kf : ¬ (0 < a) → hh_J d mi (pc + 3) ls st σ Q) : hh_J d mi pc ls (hh_I a :: st) σ Q := by
  intro l g p e s m args below meth c H locs A hC hk hP hS hA
  obtain ⟨hx, hb, hr, hml, hown, hts, hlk, hF⟩ := id hC
  have hca : hh_can a := hk.top
  have hcb : hh_can 0 := ⟨by decide, by decide⟩
  exact lv_if_gt hx hb hd ht (fun q => kt ((hh_lt hcb hca).mp q) l g p e s m args below meth c H locs A hC hk.pop hP hS hA) (fun q => kf (fun z => q ((hh_lt hcb hca).mpr z)) l g p e s m args below meth c H locs A hC hk.pop hP hS hA)
theorem hh_icmp_le {a b off : Int} {tgt : Nat} (hd : decode mi.2.1 pc = .ok (.if_icmp .le off, 3)) (ht : (pc : Int) + off = (tgt : Int)) (kt : a ≤ b → hh_J d mi tgt ls st σ Q) (kf : ¬ (a ≤ b) → hh_J d mi (pc + 3) ls st σ Q) : hh_J d mi pc ls (hh_I b :: hh_I a :: st) σ Q := by
  intro l g p e s m args below meth c H locs A hC hk hP hS hA
  obtain ⟨hx, hb, hr, hml, hown, hts, hlk, hF⟩ := id hC
  have hcb : hh_can b := hk.top
  have hca : hh_can a := hk.pop.top
  exact lv_icmp_le hx hb hd ht (fun q => kt ((hh_le hca hcb).mp q) l g p e s m args below meth c H locs A hC hk.pop.pop hP hS hA) (fun q => kf (fun z => q ((hh_le hca hcb).mpr z)) l g p e s m args below meth c H locs A hC hk.pop.pop hP hS hA)
theorem hh_if_le {a off : Int} {tgt : Nat} (hd : decode mi.2.1 pc = .ok (.ifCond .le off, 3)) (ht : (pc : Int) + off = (tgt : Int)) (kt : a ≤ 0 → hh_J d mi tgt ls st σ Q) (kf : ¬ (a ≤ 0) → hh_J d mi (pc + 3) ls st σ Q) : hh_J d mi pc ls (hh_I a :: st) σ Q := by
  intro l g p e s m args below meth c H locs A hC hk hP hS hA
  obtain ⟨hx, hb, hr, hml, hown, hts, hlk, hF⟩ := id hC
  have hca : hh_can a := hk.top
  have hcb : hh_can 0 := ⟨by decide, by decide⟩
  exact lv_if_le hx hb hd ht (fun q => kt ((hh_le hca hcb).mp q) l g p e s m args below meth c H locs A hC hk.pop hP hS hA) (fun q => kf (fun z => q ((hh_le hca hcb).mpr z)) l g p e s m args below meth c H locs A hC hk.pop hP hS hA)
theorem hh_goto {off : Int} {tgt : Nat} (hd : decode mi.2.1 pc = .ok (.goto off, 3)) (ht : (pc : Int) + off = (tgt : Int)) (k : hh_J d mi tgt ls st σ Q) : hh_J d mi pc ls st σ Q := by
  intro l g p e s m args below meth c H locs A hC hk hP hS hA
  obtain ⟨hx, hb, hr, hml, hown, hts, hlk, hF⟩ := id hC
  exact lv_goto hx hb hd ht (k l g p e s m args below meth c H locs A hC hk hP hS hA)
theorem hh_table {a dflt lo hi : Int} {offs : Array Int} {len : Nat} (hd : decode mi.2.1 pc = .ok (.tableswitch dflt lo hi offs, len)) (kd : ∀ tgt : Nat, (pc : Int) + dflt = (tgt : Int) → (a < lo ∨ hi < a) → hh_J d mi tgt ls st σ Q) (hdt : ∃ tgt : Nat, (pc : Int) + dflt = (tgt : Int)) (ki : lo ≤ a → a ≤ hi → ∃ (off : Int) (tgt : Nat), offs[(a - lo).toNat]? = some off ∧ (pc : Int) + off = (tgt : Int) ∧ hh_J d mi tgt ls st σ Q) : hh_J d mi pc ls (hh_I a :: st) σ Q := by
  intro l g p e s m args below meth c H locs A hC hk hP hS hA
  obtain ⟨hx, hb, hr, hml, hown, hts, hlk, hF⟩ := id hC
  have hca : hh_can a := hk.top
  by_cases h : a < lo ∨ hi < a
  · obtain ⟨tgt, ht⟩ := hdt
    exact lv_tableOut hx hb hd (by rw [hh_toInt a hca]; exact h) ht (kd tgt ht h l g p e s m args below meth c H locs A hC hk.pop hP hS hA)
  · obtain ⟨off, tgt, h1, h2, k⟩ := ki (by omega) (by omega)
    exact lv_tableIn hx hb hd (by rw [hh_toInt a hca]; omega) (by rw [hh_toInt a hca]; omega) (by rw [hh_toInt a hca]; exact h1) h2 (k l g p e s m args below meth c H locs A hC hk.pop hP hS hA)
theorem hh_lookup {a dflt : Int} {ps : Array (Int × Int)} {len : Nat} (hd : decode mi.2.1 pc = .ok (.lookupswitch dflt ps, len)) (hp : (ps.toList.zip (ps.toList.drop 1)).all (fun (a, next) => a.1 < next.1) = true) (k : ∃ (off : Int) (tgt : Nat), Op.lookupswitch.offset ps.toList dflt a = off ∧ (pc : Int) + off = (tgt : Int) ∧ hh_J d mi tgt ls st σ Q) : hh_J d mi pc ls (hh_I a :: st) σ Q := by
  intro l g p e s m args below meth c H locs A hC hk hP hS hA
  obtain ⟨hx, hb, hr, hml, hown, hts, hlk, hF⟩ := id hC
  have hca : hh_can a := hk.top
  obtain ⟨off, tgt, h1, h2, k⟩ := k
  exact lv_lookup hx hb hd hp (by rw [hh_toInt a hca]; exact h1) h2 (k l g p e s m args below meth c H locs A hC hk.pop hP hS hA)
theorem hh_fin {g : hh_G} {x : Int} {H : Heap} {s t : State} {locs : List Loc} (hq : Q x σ) (hc : hh_can x) (hs : hh_cs σ) (hP : va_P g.2.2 vwCl (hh_wl g σ) H) (hS : va_S (hh_A g) s.heap H locs) (args : Array Value) (ht : t.heap = H) : hh_Qc mi g Q args s (.returned (hh_ro mi.2.2.2 x)) t :=
  ⟨⟨x, σ, rfl, hq, hc, hs, by rw [ht]; exact hP⟩, hS.F ht⟩
theorem hh_ireturn {x : Int} (hd : decode mi.2.1 pc = .ok (.ireturn, 1)) (hm : mi.2.2.2 = some .int) (hq : Q x σ) : hh_J d mi pc ls [hh_I x] σ Q := by
  intro l g p e s m args below meth c H locs A hC hk hP hS hA
  obtain ⟨hx, hb, hr, hml, hown, hts, hlk, hF⟩ := id hC
  refine W.iret hx hb (hr.trans hm) (fun t ht _ => ?_) hS.2.2 hd
  have := hh_fin (mi := mi) hq hk.top hk.2.2 hP hS args ht
  rw [hm] at this
  exact this
theorem hh_zreturn {x : Int} (hd : decode mi.2.1 pc = .ok (.ireturn, 1)) (hm : mi.2.2.2 = some .boolean) (hz : x = 0 ∨ x = 1) (hq : Q x σ) : hh_J d mi pc ls [hh_I x] σ Q := by
  intro l g p e s m args below meth c H locs A hC hk hP hS hA
  obtain ⟨hx, hb, hr, hml, hown, hts, hlk, hF⟩ := id hC
  refine W.zret hx hb (hr.trans hm) (by rcases hz with rfl | rfl <;> rfl) (fun t ht _ => ?_) hS.2.2 hd
  have := hh_fin (mi := mi) hq hk.top hk.2.2 hP hS args ht
  rw [hm] at this
  exact this
theorem hh_nreturn {x : Int} {ty : FieldType} (hd : decode mi.2.1 pc = .ok (.ireturn, 1)) (hm : mi.2.2.2 = some ty) (hz : narrow ty (.int (Int32.ofInt x)) = .int (Int32.ofInt x)) (hq : Q x σ) : hh_J d mi pc ls [hh_I x] σ Q := by
  intro l g p e s m args below meth c H locs A hC hk hP hS hA
  obtain ⟨hx, hb, hr, hml, hown, hts, hlk, hF⟩ := id hC
  refine W.zret hx hb (hr.trans hm) hz (fun t ht _ => ?_) hS.2.2 hd
  have := hh_fin (mi := mi) hq hk.top hk.2.2 hP hS args ht
  rw [hm] at this
  exact this
theorem hh_vreturn (hd : decode mi.2.1 pc = .ok (.return_, 1)) (hm : mi.2.2.2 = none) (hq : Q 0 σ) : hh_J d mi pc ls [] σ Q := by
  intro l g p e s m args below meth c H locs A hC hk hP hS hA
  obtain ⟨hx, hb, hr, hml, hown, hts, hlk, hF⟩ := id hC
  refine W.vret hx hb (hr.trans hm) (fun t ht _ => ?_) hS.2.2 hd
  have := hh_fin (mi := mi) hq ⟨by decide, by decide⟩ hk.2.2 hP hS args ht
  rw [hm] at this
  exact this
def hh_mk : List Bool → List (Option hh_V) → List (Option hh_V)
  | true :: bs, o :: t => o :: hh_mk bs t
  | false :: bs, _ :: t => none :: hh_mk bs t
  | _, _ => []
theorem hh_mk_at {v : hh_V} : ∀ (bs : List Bool) (ls : List (Option hh_V)) (i : Nat), (hh_mk bs ls)[i]? = some (some v) → ls[i]? = some (some v) := by
  intro bs
  induction bs with
  | nil => intro ls i h; simp [hh_mk] at h
  | cons b bs ih =>
    intro ls i h
    cases ls with
    | nil => cases b <;> simp [hh_mk] at h
    | cons o t =>
      cases i with
      | zero => cases b <;> simp [hh_mk] at h <;> simp [h]
      | succ i => cases b <;> simp [hh_mk] at h <;> simpa using ih t i h
theorem hh_forget (bs : List Bool) (k : hh_J d mi pc (hh_mk bs ls) st σ Q) : hh_J d mi pc ls st σ Q := by
  intro l g p e s m args below meth c H locs A hC hk hP hS hA
  obtain ⟨hx, hb, hr, hml, hown, hts, hlk, hF⟩ := id hC
  refine k l g p e s m args below meth c H locs A hC ⟨fun v hv => ?_, hk.2⟩ hP hS ⟨hA.1, hA.2.1, fun q hq => ?_⟩
  · obtain ⟨i, hi⟩ := List.getElem?_of_mem hv
    exact hk.at (hh_mk_at bs ls i hi)
  · obtain ⟨i, v, hi, rfl⟩ := (hh_al_mem _ 0).mp hq
    rw [Nat.zero_add]
    exact hh_lat hA (hh_mk_at bs ls i hi)
theorem hh_know (k : hh_cs σ → (∀ v, some v ∈ ls → hh_cv v) → (∀ v ∈ st, hh_cv v) → hh_J d mi pc ls st σ Q) : hh_J d mi pc ls st σ Q := by
  intro l g p e s m args below meth c H locs A hC hk hP hS hA
  obtain ⟨hx, hb, hr, hml, hown, hts, hlk, hF⟩ := id hC
  exact k hk.2.2 hk.1 hk.2.1 l g p e s m args below meth c H locs A hC hk hP hS hA
end hh_rules
