
def hh_tbl : List Cond := lw_tbl.filter goodWord
theorem hh_in {w : Cond} (i : Nat) (h : lw_tbl[i]? = some w) (g : goodWord w = true) : w ∈ hh_tbl := List.mem_filter.mpr ⟨List.mem_of_getElem? h, g⟩
theorem hh_inl {w : Cond} (h : w ∈ hh_tbl) : w ∈ lw_tbl := (List.mem_filter.mp h).1
theorem hh_good : GoodIn hh_tbl hh_tbl := fun _ h => ⟨h, good_of_word (List.mem_filter.mp h).2⟩
/-- a value: an int, a long, a region -/
abbrev hh_V : Type := Int ⊕ Int ⊕ Nat
abbrev hh_I (x : Int) : hh_V := Sum.inl x
abbrev hh_L (x : Int) : hh_V := Sum.inr (Sum.inl x)
abbrev hh_R (r : Nat) : hh_V := Sum.inr (Sum.inr r)
/-- what all regions hold -/
abbrev hh_S : Type := Nat → Int → Int
abbrev hh_G : Type := (Nat → Nat) × (Nat → ClassId) × va_G
/-- a method: name, bytes, locals, return -/
abbrev hh_M : Type := MethodName × ByteArray × Nat × Option FieldType
def hh_tr (g : hh_G) : hh_V → Value
  | .inl x => .int (Int32.ofInt x)
  | .inr (.inl x) => .long (Int64.ofInt x)
  | .inr (.inr r) => .ref (g.1 r)
abbrev hh_can (x : Int) : Prop := -2147483648 ≤ x ∧ x ≤ 2147483647
abbrev hh_caL (x : Int) : Prop := -9223372036854775808 ≤ x ∧ x ≤ 9223372036854775807
def hh_cv : hh_V → Prop
  | .inl x => hh_can x
  | .inr (.inl x) => hh_caL x
  | .inr (.inr _) => True
def hh_cs (σ : hh_S) : Prop := ∀ (r : Nat) (i : Int), hh_can (σ r i)
def hh_wr (x : Int) : Int := (Int32.ofInt x).toInt
theorem hh_toInt (x : Int) (h : hh_can x) : (Int32.ofInt x).toInt = x := Int32.toInt_ofInt_of_le (by omega) (by omega)
theorem hh_toL (x : Int) (h : hh_caL x) : (Int64.ofInt x).toInt = x := Int64.toInt_ofInt_of_le (by omega) (by omega)
theorem hh_ofw (x : Int) : Int32.ofInt (hh_wr x) = Int32.ofInt x := Int32.ofInt_toInt _
theorem hh_can_i (x : Int32) : hh_can x.toInt := by
  have h1 := x.toInt_lt
  have h2 := x.le_toInt
  constructor <;> omega
theorem hh_can_wr (x : Int) : hh_can (hh_wr x) := hh_can_i _
theorem hh_wr_id {x : Int} (h : hh_can x) : hh_wr x = x := hh_toInt x h
theorem hh_eq {x y : Int} (hx : hh_can x) (hy : hh_can y) : Int32.ofInt x = Int32.ofInt y ↔ x = y := by
  rw [← Int32.toInt_inj, hh_toInt x hx, hh_toInt y hy]
theorem hh_lt {x y : Int} (hx : hh_can x) (hy : hh_can y) : Int32.ofInt x < Int32.ofInt y ↔ x < y := by
  rw [Int32.lt_iff_toInt_lt, hh_toInt x hx, hh_toInt y hy]
theorem hh_le {x y : Int} (hx : hh_can x) (hy : hh_can y) : Int32.ofInt x ≤ Int32.ofInt y ↔ x ≤ y := by
  rw [Int32.le_iff_toInt_le, hh_toInt x hx, hh_toInt y hy]
theorem hh_0 : Int32.ofInt 0 = 0 := rfl
theorem hh_clamp {i : Int} (h0 : 0 ≤ i) (h : i ≤ 2147483647) : (Int32.ofInt i).toNatClampNeg = i.toNat := by
  show (Int32.ofInt i).toInt.toNat = i.toNat
  rw [hh_toInt i ⟨by omega, h⟩]
theorem hh_vin {i : Int} {n : Nat} (h0 : 0 ≤ i) (h : i < (n : Int)) (hc : hh_can i) : vp_in (Int32.ofInt i) n := by
  intro q
  rcases q with q | q
  · rw [← hh_0, hh_lt hc ⟨by omega, by omega⟩] at q
    omega
  · rw [hh_clamp h0 hc.2] at q
    omega
/-- bits -/
def hh_and (x y : Int) : Int := (Int32.ofInt x &&& Int32.ofInt y).toInt
def hh_or (x y : Int) : Int := (Int32.ofInt x ||| Int32.ofInt y).toInt
def hh_xor (x y : Int) : Int := (Int32.ofInt x ^^^ Int32.ofInt y).toInt
def hh_shl (x y : Int) : Int := (Int32.ofInt x <<< (Int32.ofInt y &&& 31)).toInt
def hh_shr (x y : Int) : Int := (Int32.ofInt x >>> (Int32.ofInt y &&& 31)).toInt
def hh_ush (x y : Int) : Int := ((Int32.ofInt x).toUInt32 >>> ((Int32.ofInt y).toUInt32 &&& Int32.toUInt32 31)).toInt32.toInt
def hh_i2b (x : Int) : Int := (Int32.ofInt x).toInt8.toInt32.toInt
def hh_i2s (x : Int) : Int := (Int32.ofInt x).toInt16.toInt32.toInt
def hh_i2c (x : Int) : Int := ((Int32.ofInt x).toUInt32 % 65536).toInt32.toInt
def hh_nz (x : Int) : Int := (vp_nar .boolean (Int32.ofInt x)).toInt
/-- a region: an array (kind 0 int, 1 byte, 2 short, 3 boolean; length) or an object (class, fields: a region or a number) -/
abbrev hh_D : Type := (Nat × Nat) ⊕ (Nat × List (Option Nat))
def hh_dl : List hh_D := [.inr (11, [some 1, some 55, none, some 109, some 112, some 117, some 122, none, some 123, some 124, some 125, some 126, some 127]), .inr (4, [some 2, some 6, some 13, some 24, some 36, some 42, some 50, some 54, none]), .inr (6, [none, some 3, some 4, some 5]), .inl (0, 8), .inl (0, 8), .inl (0, 8), .inr (1, [none, some 7, some 8, some 9, some 10, some 11, some 12]), .inl (0, 5), .inl (0, 5), .inl (0, 15), .inl (0, 15), .inl (0, 15), .inl (0, 1800), .inr (5, [none, some 14, some 15, some 16, some 17, some 18, some 19, some 20, some 21, some 22, some 23]), .inl (0, 10), .inl (0, 10), .inl (0, 10), .inl (0, 10), .inl (0, 30), .inl (0, 30), .inl (0, 80), .inl (0, 10), .inl (0, 10), .inl (0, 60), .inr (3, [none, some 25, some 26, some 27, some 28, some 29, some 30, some 31, some 32, some 33, some 34, some 35]), .inl (0, 90), .inl (0, 90), .inl (0, 90), .inl (0, 90), .inl (0, 90), .inl (0, 90), .inl (0, 90), .inl (0, 90), .inl (0, 90), .inl (0, 90), .inl (0, 90), .inr (2, [none, some 37, some 38, some 39, some 40, some 41]), .inl (0, 60), .inl (0, 60), .inl (0, 60), .inl (0, 60), .inl (0, 60), .inr (0, [none, some 43, some 44, some 45, some 46, some 47, some 48, some 49]), .inl (0, 16), .inl (0, 16), .inl (0, 16), .inl (0, 16), .inl (0, 16), .inl (0, 16), .inl (0, 48), .inr (9, [none, some 51, some 52, some 53]), .inl (0, 6), .inl (0, 6), .inl (0, 6), .inl (0, 3), .inr (4, [some 56, some 60, some 67, some 78, some 90, some 96, some 104, some 108, none]), .inr (6, [none, some 57, some 58, some 59]), .inl (0, 8), .inl (0, 8), .inl (0, 8), .inr (1, [none, some 61, some 62, some 63, some 64, some 65, some 66]), .inl (0, 5), .inl (0, 5), .inl (0, 15), .inl (0, 15), .inl (0, 15), .inl (0, 1800), .inr (5, [none, some 68, some 69, some 70, some 71, some 72, some 73, some 74, some 75, some 76, some 77]), .inl (0, 10), .inl (0, 10), .inl (0, 10), .inl (0, 10), .inl (0, 30), .inl (0, 30), .inl (0, 80), .inl (0, 10), .inl (0, 10), .inl (0, 60), .inr (3, [none, some 79, some 80, some 81, some 82, some 83, some 84, some 85, some 86, some 87, some 88, some 89]), .inl (0, 90), .inl (0, 90), .inl (0, 90), .inl (0, 90), .inl (0, 90), .inl (0, 90), .inl (0, 90), .inl (0, 90), .inl (0, 90), .inl (0, 90), .inl (0, 90), .inr (2, [none, some 91, some 92, some 93, some 94, some 95]), .inl (0, 60), .inl (0, 60), .inl (0, 60), .inl (0, 60), .inl (0, 60), .inr (0, [none, some 97, some 98, some 99, some 100, some 101, some 102, some 103]), .inl (0, 16), .inl (0, 16), .inl (0, 16), .inl (0, 16), .inl (0, 16), .inl (0, 16), .inl (0, 48), .inr (9, [none, some 105, some 106, some 107]), .inl (0, 6), .inl (0, 6), .inl (0, 6), .inl (0, 3), .inr (8, [some 110, none, some 111, none, none, none, none, none, none, none, none, none]), .inl (1, 120), .inl (0, 120), .inr (10, [some 1, some 113, some 114, some 115, some 116]), .inl (0, 120), .inl (0, 90), .inl (0, 90), .inl (0, 90), .inr (7, [some 1, some 118, some 119, some 120, some 121, none, none]), .inl (3, 48), .inl (0, 8), .inl (0, 6), .inl (0, 6), .inl (0, 20), .inl (2, 40), .inl (0, 2), .inl (0, 240), .inl (0, 240), .inl (0, 3), .inr (12, [some 129, some 130, none, some 131, some 132, some 133, none, none, none, none, none, none, none, none, none, none, some 134, some 135, none, none, none, some 136, some 137, some 138, some 139, some 140, some 141, some 142, some 143, none, some 144, none, some 145, some 146, some 147]), .inl (0, 9100), .inl (0, 9100), .inl (0, 240), .inl (0, 240), .inl (0, 120), .inl (0, 482), .inl (0, 130), .inl (0, 130), .inl (0, 128), .inl (0, 3), .inl (0, 90), .inl (0, 7), .inl (0, 7), .inl (0, 7), .inl (0, 8), .inl (0, 20), .inl (0, 40), .inl (0, 2), .inl (0, 20)]
def hh_fv (g : hh_G) (σ : hh_S) (r k : Nat) : Option Nat → Value
  | none => .int (Int32.ofInt (σ r (k : Int)))
  | some q => .ref (g.1 q)
def hh_en (g : hh_G) (σ : hh_S) (r : Nat) : hh_D → va_E
  | .inl q => .inl (g.2.1 q.1, q.2, .inl (fun j => Int32.ofInt (σ r (j : Int))))
  | .inr q => .inr (q.1, q.2.mapIdx (fun k o => hh_fv g σ r k o))
def hh_wl (g : hh_G) (σ : hh_S) : va_W := hh_dl.mapIdx (fun r d => (g.1 r, hh_en g σ r d))
theorem hh_wl_at {g : hh_G} {σ : hh_S} {r : Nat} {d : hh_D} (h : hh_dl[r]? = some d) : (hh_wl g σ)[r]? = some (g.1 r, hh_en g σ r d) := by
  unfold hh_wl
  rw [List.getElem?_mapIdx, h]
  rfl
theorem hh_wl_of {g : hh_G} {σ : hh_S} {r : Nat} {q : Nat × va_E} (h : (hh_wl g σ)[r]? = some q) : ∃ d, hh_dl[r]? = some d ∧ q = (g.1 r, hh_en g σ r d) := by
  unfold hh_wl at h
  rw [List.getElem?_mapIdx] at h
  cases hd : hh_dl[r]? with
  | none => rw [hd] at h; cases h
  | some d => rw [hd] at h; exact ⟨d, rfl, (Option.some.inj h).symm⟩
theorem hh_en_eq {g : hh_G} {σ σ' : hh_S} {r : Nat} (h : σ' r = σ r) (d : hh_D) : hh_en g σ' r d = hh_en g σ r d := by
  cases d with
  | inl q => show Sum.inl _ = Sum.inl _; rw [h]
  | inr q =>
    show Sum.inr (q.1, q.2.mapIdx (fun k o => hh_fv g σ' r k o)) = Sum.inr (q.1, q.2.mapIdx (fun k o => hh_fv g σ r k o))
    have e : (fun k o => hh_fv g σ' r k o) = (fun k o => hh_fv g σ r k o) := by
      funext k o
      cases o with
      | none => show Value.int _ = Value.int _; rw [h]
      | some q => rfl
    rw [e]
theorem hh_wl_set {g : hh_G} {σ σ' : hh_S} {r : Nat} {d : hh_D} (h : hh_dl[r]? = some d) (hne : ∀ q, q ≠ r → σ' q = σ q) : (hh_wl g σ).set r (g.1 r, hh_en g σ' r d) = hh_wl g σ' := by
  apply List.ext_getElem?
  intro k
  by_cases hk : k = r
  · subst hk
    rw [List.getElem?_set, if_pos rfl, hh_wl_at h, if_pos]
    exact (List.getElem?_eq_some_iff.mp (hh_wl_at (g := g) (σ := σ) h)).1
  · rw [List.getElem?_set, if_neg (fun q => hk q.symm)]
    unfold hh_wl
    rw [List.getElem?_mapIdx, List.getElem?_mapIdx]
    cases hd : hh_dl[k]? with
    | none => rfl
    | some d => show some (g.1 k, hh_en g σ k d) = some (g.1 k, hh_en g σ' k d); rw [hh_en_eq (hne k hk)]
def hh_A (g : hh_G) : Nat → Prop := fun q => ∃ (r : Nat) (d : hh_D), hh_dl[r]? = some d ∧ g.1 r = q
def hh_inj (g : hh_G) : Prop := ∀ (r q : Nat) (d d' : hh_D), hh_dl[r]? = some d → hh_dl[q]? = some d' → g.1 r = g.1 q → r = q
theorem hh_DD {g : hh_G} (h : hh_inj g) (σ : hh_S) : va_D (hh_A g) (hh_wl g σ) := by
  constructor
  · intro i j p q hi hj he
    obtain ⟨d, h1, rfl⟩ := hh_wl_of hi
    obtain ⟨d', h2, rfl⟩ := hh_wl_of hj
    exact h i j d d' h1 h2 he
  · intro k q hk
    obtain ⟨d, h1, rfl⟩ := hh_wl_of hk
    exact ⟨k, d, h1, rfl⟩
def hh_up (σ : hh_S) (r : Nat) (i v : Int) : hh_S := fun r' => bif Nat.beq r' r then (fun j => if j = i then v else σ r j) else σ r'
theorem hh_up_ne {σ : hh_S} {r q : Nat} {i v : Int} (h : q ≠ r) : hh_up σ r i v q = σ q := by
  unfold hh_up
  have e : Nat.beq q r = false := by
    cases hb : Nat.beq q r with
    | false => rfl
    | true => exact absurd (Nat.eq_of_beq_eq_true hb) h
  rw [e]
  rfl
theorem hh_up_eq (σ : hh_S) (r : Nat) (i v : Int) : hh_up σ r i v r = fun j => if j = i then v else σ r j := by
  unfold hh_up
  have e : Nat.beq r r = true := Nat.beq_refl r
  rw [e]
  rfl
theorem hh_cs_up {σ : hh_S} (h : hh_cs σ) (r : Nat) (i : Int) {v : Int} (hv : hh_can v) : hh_cs (hh_up σ r i v) := by
  intro q j
  by_cases hq : q = r
  · subst hq
    rw [hh_up_eq]
    by_cases hj : j = i
    · show hh_can (if j = i then v else σ q j)
      rw [if_pos hj]; exact hv
    · show hh_can (if j = i then v else σ q j)
      rw [if_neg hj]; exact h q j
  · rw [hh_up_ne hq]; exact h q j
/-- strings: three literals, their bytes -/
def hh_sl : List Nat := [5, 4, 7]
def hh_sb : List (List Int32) := [[112, 97, 114, 116, 115], [114, 97, 116, 101], [110, 114, 107, 99, 103, 119, 109]]
def hh_X (g : hh_G) (U : State) : Prop :=
  vk_S 3 hh_sl hh_sb (fun i => g.1 (1000 + i)) (fun i => g.1 (2000 + i)) (hh_A g) U U.heap ∧ (vk_R "HourHouse$Tape" 48 "parts" (g.1 1000) U ∧ vk_R "HourHouse$Tape" 60 "rate" (g.1 1001) U ∧ vk_R "HourHouse$Tape" 122 "nrkcgwm" (g.1 1002) U) ∧ va_Z "java/lang/String" "COMPACT_STRINGS" "Z" (.int 1) (hh_A g) U U.heap ∧ va_Zq "jdk/internal/util/Preconditions" "SIOOBE_FORMATTER" "Ljava/util/function/BiFunction;" (hh_A g) U U.heap
def hh_nx : List (String × Nat × MethodName × String) := [("HourHouse$Bills", 37, ⟨"HourHouse", "within", "(III)Z"⟩, "HourHouse"), ("HourHouse$Bills", 41, ⟨"HourHouse", "takeOver", "([I[I)V"⟩, "HourHouse"), ("HourHouse$Clients", 34, ⟨"HourHouse", "within", "(III)Z"⟩, "HourHouse"), ("HourHouse$Clients", 38, ⟨"HourHouse", "takeOver", "([I[I)V"⟩, "HourHouse"), ("HourHouse$Doors", 31, ⟨"HourHouse", "takeOver", "([I[I)V"⟩, "HourHouse"), ("HourHouse$Entries", 49, ⟨"HourHouse", "within", "(III)Z"⟩, "HourHouse"), ("HourHouse$Entries", 58, ⟨"HourHouse", "takeOver", "([I[I)V"⟩, "HourHouse"), ("HourHouse$House", 84, ⟨"HourHouse", "takeOver", "([I[I)V"⟩, "HourHouse"), ("HourHouse$Matters", 46, ⟨"HourHouse", "within", "(III)Z"⟩, "HourHouse"), ("HourHouse$Matters", 60, ⟨"HourHouse", "takeOver", "([I[I)V"⟩, "HourHouse"), ("HourHouse$People", 25, ⟨"HourHouse", "within", "(III)Z"⟩, "HourHouse"), ("HourHouse$People", 29, ⟨"HourHouse", "takeOver", "([I[I)V"⟩, "HourHouse"), ("HourHouse$Planner", 40, ⟨"HourHouse", "takeOver", "([I[I)V"⟩, "HourHouse"), ("HourHouse$Tasks", 25, ⟨"HourHouse", "takeOver", "([I[I)V"⟩, "HourHouse")]
def hh_ty (g : hh_G) : List (ClassId × FieldType) := [(g.2.1 0, .int), (g.2.1 1, .byte), (g.2.1 2, .short), (g.2.1 3, .boolean)]
def hh_F (g : hh_G) (U : State) : Prop := va_K g.2.2 vwCl (hh_ty g) U ∧ hh_inj g ∧ (∀ q ∈ hh_nx, va_Nw (.methodLinkNest q.1 q.2.1 q.2.2.1 q.2.2.2) U) ∧ hh_X g U
theorem hh_F.same {g : hh_G} {u U : State} (hv : U.vm = u.vm) (hh : U.heap = u.heap) (h : hh_F g u) : hh_F g U := by
  have ha : u.vm.Alike U.vm := by rw [hv]; exact Vm.Alike.refl _
  obtain ⟨h1, h2, h3, h4, ⟨h5, h6, h7⟩, h8, h9⟩ := h
  refine ⟨va_K.moved ha h1, h2, fun q hq => va_Nw.same rfl hv.symm (h3 q hq), ?_, ⟨vk_R.same hv h5, vk_R.same hv h6, vk_R.same hv h7⟩, ?_, ?_⟩
  · rw [hh]; exact h4.moved ha
  · rw [hh]; exact h8.moved ha
  · rw [hh]; exact h9.moved ha
theorem hh_F.to {g : hh_G} {s U : State} {locs : List Loc} (h : hh_F g s) (hS : va_S (hh_A g) s.heap U.heap locs) (hW : s.WarmedH U.vm) : hh_F g U := by
  obtain ⟨h1, h2, h3, h4, ⟨h5, h6, h7⟩, h8, h9⟩ := h
  exact ⟨va_K.moved hW.alike h1, h2, fun q hq => va_Nw.warmM hW (h3 q hq), (h4.kept (fun a z1 z2 => hS.2.1 a z1 z2)).moved hW.alike, ⟨vk_R.warm hW h5, vk_R.warm hW h6, vk_R.warm hW h7⟩, (h8.kept (fun a z1 z2 => hS.2.1 a z1 z2)).moved hW.alike, (h9.kept (fun a z1 z2 => hS.2.1 a z1 z2)).moved hW.alike⟩
def hh_C (mi : hh_M) (g : hh_G) (p : Program) (s : State) (m : MethodId) (args : Array Value) (meth : Method) (c : Code) : Prop :=
  p.tables.exec = Jvm.exec ∧ c.code = mi.2.1 ∧ meth.sig.returnType = mi.2.2.2 ∧ c.maxLocals = mi.2.2.1 ∧ s.vm.findClass mi.1.cls = some m.cls ∧ (∀ w ∈ hh_tbl, w.before args s = true) ∧ meth.locks = false ∧ hh_F g s
/-- the locals, listed -/
def hh_al (g : hh_G) : Nat → List (Option hh_V) → List (Nat × Value)
  | _, [] => []
  | k, none :: t => hh_al g (k + 1) t
  | k, some v :: t => (k, hh_tr g v) :: hh_al g (k + 1) t
theorem hh_al_mem {g : hh_G} {q : Nat × Value} : ∀ (ls : List (Option hh_V)) (k : Nat), q ∈ hh_al g k ls ↔ ∃ (i : Nat) (v : hh_V), ls[i]? = some (some v) ∧ q = (k + i, hh_tr g v) := by
  intro ls
  induction ls with
  | nil => intro k; constructor
           · intro h; cases h
           · rintro ⟨i, v, h, -⟩; simp at h
  | cons o t ih =>
    intro k
    cases o with
    | none =>
      show q ∈ hh_al g (k + 1) t ↔ _
      rw [ih (k + 1)]
      constructor
      · rintro ⟨i, v, h, e⟩
        exact ⟨i + 1, v, h, by rw [e]; congr 1; omega⟩
      · rintro ⟨i, v, h, e⟩
        cases i with
        | zero => simp at h
        | succ i => exact ⟨i, v, h, by rw [e]; congr 1; omega⟩
    | some w =>
      show q ∈ (k, hh_tr g w) :: hh_al g (k + 1) t ↔ _
      rw [List.mem_cons, ih (k + 1)]
      constructor
      · rintro (e | ⟨i, v, h, e⟩)
        · exact ⟨0, w, rfl, e⟩
        · exact ⟨i + 1, v, h, by rw [e]; congr 1; omega⟩
      · rintro ⟨i, v, h, e⟩
        cases i with
        | zero => left; rw [e]; have : w = v := Option.some.inj (Option.some.inj h); rw [this]; rfl
        | succ i => exact Or.inr ⟨i, v, h, by rw [e]; congr 1; omega⟩
def hh_rm (d : Nat) : Room := { frames := d, cells := 0, slots := 0, locals := 64 * d }
def hh_ro : Option FieldType → Int → Option Value
  | none, _ => none
  | some _, x => some (.int (Int32.ofInt x))
def hh_Qc (mi : hh_M) (g : hh_G) (Q : Int → hh_S → Prop) : Array Value → State → Outcome → State → Prop := fun _ st oc t =>
  (∃ (x : Int) (σ : hh_S), oc = .returned (hh_ro mi.2.2.2 x) ∧ Q x σ ∧ hh_can x ∧ hh_cs σ ∧ va_P g.2.2 vwCl (hh_wl g σ) t.heap) ∧ va_F (hh_A g) st t
def hh_ok (ls : List (Option hh_V)) (st : List hh_V) (σ : hh_S) : Prop := (∀ v, some v ∈ ls → hh_cv v) ∧ (∀ v ∈ st, hh_cv v) ∧ hh_cs σ
/-- THE JUDGEMENT: from pc with these locals, this stack and this store, method mi comes to its end with Q -/
def hh_J (d : Nat) (mi : hh_M) (pc : Nat) (ls : List (Option hh_V)) (st : List hh_V) (σ : hh_S) (Q : Int → hh_S → Prop) : Prop :=
  ∀ (l : Launch) (g : hh_G) (p : Program) (e : Env) (s : State) (m : MethodId) (args : Array Value) (below : List Frame) (meth : Method) (c : Code) (H : Heap) (locs : List Loc) (A : Array Slot),
    hh_C mi g p s m args meth c → hh_ok ls st σ → va_P g.2.2 vwCl (hh_wl g σ) H → va_S (hh_A g) s.heap H locs → lv_has A mi.2.2.1 (hh_al g 0 ls) →
    W p l e (hh_rm d) s m args below meth c H locs 0 0 (MQ below (hh_Qc mi g Q) args s 0 0 (hh_A g)) (F0 m pc A (st.map (hh_tr g)))
/-- a method's contract -/
def hh_Sp (d : Nat) (mi : hh_M) (as : List hh_V) (σ : hh_S) (Q : Int → hh_S → Prop) : Prop :=
  ∀ (l : Launch) (g : hh_G), Met l mi.1 (.code mi.1 mi.2.1 mi.2.2.1 mi.2.2.2 :: hh_tbl) (hh_rm d) (va_Pc (as.map (hh_tr g)) (fun U => hh_F g U ∧ (∀ v ∈ as, hh_cv v) ∧ hh_cs σ ∧ va_P g.2.2 vwCl (hh_wl g σ) U.heap)) (hh_Qc mi g Q) 0 0 (hh_A g)
