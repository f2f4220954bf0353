/-! making: how constructors are walked -/
abbrev hk_G : Type := (Nat → ClassId) × va_G
abbrev hk_ty (K : hk_G) : List (ClassId × FieldType) := [(K.1 0, .int), (K.1 1, .byte), (K.1 2, .short), (K.1 3, .boolean)]
def hk_nx : List (String × Nat × MethodName × String) := [("HourHouse", 9, yX4_init, "HourHouse"), ("HourHouse$House", 9, yX6_init, "HourHouse"), ("HourHouse$House", 18, yX1_init, "HourHouse"), ("HourHouse$House", 25, yX5_init, "HourHouse"), ("HourHouse$House", 32, yX3_init, "HourHouse"), ("HourHouse$House", 39, yX2_init, "HourHouse"), ("HourHouse$House", 46, yX0_init, "HourHouse"), ("HourHouse$House", 53, yX9_init, "HourHouse"), ("HourHouse", 25, yX8_init, "HourHouse")]
def hk_F (K : hk_G) (U : State) : Prop := va_K K.2 vwCl (hk_ty K) U ∧ ∀ q ∈ hk_nx, va_Nw (.methodLinkNest q.1 q.2.1 q.2.2.1 q.2.2.2) U
theorem hk_F.same {K : hk_G} {u U : State} (hv : U.vm = u.vm) (h : hk_F K u) : hk_F K U := by
  have ha : u.vm.Alike U.vm := by rw [hv]; exact Vm.Alike.refl _
  exact ⟨va_K.moved ha h.1, fun q hq => va_Nw.same rfl hv.symm (h.2 q hq)⟩
theorem hk_F.warm {K : hk_G} {s U : State} (hW : s.WarmedH U.vm) (h : hk_F K s) : hk_F K U := ⟨va_K.moved hW.alike h.1, fun q hq => va_Nw.warmM hW (h.2 q hq)⟩
def hk_rm (d mc ms : Nat) : Room := { frames := d, cells := mc, slots := ms, locals := 64 * d }
def hk_C (K : hk_G) (mi : hh_M) (p : Program) (s : State) (m : MethodId) (args : Array Value) (meth : Method) (c : Code) : Prop :=
  p.tables.exec = Jvm.exec ∧ c.code = mi.2.1 ∧ meth.sig.returnType = none ∧ c.maxLocals = mi.2.2.1 ∧ s.vm.findClass mi.1.cls = some m.cls ∧ (∀ w ∈ hh_tbl, w.before args s = true) ∧ meth.locks = false ∧ meth.name = "<init>" ∧ hk_F K s
def hk_al : Nat → List Value → List (Nat × Value)
  | _, [] => []
  | k, v :: t => (k, v) :: hk_al (k + 1) t
theorem hk_al_at : ∀ (ls : List Value) (k i : Nat) (v : Value), ls[i]? = some v → (k + i, v) ∈ hk_al k ls
  | [], _, _, _, h => by simp at h
  | a :: t, k, 0, v, h => by
    have e : a = v := Option.some.inj h
    rw [e]
    exact List.mem_cons_self
  | a :: t, k, i + 1, v, h => by
    have := hk_al_at t (k + 1) i v h
    rw [show k + 1 + i = k + (i + 1) by omega] at this
    exact List.mem_cons_of_mem _ this
def hk_B (K : hk_G) (A : Nat → Prop) (w : va_W) (t : State) : Prop := va_P K.2 vwCl w t.heap ∧ va_D A w
/-- a constructor, from pc on -/
def hk_J (K : hk_G) (d mc ms : Nat) (mi : hh_M) (pc : Nat) (ls st : List Value) (k n : Nat) (ws : va_W) (Post : va_W → Prop) : Prop :=
  ∀ (l : Launch) (p : Program) (e : Env) (s : State) (m : MethodId) (args : Array Value) (below : List Frame) (meth : Method) (c : Code) (H : Heap) (locs : List Loc) (A : Nat → Prop) (Arr : Array Slot),
    hk_C K mi p s m args meth c → va_P K.2 vwCl ws H → va_D A ws → va_S A s.heap H locs → (∀ q, s.heap.size ≤ q → A q) → lv_has Arr mi.2.2.1 (hk_al 0 ls) →
    W p l e (hk_rm d mc ms) s m args below meth c H locs k n (MQ below (va_Qv Post (hk_B K A) A) args s mc ms A) (F0 m pc Arr st)
/-- a constructor's contract -/
def hk_Sp (K : hk_G) (d mc ms : Nat) (mi : hh_M) (as : List Value) (w0 : va_W) (Post : va_W → Prop) : Prop :=
  ∀ (l : Launch) (sz : Nat), Met l mi.1 (.code mi.1 mi.2.1 mi.2.2.1 none :: hh_tbl) (hk_rm d mc ms) (va_Pc as (fun U => U.heap.size = sz ∧ va_P K.2 vwCl w0 U.heap ∧ hk_F K U ∧ va_D (fun _ => True) w0)) (va_Qv Post (hk_B K (va_A w0 sz)) (va_A w0 sz)) mc ms (va_A w0 sz)
section hk_rules
variable {K : hk_G} {d mc ms : Nat} {mi : hh_M} {pc : Nat} {ls st : List Value} {k n : Nat} {ws : va_W} {Post : va_W → Prop}
theorem hk_entry {as : List Value} {w0 : va_W} (hp : plainName mi.1.cls = true) (hin : mi.1.name = "<init>") (hsl : (lg_sl as).length ≤ mi.2.2.1) (hla : lv_args 0 as = hk_al 0 as) (kk : hk_J K d mc ms mi 0 as [] 0 0 w0 Post) : hk_Sp K d mc ms mi as w0 Post := by
  intro l sz
  refine Met.ofW (cc := mi.2.1) (maxL := mi.2.2.1) (ret := none) hp rfl ?_
  intro p e s m args below meth c s₁ B hml hv
  obtain ⟨rfl, hsz, hP, hF, hD0⟩ := hv
  have hts0 := atoms_spec (ws := .code mi.1 mi.2.1 mi.2.2.1 none :: hh_tbl) B.pre
  have hown : s.vm.findClass mi.1.cls = some m.cls := findClass_of_methodNamed B.named
  have hnm : meth.name = "<init>" := ((name_of_methodNamed B.named B.method).1).trans hin
  subst hsz
  have hl := lv_entry as (n := mi.2.2.1) hsl
  rw [lg_entry_eq]
  generalize (lg_sl as ++ List.replicate (mi.2.2.1 - (lg_sl as).length) Slot.unset).toArray = Arr at hl ⊢
  rw [hla] at hl
  exact kk l p e s m _ below meth c s.heap [] (va_A w0 s.heap.size) Arr ⟨B.exec, B.bytes, B.returns, hml, hown, fun w hw => hts0 w (List.mem_cons_of_mem _ hw), B.notSynchronized, hnm, hF⟩ hP (hD0.self (sz := s.heap.size)) va_S.rf (fun q h => Or.inr h) hl
theorem hk_aload {i : Fin 4} {x : Nat} (hd : decode mi.2.1 pc = .ok (.aload_n i, 1)) (hl : ls[(i : Nat)]? = some (.ref x)) (kk : hk_J K d mc ms mi (pc + 1) ls (.ref x :: st) k n ws Post) : hk_J K d mc ms mi pc ls st k n ws Post := by
  intro l p e s m args below meth c H locs A Arr hC hP hD hS hA hL
  obtain ⟨hx, hb, hr, hml, hown, hts, hlk, hin, hF⟩ := id hC
  have h1 := hk_al_at ls 0 i (.ref x) hl
  rw [Nat.zero_add] at h1
  exact lv_aload_n hx hb hd rfl (hL.2.2 _ h1) (kk l p e s m args below meth c H locs A Arr hC hP hD hS hA hL)
theorem hk_iconst {x : Int} (hd : decode mi.2.1 pc = .ok (.iconst x, 1)) (kk : hk_J K d mc ms mi (pc + 1) ls (.int (Int32.ofInt x) :: st) k n ws Post) : hk_J K d mc ms mi pc ls st k n ws Post := by
  intro l p e s m args below meth c H locs A Arr hC hP hD hS hA hL
  obtain ⟨hx, hb, hr, hml, hown, hts, hlk, hin, hF⟩ := id hC
  exact lv_iconst hx hb hd rfl (kk l p e s m args below meth c H locs A Arr hC hP hD hS hA hL)
theorem hk_bipush {x : Int} (hd : decode mi.2.1 pc = .ok (.bipush x, 2)) (hv : (Int8.ofInt x).toInt32 = Int32.ofInt x) (kk : hk_J K d mc ms mi (pc + 2) ls (.int (Int32.ofInt x) :: st) k n ws Post) : hk_J K d mc ms mi pc ls st k n ws Post := by
  intro l p e s m args below meth c H locs A Arr hC hP hD hS hA hL
  obtain ⟨hx, hb, hr, hml, hown, hts, hlk, hin, hF⟩ := id hC
  exact lv_bipush hx hb hd hv (kk l p e s m args below meth c H locs A Arr hC hP hD hS hA hL)
theorem hk_sipush {x : Int} (hd : decode mi.2.1 pc = .ok (.sipush x, 3)) (hv : (Int16.ofInt x).toInt32 = Int32.ofInt x) (kk : hk_J K d mc ms mi (pc + 3) ls (.int (Int32.ofInt x) :: st) k n ws Post) : hk_J K d mc ms mi pc ls st k n ws Post := by
  intro l p e s m args below meth c H locs A Arr hC hP hD hS hA hL
  obtain ⟨hx, hb, hr, hml, hown, hts, hlk, hin, hF⟩ := id hC
  exact lv_sipush hx hb hd hv (kk l p e s m args below meth c H locs A Arr hC hP hD hS hA hL)
theorem hk_dup {v : Value} (hd : decode mi.2.1 pc = .ok (.dup, 1)) (hv : v.category = 1) (kk : hk_J K d mc ms mi (pc + 1) ls (v :: v :: st) k n ws Post) : hk_J K d mc ms mi pc ls (v :: st) k n ws Post := by
  intro l p e s m args below meth c H locs A Arr hC hP hD hS hA hL
  obtain ⟨hx, hb, hr, hml, hown, hts, hlk, hin, hF⟩ := id hC
  exact lv_dup hx hb hd hv (kk l p e s m args below meth c H locs A Arr hC hP hD hS hA hL)
theorem hk_obj {x idx : Nat} (hd : decode mi.2.1 pc = .ok (.invokespecial idx, 3)) (h1 : Cond.methodLink mi.1.cls idx Lib.objectInit ∈ hh_tbl) (h2 : Cond.instanceMethod Lib.objectInit ∈ hh_tbl) (h3 : Cond.code Lib.objectInit ⟨#[0xb1]⟩ 1 none ∈ hh_tbl) (hdp : 1 ≤ d) (kk : hk_J K d mc ms mi (pc + 3) ls [] k n ws Post) : hk_J K d mc ms mi pc ls [.ref x] k n ws Post := by
  intro l p e s m args below meth c H locs A Arr hC hP hD hS hA hL
  obtain ⟨hx, hb, hr, hml, hown, hts, hlk, hin, hF⟩ := id hC
  refine W.objInit hx hb hown (hts _ h1) (hts _ h2) (hts _ h3) rfl (by rw [hml]; exact hL.1) rfl hd hdp ?_ ?_
  · show _ + 12 ≤ 64 * d
    have : 2 * (F0 m pc Arr [.ref x]).monitorRoom + (([] : List Value).map fun v => v.category).sum ≤ 8 := lv_room (by decide)
    omega
  · refine W.eq (g2 := F0 m (pc + 3) Arr []) rfl ?_
    exact kk l p e s m args below meth c H locs A Arr hC hP hD hS hA hL
theorem hk_newa {aty : ArrayType} {t N : Nat} {ty : FieldType} (hd : decode mi.2.1 pc = .ok (.newarray aty, 2)) (hw : Cond.arrayClass (newarray.typeOf aty) ∈ hh_tbl) (hty : newarray.typeOf aty = ty) (ht : (hk_ty K)[t]? = some (K.1 t, ty)) (hu : ∀ (U : State) (c1 c2 : ClassId), va_RA U c1 ty → va_RA U c2 ty → c1 = c2) (hcell : ∀ cA : ClassId, vp_cell cA (N, .inl (fun _ => 0)) = arrV cA N (fun _ => defaultValue ty)) (hneg : ¬ Int32.ofInt (N : Int) < 0) (hcl : (Int32.ofInt (N : Int)).toNatClampNeg = N) (hby : N * componentBytes ty ≤ 536870912) (hk : k + 1 ≤ mc) (hn : n + N ≤ ms) (kk : ∀ q : Nat, hk_J K d mc ms mi (pc + 2) ls (.ref q :: st) (k + 1) (n + N) (ws ++ [(q, .inl (K.1 t, N, .inl (fun _ => 0)))]) Post) : hk_J K d mc ms mi pc ls (.int (Int32.ofInt (N : Int)) :: st) k n ws Post := by
  intro l p e s m args below meth c H locs A Arr hC hP hD hS hA hL
  obtain ⟨hx, hb, hr, hml, hown, hts, hlk, hin, hF⟩ := id hC
  refine va_newa hx hb (hts _ hw) hty hF.1 hP hD hS hA (a0 := (N, .inl (fun _ => 0))) hcell hneg hcl hby hk hn hd (fun q cA H1 hK1 hP1 hD1 hS1 => ?_)
  have e : cA = K.1 t := hu s cA (K.1 t) (hK1.2 4 (cA, ty) rfl).2 (hF.1.2 t _ ht).2
  subst e
  exact kk q l p e s m args below meth c H1 locs A Arr hC hP1 hD1 hS1 hA hL
/-- a field of a class: whether final, its type -/
def hk_FP (own : String) (idx ci f : Nat) (fin : Bool) (ty : FieldType) : Prop := ∃ (C : String) (T : u_T) (N : Nat) (ty0 : Nat → FieldType), vwCl[ci]? = some (C, T, N) ∧ f < N ∧ (∀ w ∈ u_ws C T N, w ∈ hh_tbl) ∧ Cond.fieldLink own idx (T f).1 (T f).2.1 (T f).2.2.1 ∈ hh_tbl ∧ (∀ k, k < N → parseFieldDescriptor (T k).2.2.1 = some (ty0 k)) ∧ (∀ a, a < N → ∀ b, b < N → a ≠ b → (T a).2.1 ≠ (T b).2.1) ∧ (T f).2.2.2 = fin ∧ (T f).1 = own ∧ parseFieldDescriptor (T f).2.2.1 = some ty
theorem hk_put {h0 ci f idx : Nat} {fin : Bool} {ty : FieldType} {fs : List Value} {v : Value} {R : va_W} (hd : decode mi.2.1 pc = .ok (.putfield idx, 3)) (hf : hk_FP mi.1.cls idx ci f fin ty) (hn : narrow ty v = v) (hfit : fits ty v = true) (hl : f < fs.length) (kk : hk_J K d mc ms mi (pc + 3) ls st k n ((h0, .inr (ci, fs.set f v)) :: R) Post) : hk_J K d mc ms mi pc ls (v :: .ref h0 :: st) k n ((h0, .inr (ci, fs)) :: R) Post := by
  intro l p e s m args below meth c H locs A Arr hC hP hD hS hA hL
  obtain ⟨hx, hb, hr, hml, hown, hts, hlk, hin, hF⟩ := id hC
  obtain ⟨C, T, N, ty0, g1, g2, g3, g4, g5, g6, g7, g8, g9⟩ := hf
  cases fin with
  | false => exact va_put (D := K.2) (ci := ci) (v := v) (ty := ty) (C := C) (T := T) (N := N) hx hb hts g3 ty0 g5 g6 hown hF.1 hP hD hS 0 rfl g1 f g2 (hts _ g4) (fun _ h9 => h9) g7 g9 hn hfit hl hd (fun H1 locs1 hP1 hD1 hS1 => kk l p e s m args below meth c H1 locs1 A Arr hC hP1 hD1 hS1 hA hL)
  | true => exact va_putF (D := K.2) (ci := ci) (v := v) (ty := ty) (C := C) (T := T) (N := N) hx hb hts g3 ty0 g5 g6 hown hF.1 hP hD hS 0 rfl g1 f g2 (hts _ g4) (fun _ h9 => h9) g7 hin g8 g9 hn hfit hl hd (fun H1 locs1 hP1 hD1 hS1 => kk l p e s m args below meth c H1 locs1 A Arr hC hP1 hD1 hS1 hA hL)
theorem hk_get {h0 ci f idx : Nat} {fin : Bool} {ty : FieldType} {fs : List Value} {v : Value} {R : va_W} (hd : decode mi.2.1 pc = .ok (.getfield idx, 3)) (hf : hk_FP mi.1.cls idx ci f fin ty) (hv : fs[f]? = some v) (kk : hk_J K d mc ms mi (pc + 3) ls (v :: st) k n ((h0, .inr (ci, fs)) :: R) Post) : hk_J K d mc ms mi pc ls (.ref h0 :: st) k n ((h0, .inr (ci, fs)) :: R) Post := by
  intro l p e s m args below meth c H locs A Arr hC hP hD hS hA hL
  obtain ⟨hx, hb, hr, hml, hown, hts, hlk, hin, hF⟩ := id hC
  obtain ⟨C, T, N, ty0, g1, g2, g3, g4, g5, g6, g7, g8, g9⟩ := hf
  exact va_get (D := K.2) (ci := ci) (C := C) (T := T) (N := N) hx hb hts g3 hown hF.1 hP 0 rfl g1 f g2 (hts _ g4) (fun _ h9 => h9) hv hd (kk l p e s m args below meth c H locs A Arr hC hP hD hS hA hL)
/-- a class that can be made: its number, its fields' first values -/
def hk_N (own : String) (idx ci : Nat) (N : Nat) (fs : List Value) : Prop := ∃ (C : String) (T : u_T) (ty0 : Nat → FieldType), vwCl[ci]? = some (C, T, N) ∧ (∀ w ∈ u_ws C T N, w ∈ hh_tbl) ∧ (∀ k, k < N → parseFieldDescriptor (T k).2.2.1 = some (ty0 k)) ∧ Cond.classLink own idx C ∈ hh_tbl ∧ Cond.instantiable C N ∈ hh_tbl ∧ Cond.initialized C ∈ hh_tbl ∧ ∀ j, j < N → defaultValue (ty0 j) = vp_V fs j
theorem hk_new {ci idx N : Nat} {fs : List Value} (hd : decode mi.2.1 pc = .ok (.new idx, 3)) (hN : hk_N mi.1.cls idx ci N fs) (hk : k + 1 ≤ mc) (hn : n + N ≤ ms) (kk : ∀ q : Nat, hk_J K d mc ms mi (pc + 3) ls (.ref q :: st) (k + 1) (n + N) (ws ++ [(q, .inr (ci, fs))]) Post) : hk_J K d mc ms mi pc ls st k n ws Post := by
  intro l p e s m args below meth c H locs A Arr hC hP hD hS hA hL
  obtain ⟨hx, hb, hr, hml, hown, hts, hlk, hin, hF⟩ := id hC
  obtain ⟨C, T, ty0, g1, g2, g3, g4, g5, g6, g7⟩ := hN
  exact va_new (ci := ci) (fs := fs) (C := C) (T := T) (N := N) hx hb hts g2 ty0 g3 hown (hts _ g4) (hts _ g5) (hts _ g6) hF.1 hP hD hS hA g1 g7 hk hn hd (fun q H1 hP1 hD1 hS1 => kk q l p e s m args below meth c H1 locs A Arr hC hP1 hD1 hS1 hA hL)
theorem hk_iast {q0 a N : Nat} {f : Nat → Int32} {i x : Int32} (hd : decode mi.2.1 pc = .ok (.iastore, 1)) (ha : ws[q0]? = some (a, .inl (K.1 0, N, .inl f))) (hin' : vp_in i N) (kk : hk_J K d mc ms mi (pc + 1) ls st k n (ws.set q0 (a, .inl (K.1 0, N, .inl (upd f i.toNatClampNeg x)))) Post) : hk_J K d mc ms mi pc ls (.int x :: .int i :: .ref a :: st) k n ws Post := by
  intro l p e s m args below meth c H locs A Arr hC hP hD hS hA hL
  obtain ⟨hx, hb, hr, hml, hown, hts, hlk, hin, hF⟩ := id hC
  exact va_iast hx hb hF.1 hP hD hS q0 0 ha rfl hin' hd (fun H1 locs1 hP1 hD1 hS1 => kk l p e s m args below meth c H1 locs1 A Arr hC hP1 hD1 hS1 hA hL)
theorem hk_ret (hd : decode mi.2.1 pc = .ok (.return_, 1)) (hk : k ≤ mc) (hn : n ≤ ms) (hq : Post ws) : hk_J K d mc ms mi pc ls [] k n ws Post := by
  intro l p e s m args below meth c H locs A Arr hC hP hD hS hA hL
  obtain ⟨hx, hb, hr, hml, hown, hts, hlk, hin, hF⟩ := id hC
  refine W.widen hk hn ?_
  exact W.vret hx hb hr (fun t ht hW => ⟨⟨ws, rfl, hq, by rw [ht]; exact hP, hD⟩, hS.F ht⟩) hS.2.2 hd hlk
/-- behind a made child: its cells beside the rest -/
theorem hk_join {A0 : Nat → Prop} {D : va_G} {X : va_W} {y : Nat × va_E} {w1 : va_W} {H H1 : Heap} (hP : va_P D vwCl (X ++ [y]) H) (hD : va_D A0 (X ++ [y])) (hk : ∀ q : Nat, q < H.size → ¬ va_A [y] H.size q → H1[q]? = H[q]?) (hF : ∀ q, va_A [y] H.size q → A0 q) (hP1 : va_P D vwCl w1 H1) (hD1 : va_D (va_A [y] H.size) w1) : va_P D vwCl (X ++ w1) H1 ∧ va_D A0 (X ++ w1) := by
  have at1 : ∀ (j : Nat) (q : Nat × va_E), X[j]? = some q → (X ++ [y])[j]? = some q := fun j q h => by
    rw [List.getElem?_append_left (List.getElem?_eq_some_iff.mp h).1]; exact h
  have aty : (X ++ [y])[X.length]? = some y := by rw [List.getElem?_append_right (Nat.le_refl _), Nat.sub_self]; rfl
  have apart : ∀ (j : Nat) (q : Nat × va_E), X[j]? = some q → q.1 < H.size ∧ ¬ va_A [y] H.size q.1 := by
    intro j q h
    have hl := (hP j q (at1 j q h)).lt
    refine ⟨hl, fun z => ?_⟩
    rcases z with ⟨k2, e, h2⟩ | h2
    · have hz : k2 < 1 := (List.getElem?_eq_some_iff.mp h2).1
      rw [show k2 = 0 by omega] at h2
      have hy : y = (q.1, e) := Option.some.inj h2
      have := hD.1 j X.length q y (at1 j q h) aty (by rw [hy])
      have := (List.getElem?_eq_some_iff.mp h).1
      omega
    · omega
  refine ⟨va_P.app (fun j q h => ?_) hP1, va_D.app ⟨fun i j x y' hx hy => ?_, fun j q h => hD.2 j q (at1 j q h)⟩ (hD1.weaken (fun _ q _ h => hF q.1 h)) (fun i j x y' hx hy hxy => ?_)⟩
  · obtain ⟨g1, g2⟩ := apart j q h
    exact (hP j q (at1 j q h)).kept (hk q.1 g1 g2)
  · exact hD.1 i j x y' (at1 i x hx) (at1 j y' hy)
  · exact (apart i x hx).2 (by rw [hxy]; exact hD1.2 j y' hy)
theorem hk_free {A0 : Nat → Prop} {X : va_W} {y : Nat × va_E} {H0 H : Heap} {locs : List Loc} (hD : va_D A0 (X ++ [y])) (hS : va_S A0 H0 H locs) (hA : ∀ q, H0.size ≤ q → A0 q) : ∀ q, va_A [y] H.size q → A0 q := by
  intro q h
  rcases h with ⟨k2, e, h2⟩ | h2
  · have hz : k2 < 1 := (List.getElem?_eq_some_iff.mp h2).1
    rw [show k2 = 0 by omega] at h2
    have hy : y = (q, e) := Option.some.inj h2
    have := hD.2 X.length y (by rw [List.getElem?_append_right (Nat.le_refl _), Nat.sub_self]; rfl)
    rw [hy] at this
    exact this
  · exact hA q (Nat.le_trans hS.1 h2)
theorem hk_last {D : va_G} {X : va_W} {y : Nat × va_E} {H : Heap} (hP : va_P D vwCl (X ++ [y]) H) : va_P D vwCl [y] H := by
  intro j q h
  have hz : j < 1 := (List.getElem?_eq_some_iff.mp h).1
  rw [show j = 0 by omega] at h
  have hy : y = q := Option.some.inj h
  rw [← hy]
  exact hP X.length y (by rw [List.getElem?_append_right (Nat.le_refl _), Nat.sub_self]; rfl)
theorem hk_one {y : Nat × va_E} : va_D (fun _ => True) [y] := ⟨fun i j p q hi hj _ => by
  have h1 : i < 1 := (List.getElem?_eq_some_iff.mp hi).1
  have h2 : j < 1 := (List.getElem?_eq_some_iff.mp hj).1
  omega, fun _ _ _ => trivial⟩
def hk_mok (mi : hh_M) (n : Nat) : Prop := mi.2.2.2 = none ∧ mi.1.name = "<init>" ∧ Cond.code mi.1 mi.2.1 mi.2.2.1 none ∈ hh_tbl ∧ Cond.initialized mi.1.cls ∈ hh_tbl ∧ Cond.instanceMethod mi.1 ∈ hh_tbl ∧ (mi.1.cls ≠ "java/lang/invoke/MethodHandle" ∧ mi.1.cls ≠ "java/lang/invoke/VarHandle" ∧ (parseMethodDescriptor mi.1.desc).map (fun d => d.parameters.length) = some n) ∧ mi.2.2.1 ≤ 40
theorem hk_gws (h : Cond.code mi.1 mi.2.1 mi.2.2.1 none ∈ hh_tbl) : GoodIn hh_tbl (.code mi.1 mi.2.1 mi.2.2.1 none :: hh_tbl) := fun w hw => by
  rcases List.mem_cons.mp hw with e | hw
  · rw [e]; exact hh_good _ h
  · exact hh_good w hw
theorem hk_blind {av : List Value} {w0 : va_W} {sz : Nat} : FrameBlind (va_Pc av (fun U => U.heap.size = sz ∧ va_P K.2 vwCl w0 U.heap ∧ hk_F K U ∧ va_D (fun _ => True) w0)) := by
  intro a U gf mk q
  obtain ⟨q0, q1, q2, q3, q4⟩ := q
  exact ⟨q0, q1, q2, hk_F.same (u := U) rfl q3, q4⟩
/-- a child is made -/
theorem hk_call {mi' : hh_M} {mc' ms' b idx : Nat} {As : List Value} {E : va_E} {X : va_W} {Post' : va_W → Prop} (hd : decode mi.2.1 pc = .ok (.invokespecial idx, 3)) (hl : Cond.methodLink mi.1.cls idx mi'.1 ∈ hh_tbl ∨ ∃ host : String, (mi.1.cls, idx, mi'.1, host) ∈ hk_nx) (ho : hk_mok mi' As.length) (hst : (st.map fun v => v.category).sum ≤ 8) (hsp : hk_Sp K d mc' ms' mi' (.ref b :: As) [(b, E)] Post') (hk : k + mc' ≤ mc) (hn : n + ms' ≤ ms) (kk : ∀ w1 : va_W, Post' w1 → hk_J K (d + 1) mc ms mi (pc + 3) ls st (k + mc') (n + ms') (X ++ w1) Post) : hk_J K (d + 1) mc ms mi pc ls (As.reverse ++ .ref b :: st) k n (X ++ [(b, E)]) Post := by
  intro l p e s m args below meth c H locs A Arr hC hP hD hS hA hL
  obtain ⟨hx, hb, hr, hml, hown, hts, hlk, hin, hF⟩ := id hC
  obtain ⟨o0, o1, o2, o3, o4, o5, o6⟩ := ho
  have rm : (hk_rm d mc' ms').frames + 1 ≤ (hk_rm (d + 1) mc ms).frames ∧ 8 + (mi'.2.2.1 + 11) + (hk_rm d mc' ms').locals ≤ (hk_rm (d + 1) mc ms).locals := ⟨Nat.le_refl (d + 1), by show 8 + (mi'.2.2.1 + 11) + 64 * d ≤ 64 * (d + 1); omega⟩
  have hFc := hk_free hD hS hA
  have hPre : PreS s H (va_Pc (.ref b :: As) (fun U => U.heap.size = H.size ∧ va_P K.2 vwCl [(b, E)] U.heap ∧ hk_F K U ∧ va_D (fun _ => True) [(b, E)])) (.ref b :: As) := ⟨hk_blind, fun U hU hW => ⟨rfl, by rw [hU], by rw [hU]; exact hk_last hP, hF.warm hW, hk_one⟩⟩
  have GO : va_Run p l e (hk_rm (d + 1) mc ms) s m args below meth c H locs k n mc' ms' (F0 m pc Arr (As.reverse ++ .ref b :: st)) st (va_Qv Post' (hk_B K (va_A [(b, E)] H.size)) (va_A [(b, E)] H.size) (Value.ref b :: As).toArray) (va_A [(b, E)] H.size) := by
    rcases hl with hl | ⟨host, hl⟩
    · exact va_runI (As := As) (rest := st) ⟨hx, hb, hml, hown, hts⟩ (hsp l H.size) ⟨callB_of As.length hts (hk_gws o2) rfl rfl rfl (hts _ o3) (hts _ hl) o5 rm, o1, hts _ o4⟩ hPre rfl rfl hL.1 rfl (lv_room hst) hd ⟨hk, hn⟩
    · exact va_runIN (As := As) (rest := st) ⟨hx, hb, hml, hown, hts⟩ (hsp l H.size) ⟨va_cnB As.length hts (hk_gws o2) rfl rfl rfl (hF.2 _ hl) (hts _ o3) o5 rm, o1, hts _ o4⟩ hPre rfl rfl hL.1 rfl (lv_room hst) hd ⟨hk, hn⟩
  refine va_callv GO hS (fun q _ h => hFc q h) hFc (fun w1 t H1 locs1 ht hvm hw hB hz1 hk1 hS1 => ?_)
  obtain ⟨hP1, hD1⟩ := hB
  rw [ht] at hP1
  obtain ⟨hP2, hD2⟩ := hk_join hP hD hk1 hFc hP1 hD1
  exact kk w1 hw l p e s m args below meth c H1 locs1 A Arr hC hP2 hD2 hS1 hA hL
end hk_rules
