section hh_rules2
variable {d : Nat} {mi : hh_M} {pc : Nat} {ls : List (Option hh_V)} {st : List hh_V} {σ : hh_S} {Q : Int → hh_S → Prop}
def hh_ar (r t : Nat) (N : Int) : Prop := ∃ n : Nat, hh_dl[r]? = some (.inl (t, n)) ∧ (n : Int) = N ∧ N ≤ 1000000
def hh_ob (r ci k : Nat) (q : Option Nat) : Prop := ∃ fs : List (Option Nat), hh_dl[r]? = some (.inr (ci, fs)) ∧ fs[k]? = some q
def hh_FL (own : String) (idx ci k : Nat) (K : Int) : Prop := ∃ (C : String) (T : u_T) (N : Nat), vwCl[ci]? = some (C, T, N) ∧ k < N ∧ (∀ w ∈ u_ws C T N, w ∈ hh_tbl) ∧ Cond.fieldLink own idx (T k).1 (T k).2.1 (T k).2.2.1 ∈ hh_tbl ∧ (k : Int) = K
def hh_FP (own : String) (idx ci k : Nat) (K : Int) (ty : FieldType) : Prop := ∃ (C : String) (T : u_T) (N : Nat) (ty0 : Nat → FieldType), vwCl[ci]? = some (C, T, N) ∧ k < N ∧ (∀ w ∈ u_ws C T N, w ∈ hh_tbl) ∧ Cond.fieldLink own idx (T k).1 (T k).2.1 (T k).2.2.1 ∈ hh_tbl ∧ (k : Int) = K ∧ (∀ k, k < N → parseFieldDescriptor (T k).2.2.1 = some (ty0 k)) ∧ (∀ a, a < N → ∀ b, b < N → a ≠ b → (T a).2.1 ≠ (T b).2.1) ∧ (T k).2.2.2 = false ∧ parseFieldDescriptor (T k).2.2.1 = some ty
theorem hh_fs_at {g : hh_G} {r k : Nat} {q : Option Nat} {fs : List (Option Nat)} (h : fs[k]? = some q) : (fs.mapIdx (fun k o => hh_fv g σ r k o))[k]? = some (hh_fv g σ r k q) := by
  rw [List.getElem?_mapIdx, h]
  rfl
theorem hh_fs_set {g : hh_G} {r k : Nat} {x : Int} {fs : List (Option Nat)} (h : fs[k]? = some none) : (fs.mapIdx (fun k o => hh_fv g σ r k o)).set k (.int (Int32.ofInt x)) = fs.mapIdx (fun j o => hh_fv g (hh_up σ r (k : Int) x) r j o) := by
  apply List.ext_getElem?
  intro j
  rw [List.getElem?_set]
  by_cases e : k = j
  · subst e
    rw [if_pos rfl, if_pos (by rw [List.length_mapIdx]; exact (List.getElem?_eq_some_iff.mp h).1), List.getElem?_mapIdx, h]
    show some (Value.int _) = some (Value.int (Int32.ofInt (hh_up σ r (k : Int) x r (k : Int))))
    rw [hh_up_eq]
    show some (Value.int _) = some (Value.int (Int32.ofInt (if (k : Int) = (k : Int) then x else _)))
    rw [if_pos rfl]
  · rw [if_neg e, List.getElem?_mapIdx, List.getElem?_mapIdx]
    cases hj : fs[j]? with
    | none => rfl
    | some q =>
      cases q with
      | some q => rfl
      | none =>
        show some (Value.int (Int32.ofInt (σ r (j : Int)))) = some (Value.int (Int32.ofInt (hh_up σ r (k : Int) x r (j : Int))))
        rw [hh_up_eq]
        show _ = some (Value.int (Int32.ofInt (if (j : Int) = (k : Int) then x else σ r (j : Int))))
        rw [if_neg (fun z => e (by omega))]
theorem hh_arr_set {g : hh_G} {r t n : Nat} {i x : Int} (h0 : 0 ≤ i) (hc : hh_can i) : (Sum.inl (g.2.1 t, n, Sum.inl (upd (fun j : Nat => Int32.ofInt (σ r (j : Int))) (Int32.ofInt i).toNatClampNeg (Int32.ofInt x))) : va_E) = hh_en g (hh_up σ r i x) r (.inl (t, n)) := by
  show (Sum.inl (g.2.1 t, n, Sum.inl (upd (fun j : Nat => Int32.ofInt (σ r (j : Int))) (Int32.ofInt i).toNatClampNeg (Int32.ofInt x))) : va_E) = Sum.inl (g.2.1 t, n, Sum.inl (fun j : Nat => Int32.ofInt (hh_up σ r i x r (j : Int))))
  have e0 : upd (fun j : Nat => Int32.ofInt (σ r (j : Int))) (Int32.ofInt i).toNatClampNeg (Int32.ofInt x) = (fun j : Nat => Int32.ofInt (hh_up σ r i x r (j : Int))) := by
    funext j
    rw [hh_up_eq, hh_clamp h0 hc.2]
    show (if j = i.toNat then Int32.ofInt x else Int32.ofInt (σ r (j : Int))) = Int32.ofInt (if (j : Int) = i then x else σ r (j : Int))
    by_cases e : j = i.toNat
    · rw [if_pos e, if_pos (by omega)]
    · rw [if_neg e, if_neg (by omega)]
  rw [e0]
theorem hh_P_up {g : hh_G} {r : Nat} {dd : hh_D} {i x : Int} {H : Heap} {e : va_E} (hr : hh_dl[r]? = some dd) (he : e = hh_en g (hh_up σ r i x) r dd) (hP : va_P g.2.2 vwCl ((hh_wl g σ).set r (g.1 r, e)) H) : va_P g.2.2 vwCl (hh_wl g (hh_up σ r i x)) H := by
  rw [he, hh_wl_set hr (fun q hq => hh_up_ne hq)] at hP
  exact hP

theorem hh_getI {r ci f idx : Nat} {K v : Int} (hd : decode mi.2.1 pc = .ok (.getfield idx, 3)) (hf : hh_FL mi.1.cls idx ci f K) (ho : hh_ob r ci f none) (hv : σ r K = v) (k : hh_J d mi (pc + 3) ls (hh_I v :: st) σ Q) : hh_J d mi pc ls (hh_R r :: st) σ Q := by
  intro l g p e s m args below meth c H locs A hC hk hP hS hA
  obtain ⟨hx, hb, hr, hml, hown, hts, hlk, hF⟩ := id hC
  obtain ⟨C, T, N, h1, h2, h3, h4, rfl⟩ := hf
  obtain ⟨fs, h5, h6⟩ := ho
  refine va_get (D := g.2.2) (ci := ci) (C := C) (T := T) (N := N) hx hb hts h3 hown hF.1 hP r (hh_wl_at h5) h1 f h2 (hts _ h4) (fun _ h9 => h9) (hh_fs_at h6) hd ?_
  subst hv
  exact k l g p e s m args below meth c H locs A hC (hk.pop.push (hk.2.2 r _)) hP hS hA
theorem hh_getR {r ci f idx q : Nat} {K : Int} (hd : decode mi.2.1 pc = .ok (.getfield idx, 3)) (hf : hh_FL mi.1.cls idx ci f K) (ho : hh_ob r ci f (some q)) (k : hh_J d mi (pc + 3) ls (hh_R q :: st) σ Q) : hh_J d mi pc ls (hh_R r :: st) σ Q := by
  intro l g p e s m args below meth c H locs A hC hk hP hS hA
  obtain ⟨hx, hb, hr, hml, hown, hts, hlk, hF⟩ := id hC
  obtain ⟨C, T, N, h1, h2, h3, h4, rfl⟩ := hf
  obtain ⟨fs, h5, h6⟩ := ho
  refine va_get (D := g.2.2) (ci := ci) (C := C) (T := T) (N := N) hx hb hts h3 hown hF.1 hP r (hh_wl_at h5) h1 f h2 (hts _ h4) (fun _ h9 => h9) (hh_fs_at h6) hd ?_
  exact k l g p e s m args below meth c H locs A hC (hk.pop.push trivial) hP hS hA
theorem hh_putI {r ci f idx : Nat} {K x : Int} (hd : decode mi.2.1 pc = .ok (.putfield idx, 3)) (hf : hh_FP mi.1.cls idx ci f K .int) (ho : hh_ob r ci f none) (k : hh_J d mi (pc + 3) ls st (hh_up σ r K x) Q) : hh_J d mi pc ls (hh_I x :: hh_R r :: st) σ Q := by
  intro l g p e s m args below meth c H locs A hC hk hP hS hA
  obtain ⟨hx, hb, hr, hml, hown, hts, hlk, hF⟩ := id hC
  obtain ⟨C, T, N, ty0, h1, h2, h3, h4, rfl, h7, h8, h9, h10⟩ := hf
  obtain ⟨fs, h5, h6⟩ := ho
  refine va_put (D := g.2.2) (ci := ci) (C := C) (T := T) (N := N) (ty := .int) (v := .int (Int32.ofInt x)) hx hb hts h3 ty0 h7 h8 hown hF.1 hP (hh_DD hF.2.1 σ) hS r (hh_wl_at h5) h1 f h2 (hts _ h4) (fun _ h => h) h9 h10 rfl rfl (by rw [List.length_mapIdx]; exact (List.getElem?_eq_some_iff.mp h6).1) hd (fun H1 locs1 hP1 _ hS1 => ?_)
  have hP2 : va_P g.2.2 vwCl (hh_wl g (hh_up σ r (f : Int) x)) H1 := hh_P_up h5 (by show Sum.inr (ci, _) = Sum.inr (ci, _); rw [hh_fs_set h6]) hP1
  exact k l g p e s m args below meth c H1 locs1 A hC (hk.pop.pop.sto (hh_cs_up hk.2.2 r _ hk.top)) hP2 hS1 hA
theorem hh_putZ {r ci f idx : Nat} {K x : Int} (hd : decode mi.2.1 pc = .ok (.putfield idx, 3)) (hf : hh_FP mi.1.cls idx ci f K .boolean) (ho : hh_ob r ci f none) (hz : x = 0 ∨ x = 1) (k : hh_J d mi (pc + 3) ls st (hh_up σ r K x) Q) : hh_J d mi pc ls (hh_I x :: hh_R r :: st) σ Q := by
  intro l g p e s m args below meth c H locs A hC hk hP hS hA
  obtain ⟨hx, hb, hr, hml, hown, hts, hlk, hF⟩ := id hC
  obtain ⟨C, T, N, ty0, h1, h2, h3, h4, rfl, h7, h8, h9, h10⟩ := hf
  obtain ⟨fs, h5, h6⟩ := ho
  refine va_put (D := g.2.2) (ci := ci) (C := C) (T := T) (N := N) (ty := .boolean) (v := .int (Int32.ofInt x)) hx hb hts h3 ty0 h7 h8 hown hF.1 hP (hh_DD hF.2.1 σ) hS r (hh_wl_at h5) h1 f h2 (hts _ h4) (fun _ h => h) h9 h10 (by rcases hz with rfl | rfl <;> rfl) (by rcases hz with rfl | rfl <;> rfl) (by rw [List.length_mapIdx]; exact (List.getElem?_eq_some_iff.mp h6).1) hd (fun H1 locs1 hP1 _ hS1 => ?_)
  have hP2 : va_P g.2.2 vwCl (hh_wl g (hh_up σ r (f : Int) x)) H1 := hh_P_up h5 (by show Sum.inr (ci, _) = Sum.inr (ci, _); rw [hh_fs_set h6]) hP1
  exact k l g p e s m args below meth c H1 locs1 A hC (hk.pop.pop.sto (hh_cs_up hk.2.2 r _ hk.top)) hP2 hS1 hA
theorem hh_iald {r : Nat} {i N v : Int} (hd : decode mi.2.1 pc = .ok (.iaload, 1)) (ha : hh_ar r 0 N) (hi : 0 ≤ i ∧ i < N) (hv : σ r i = v) (k : hh_J d mi (pc + 1) ls (hh_I v :: st) σ Q) : hh_J d mi pc ls (hh_I i :: hh_R r :: st) σ Q := by
  intro l g p e s m args below meth c H locs A hC hk hP hS hA
  obtain ⟨hx, hb, hr, hml, hown, hts, hlk, hF⟩ := id hC
  obtain ⟨n, h1, rfl, h3⟩ := ha
  have hci : hh_can i := hk.top
  refine va_iald hx hb hF.1 hP r 0 (hh_wl_at h1) rfl (hh_vin hi.1 hi.2 hci) hd ?_
  have e0 : (((Int32.ofInt i).toNatClampNeg : Nat) : Int) = i := by rw [hh_clamp hi.1 hci.2]; omega
  subst hv
  have kk := k l g p e s m args below meth c H locs A hC (hk.pop.pop.push (hk.2.2 r _)) hP hS hA
  show W p l e (hh_rm d) s m args below meth c H locs 0 0 _ (F0 m (pc + 1) A (.int (Int32.ofInt (σ r (((Int32.ofInt i).toNatClampNeg : Nat) : Int))) :: st.map (hh_tr g)))
  rw [e0]
  exact kk
theorem hh_bald {r : Nat} {i N v : Int} (hd : decode mi.2.1 pc = .ok (.baload, 1)) (ha : hh_ar r 1 N) (hi : 0 ≤ i ∧ i < N) (hv : σ r i = v) (k : hh_J d mi (pc + 1) ls (hh_I v :: st) σ Q) : hh_J d mi pc ls (hh_I i :: hh_R r :: st) σ Q := by
  intro l g p e s m args below meth c H locs A hC hk hP hS hA
  obtain ⟨hx, hb, hr, hml, hown, hts, hlk, hF⟩ := id hC
  obtain ⟨n, h1, rfl, h3⟩ := ha
  have hci : hh_can i := hk.top
  refine va_bald hx hb hF.1 hP r 1 (hh_wl_at h1) rfl (hh_vin hi.1 hi.2 hci) hd ?_
  have e0 : (((Int32.ofInt i).toNatClampNeg : Nat) : Int) = i := by rw [hh_clamp hi.1 hci.2]; omega
  subst hv
  have kk := k l g p e s m args below meth c H locs A hC (hk.pop.pop.push (hk.2.2 r _)) hP hS hA
  show W p l e (hh_rm d) s m args below meth c H locs 0 0 _ (F0 m (pc + 1) A (.int (Int32.ofInt (σ r (((Int32.ofInt i).toNatClampNeg : Nat) : Int))) :: st.map (hh_tr g)))
  rw [e0]
  exact kk
theorem hh_sald {r : Nat} {i N v : Int} (hd : decode mi.2.1 pc = .ok (.saload, 1)) (ha : hh_ar r 2 N) (hi : 0 ≤ i ∧ i < N) (hv : σ r i = v) (k : hh_J d mi (pc + 1) ls (hh_I v :: st) σ Q) : hh_J d mi pc ls (hh_I i :: hh_R r :: st) σ Q := by
  intro l g p e s m args below meth c H locs A hC hk hP hS hA
  obtain ⟨hx, hb, hr, hml, hown, hts, hlk, hF⟩ := id hC
  obtain ⟨n, h1, rfl, h3⟩ := ha
  have hci : hh_can i := hk.top
  refine va_sald hx hb hF.1 hP r 2 (hh_wl_at h1) rfl (hh_vin hi.1 hi.2 hci) hd ?_
  have e0 : (((Int32.ofInt i).toNatClampNeg : Nat) : Int) = i := by rw [hh_clamp hi.1 hci.2]; omega
  subst hv
  have kk := k l g p e s m args below meth c H locs A hC (hk.pop.pop.push (hk.2.2 r _)) hP hS hA
  show W p l e (hh_rm d) s m args below meth c H locs 0 0 _ (F0 m (pc + 1) A (.int (Int32.ofInt (σ r (((Int32.ofInt i).toNatClampNeg : Nat) : Int))) :: st.map (hh_tr g)))
  rw [e0]
  exact kk
theorem hh_zald {r : Nat} {i N v : Int} (hd : decode mi.2.1 pc = .ok (.baload, 1)) (ha : hh_ar r 3 N) (hi : 0 ≤ i ∧ i < N) (hv : σ r i = v) (k : hh_J d mi (pc + 1) ls (hh_I v :: st) σ Q) : hh_J d mi pc ls (hh_I i :: hh_R r :: st) σ Q := by
  intro l g p e s m args below meth c H locs A hC hk hP hS hA
  obtain ⟨hx, hb, hr, hml, hown, hts, hlk, hF⟩ := id hC
  obtain ⟨n, h1, rfl, h3⟩ := ha
  have hci : hh_can i := hk.top
  refine va_zald hx hb hF.1 hP r 3 (hh_wl_at h1) rfl (hh_vin hi.1 hi.2 hci) hd ?_
  have e0 : (((Int32.ofInt i).toNatClampNeg : Nat) : Int) = i := by rw [hh_clamp hi.1 hci.2]; omega
  subst hv
  have kk := k l g p e s m args below meth c H locs A hC (hk.pop.pop.push (hk.2.2 r _)) hP hS hA
  show W p l e (hh_rm d) s m args below meth c H locs 0 0 _ (F0 m (pc + 1) A (.int (Int32.ofInt (σ r (((Int32.ofInt i).toNatClampNeg : Nat) : Int))) :: st.map (hh_tr g)))
  rw [e0]
  exact kk
theorem hh_nb (x : Int) : vp_nar .byte (Int32.ofInt x) = Int32.ofInt (hh_i2b x) := by
  rw [vp_nar_byte]
  exact (Int32.ofInt_toInt _).symm
theorem hh_ns (x : Int) : vp_nar .short (Int32.ofInt x) = Int32.ofInt (hh_i2s x) := by
  rw [vp_nar_short]
  exact (Int32.ofInt_toInt _).symm
theorem hh_nzz {x : Int} (h : x = 0 ∨ x = 1) : vp_nar .boolean (Int32.ofInt x) = Int32.ofInt x := by rcases h with rfl | rfl <;> rfl
theorem hh_iast {r : Nat} {i N x : Int} (hd : decode mi.2.1 pc = .ok (.iastore, 1)) (ha : hh_ar r 0 N) (hi : 0 ≤ i ∧ i < N) (k : hh_J d mi (pc + 1) ls st (hh_up σ r i x) Q) : hh_J d mi pc ls (hh_I x :: hh_I i :: hh_R r :: st) σ Q := by
  intro l g p e s m args below meth c H locs A hC hk hP hS hA
  obtain ⟨hx, hb, hr, hml, hown, hts, hlk, hF⟩ := id hC
  obtain ⟨n, h1, rfl, h3⟩ := ha
  have hci : hh_can i := hk.pop.top
  refine va_iast hx hb hF.1 hP (hh_DD hF.2.1 σ) hS r 0 (hh_wl_at h1) rfl (hh_vin hi.1 hi.2 hci) hd (fun H1 locs1 hP1 _ hS1 => ?_)
  have hP2 : va_P g.2.2 vwCl (hh_wl g (hh_up σ r i x)) H1 := hh_P_up h1 (hh_arr_set hi.1 hci) hP1
  exact k l g p e s m args below meth c H1 locs1 A hC (hk.pop.pop.pop.sto (hh_cs_up hk.2.2 r i hk.top)) hP2 hS1 hA
theorem hh_bast {r : Nat} {i N x : Int} (hd : decode mi.2.1 pc = .ok (.bastore, 1)) (ha : hh_ar r 1 N) (hi : 0 ≤ i ∧ i < N) (k : hh_J d mi (pc + 1) ls st (hh_up σ r i (hh_i2b x)) Q) : hh_J d mi pc ls (hh_I x :: hh_I i :: hh_R r :: st) σ Q := by
  intro l g p e s m args below meth c H locs A hC hk hP hS hA
  obtain ⟨hx, hb, hr, hml, hown, hts, hlk, hF⟩ := id hC
  obtain ⟨n, h1, rfl, h3⟩ := ha
  have hci : hh_can i := hk.pop.top
  refine va_bast hx hb hF.1 hP (hh_DD hF.2.1 σ) hS r 1 (hh_wl_at h1) rfl (hh_vin hi.1 hi.2 hci) hd (fun H1 locs1 hP1 _ hS1 => ?_)
  rw [hh_nb] at hP1
  have hP2 : va_P g.2.2 vwCl (hh_wl g (hh_up σ r i (hh_i2b x))) H1 := hh_P_up h1 (hh_arr_set hi.1 hci) hP1
  exact k l g p e s m args below meth c H1 locs1 A hC (hk.pop.pop.pop.sto (hh_cs_up hk.2.2 r i (hh_can_i _))) hP2 hS1 hA
theorem hh_sast {r : Nat} {i N x : Int} (hd : decode mi.2.1 pc = .ok (.sastore, 1)) (ha : hh_ar r 2 N) (hi : 0 ≤ i ∧ i < N) (k : hh_J d mi (pc + 1) ls st (hh_up σ r i (hh_i2s x)) Q) : hh_J d mi pc ls (hh_I x :: hh_I i :: hh_R r :: st) σ Q := by
  intro l g p e s m args below meth c H locs A hC hk hP hS hA
  obtain ⟨hx, hb, hr, hml, hown, hts, hlk, hF⟩ := id hC
  obtain ⟨n, h1, rfl, h3⟩ := ha
  have hci : hh_can i := hk.pop.top
  refine va_sast hx hb hF.1 hP (hh_DD hF.2.1 σ) hS r 2 (hh_wl_at h1) rfl (hh_vin hi.1 hi.2 hci) hd (fun H1 locs1 hP1 _ hS1 => ?_)
  rw [hh_ns] at hP1
  have hP2 : va_P g.2.2 vwCl (hh_wl g (hh_up σ r i (hh_i2s x))) H1 := hh_P_up h1 (hh_arr_set hi.1 hci) hP1
  exact k l g p e s m args below meth c H1 locs1 A hC (hk.pop.pop.pop.sto (hh_cs_up hk.2.2 r i (hh_can_i _))) hP2 hS1 hA
theorem hh_zast {r : Nat} {i N x : Int} (hd : decode mi.2.1 pc = .ok (.bastore, 1)) (ha : hh_ar r 3 N) (hi : 0 ≤ i ∧ i < N) (hz : x = 0 ∨ x = 1) (k : hh_J d mi (pc + 1) ls st (hh_up σ r i x) Q) : hh_J d mi pc ls (hh_I x :: hh_I i :: hh_R r :: st) σ Q := by
  intro l g p e s m args below meth c H locs A hC hk hP hS hA
  obtain ⟨hx, hb, hr, hml, hown, hts, hlk, hF⟩ := id hC
  obtain ⟨n, h1, rfl, h3⟩ := ha
  have hci : hh_can i := hk.pop.top
  refine va_zast hx hb hF.1 hP (hh_DD hF.2.1 σ) hS r 3 (hh_wl_at h1) rfl (hh_vin hi.1 hi.2 hci) hd (fun H1 locs1 hP1 _ hS1 => ?_)
  rw [hh_nzz hz] at hP1
  have hP2 : va_P g.2.2 vwCl (hh_wl g (hh_up σ r i x)) H1 := hh_P_up h1 (hh_arr_set hi.1 hci) hP1
  exact k l g p e s m args below meth c H1 locs1 A hC (hk.pop.pop.pop.sto (hh_cs_up hk.2.2 r i hk.top)) hP2 hS1 hA
theorem hh_alen {r t : Nat} {N : Int} (hd : decode mi.2.1 pc = .ok (.arraylength, 1)) (ha : hh_ar r t N) (ht : t < 4) (k : hh_J d mi (pc + 1) ls (hh_I N :: st) σ Q) : hh_J d mi pc ls (hh_R r :: st) σ Q := by
  intro l g p e s m args below meth c H locs A hC hk hP hS hA
  obtain ⟨hx, hb, hr, hml, hown, hts, hlk, hF⟩ := id hC
  obtain ⟨n, h1, rfl, h3⟩ := ha
  have hty : ∃ ty, (hh_ty g)[t]? = some (g.2.1 t, ty) := by
    rcases (show t = 0 ∨ t = 1 ∨ t = 2 ∨ t = 3 by omega) with rfl | rfl | rfl | rfl <;> exact ⟨_, rfl⟩
  obtain ⟨ty, hty⟩ := hty
  refine va_alen (v := Int32.ofInt (n : Int)) hx hb hF.1 hP r t (hh_wl_at h1) hty Int32.ofInt_eq_ofNat.symm hd ?_
  exact k l g p e s m args below meth c H locs A hC (hk.pop.push (show hh_can (n : Int) from ⟨by omega, by omega⟩)) hP hS hA
def hh_cpy (σ : hh_S) (r1 : Nat) (sp : Int) (r2 : Nat) (dp n : Int) : hh_S := fun q => bif Nat.beq q r2 then (fun j => if dp ≤ j ∧ j < dp + n then σ r1 (sp + (j - dp)) else σ r2 j) else σ q
theorem hh_cpy_ne {r1 r2 q : Nat} {sp dp n : Int} (h : q ≠ r2) : hh_cpy σ r1 sp r2 dp n q = σ q := by
  unfold hh_cpy
  have e : Nat.beq q r2 = false := by
    cases hb : Nat.beq q r2 with
    | false => rfl
    | true => exact absurd (Nat.eq_of_beq_eq_true hb) h
  rw [e]
  rfl
theorem hh_cpy_eq (σ : hh_S) (r1 : Nat) (sp : Int) (r2 : Nat) (dp n : Int) : hh_cpy σ r1 sp r2 dp n r2 = fun j => if dp ≤ j ∧ j < dp + n then σ r1 (sp + (j - dp)) else σ r2 j := by
  unfold hh_cpy
  have e : Nat.beq r2 r2 = true := Nat.beq_refl r2
  rw [e]
  rfl
theorem hh_cs_cpy (h : hh_cs σ) (r1 : Nat) (sp : Int) (r2 : Nat) (dp n : Int) : hh_cs (hh_cpy σ r1 sp r2 dp n) := by
  intro q j
  by_cases hq : q = r2
  · subst hq
    rw [hh_cpy_eq]
    show hh_can (if dp ≤ j ∧ j < dp + n then σ r1 (sp + (j - dp)) else σ q j)
    split
    · exact h _ _
    · exact h _ _
  · rw [hh_cpy_ne hq]; exact h q j
def hh_at (t : Nat) : FieldType := match t with
  | 0 => .int
  | 1 => .byte
  | 2 => .short
  | _ => .boolean
theorem hh_ty_at {g : hh_G} {t : Nat} (h : t < 4) : (hh_ty g)[t]? = some (g.2.1 t, hh_at t) := by
  rcases (show t = 0 ∨ t = 1 ∨ t = 2 ∨ t = 3 by omega) with rfl | rfl | rfl | rfl <;> rfl
def hh_cpL (own : String) (idx : Nat) : Prop := Cond.methodLink own idx arraycopyName ∈ hh_tbl ∧ Cond.native arraycopyName ∈ hh_tbl ∧ Cond.static arraycopyName ∈ hh_tbl ∧ Cond.initialized "java/lang/System" ∈ hh_tbl
def hh_wd : List hh_V → Nat
  | [] => 0
  | .inr (.inl _) :: t => hh_wd t + 2
  | _ :: t => hh_wd t + 1
theorem hh_wd_eq (g : hh_G) : ∀ st : List hh_V, ((st.map (hh_tr g)).map fun v => v.category).sum = hh_wd st := by
  intro st
  induction st with
  | nil => rfl
  | cons v t ih =>
    rcases v with x | x | r
    · rw [List.map_cons, List.map_cons, List.sum_cons, ih]
      show 1 + hh_wd t = hh_wd t + 1
      omega
    · rw [List.map_cons, List.map_cons, List.sum_cons, ih]
      show 2 + hh_wd t = hh_wd t + 2
      omega
    · rw [List.map_cons, List.map_cons, List.sum_cons, ih]
      show 1 + hh_wd t = hh_wd t + 1
      omega
theorem hh_copy {r1 r2 t idx : Nat} {sp dp n N1 N2 : Int} (hd : decode mi.2.1 pc = .ok (.invokestatic idx, 3)) (hl : hh_cpL mi.1.cls idx) (ht : t < 4) (ha1 : hh_ar r1 t N1) (ha2 : hh_ar r2 t N2) (hc : 0 ≤ sp ∧ 0 ≤ dp ∧ 0 ≤ n ∧ sp + n ≤ N1 ∧ dp + n ≤ N2) (hfit : ∀ j : Int, 0 ≤ j → j < n → fits (hh_at t) (.int (Int32.ofInt (σ r1 (sp + j)))) = true) (hst : hh_wd st ≤ 8) (k : hh_J (d + 1) mi (pc + 3) ls st (hh_cpy σ r1 sp r2 dp n) Q) : hh_J (d + 1) mi pc ls (hh_I n :: hh_I dp :: hh_R r2 :: hh_I sp :: hh_R r1 :: st) σ Q := by
  intro l g p e s m args below meth c H locs A hC hk hP hS hA
  obtain ⟨hx, hb, hr, hml, hown, hts, hlk, hF⟩ := id hC
  obtain ⟨n1, h1, rfl, h3⟩ := ha1
  obtain ⟨n2, h4, rfl, h6⟩ := ha2
  have hcn : hh_can n := hk.top
  have hcd : hh_can dp := hk.pop.top
  have hcs : hh_can sp := hk.pop.pop.pop.top
  have en : (Int32.ofInt n).toNatClampNeg = n.toNat := hh_clamp hc.2.2.1 hcn.2
  have ed : (Int32.ofInt dp).toNatClampNeg = dp.toNat := hh_clamp hc.2.1 hcd.2
  have es : (Int32.ofInt sp).toNatClampNeg = sp.toNat := hh_clamp hc.1 hcs.2
  have nn : ∀ z : Int, hh_can z → 0 ≤ z → ¬ Int32.ofInt z < 0 := fun z hz h0 q => by
    rw [← hh_0, hh_lt hz ⟨by omega, by omega⟩] at q
    omega
  refine va_copyi hx hb (by rw [hml]; exact hA.1.symm) hown (hts _ hl.1) (hts _ hl.2.1) (hts _ hl.2.2.1) (hts _ hl.2.2.2) hF.1 hP (hh_DD hF.2.1 σ) hS r1 r2 t t (hh_wl_at h1) (hh_wl_at h4) (hh_ty_at ht) (hh_ty_at ht) (by rcases (show t = 0 ∨ t = 1 ∨ t = 2 ∨ t = 3 by omega) with rfl | rfl | rfl | rfl <;> rfl) (nn sp hcs hc.1) (nn dp hcd hc.2.1) (nn n hcn hc.2.2.1) (by rw [en, es]; omega) (by rw [en, ed]; omega) ?_ (show 1 ≤ d + 1 by omega) ?_ hd (fun H1 locs1 hP1 _ hS1 => ?_)
  · intro i hi
    rw [en] at hi
    rw [es]
    have := hfit (i : Int) (by omega) (by omega)
    rw [show sp + (i : Int) = ((sp.toNat + i : Nat) : Int) by omega] at this
    exact this
  · rw [hh_wd_eq]
    show hh_wd st + (nativeFrameWords "java/lang/System" "arraycopy" 5 + 11) ≤ 64 * (d + 1)
    have : nativeFrameWords "java/lang/System" "arraycopy" 5 + 11 ≤ 50 := by decide
    omega
  · have e0 : (Sum.inl (g.2.1 t, n2, Sum.inl (va_cpy (fun j : Nat => Int32.ofInt (σ r1 (j : Int))) (fun j : Nat => Int32.ofInt (σ r2 (j : Int))) (Int32.ofInt sp).toNatClampNeg (Int32.ofInt dp).toNatClampNeg (Int32.ofInt n).toNatClampNeg)) : va_E) = hh_en g (hh_cpy σ r1 sp r2 dp n) r2 (.inl (t, n2)) := by
      show _ = (Sum.inl (g.2.1 t, n2, Sum.inl (fun j : Nat => Int32.ofInt (hh_cpy σ r1 sp r2 dp n r2 (j : Int)))) : va_E)
      have e1 : va_cpy (fun j : Nat => Int32.ofInt (σ r1 (j : Int))) (fun j : Nat => Int32.ofInt (σ r2 (j : Int))) (Int32.ofInt sp).toNatClampNeg (Int32.ofInt dp).toNatClampNeg (Int32.ofInt n).toNatClampNeg = (fun j : Nat => Int32.ofInt (hh_cpy σ r1 sp r2 dp n r2 (j : Int))) := by
        funext j
        rw [hh_cpy_eq, en, ed, es]
        show (if dp.toNat ≤ j ∧ j < dp.toNat + n.toNat then Int32.ofInt (σ r1 ((sp.toNat + (j - dp.toNat) : Nat) : Int)) else Int32.ofInt (σ r2 (j : Int))) = Int32.ofInt (if dp ≤ (j : Int) ∧ (j : Int) < dp + n then σ r1 (sp + ((j : Int) - dp)) else σ r2 (j : Int))
        by_cases z : dp.toNat ≤ j ∧ j < dp.toNat + n.toNat
        · rw [if_pos z, if_pos (by omega), show ((sp.toNat + (j - dp.toNat) : Nat) : Int) = sp + ((j : Int) - dp) by omega]
        · rw [if_neg z, if_neg (by omega)]
      rw [e1]
    rw [show ((hh_wl g σ).set r2 (g.1 r2, .inl (g.2.1 t, n2, .inl (va_cpy (fun j : Nat => Int32.ofInt (σ r1 (j : Int))) (fun j : Nat => Int32.ofInt (σ r2 (j : Int))) (Int32.ofInt sp).toNatClampNeg (Int32.ofInt dp).toNatClampNeg (Int32.ofInt n).toNatClampNeg)))) = hh_wl g (hh_cpy σ r1 sp r2 dp n) by rw [e0]; exact hh_wl_set h4 (fun q hq => hh_cpy_ne hq)] at hP1
    exact k l g p e s m args below meth c H1 locs1 A hC (hk.pop.pop.pop.pop.pop.sto (hh_cs_cpy hk.2.2 r1 sp r2 dp n)) hP1 hS1 hA
def hh_mx (own : String) (idx : Nat) : Prop := Cond.methodLink own idx Lib.Math.max.name ∈ hh_tbl ∧ Cond.static Lib.Math.max.name ∈ hh_tbl ∧ Cond.initialized "java/lang/Math" ∈ hh_tbl ∧ Cond.code Lib.Math.max.name Lib.Math.max.code 2 (some .int) ∈ hh_tbl
def hh_mn (own : String) (idx : Nat) : Prop := Cond.methodLink own idx Lib.Math.min.name ∈ hh_tbl ∧ Cond.static Lib.Math.min.name ∈ hh_tbl ∧ Cond.initialized "java/lang/Math" ∈ hh_tbl ∧ Cond.code Lib.Math.min.name Lib.Math.min.code 2 (some .int) ∈ hh_tbl
def hh_mnL (own : String) (idx : Nat) : Prop := Cond.methodLink own idx Lib.MathLoose.min_long.x ∈ hh_tbl ∧ Cond.static Lib.MathLoose.min_long.x ∈ hh_tbl ∧ Cond.initialized "java/lang/Math" ∈ hh_tbl ∧ Cond.code Lib.MathLoose.min_long.x Lib.MathLoose.min_long.code 4 (some .long) ∈ hh_tbl
abbrev hh_max (a b : Int) : Int := if a < b then b else a
abbrev hh_min (a b : Int) : Int := if b < a then b else a
theorem hh_mmax {a b : Int} {idx : Nat} (hd : decode mi.2.1 pc = .ok (.invokestatic idx, 3)) (hl : hh_mx mi.1.cls idx) (hst : hh_wd st ≤ 8) (k : hh_J (d + 1) mi (pc + 3) ls (hh_I (hh_max a b) :: st) σ Q) : hh_J (d + 1) mi pc ls (hh_I b :: hh_I a :: st) σ Q := by
  intro l g p e s m args below meth c H locs A hC hk hP hS hA
  obtain ⟨hx, hb, hr, hml, hown, hts, hlk, hF⟩ := id hC
  have hcb : hh_can b := hk.top
  have hca : hh_can a := hk.pop.top
  have hcm : hh_can (hh_max a b) := by
    show hh_can (if a < b then b else a)
    split <;> assumption
  refine va_mmax hx hb (by rw [hml]; exact hA.1.symm) hown (hts _ hl.1) (hts _ hl.2.1) (hts _ hl.2.2.1) (hts _ hl.2.2.2) (show 1 ≤ d + 1 by omega) ?_ (Nat.le_refl 0) (Nat.le_refl 0) hd ?_
  · rw [hh_wd_eq]
    show hh_wd st + 13 ≤ 64 * (d + 1)
    omega
  · have kk := k l g p e s m args below meth c H locs A hC (hk.pop.pop.push hcm) hP hS hA
    by_cases z : a < b
    · rw [if_pos ((hh_lt hca hcb).mpr z)]
      have kk : W p l e (hh_rm (d + 1)) s m args below meth c H locs 0 0 _ (F0 m (pc + 3) A (.int (Int32.ofInt (if a < b then b else a)) :: st.map (hh_tr g))) := kk
      rw [if_pos z] at kk
      exact kk
    · rw [if_neg (fun q => z ((hh_lt hca hcb).mp q))]
      have kk : W p l e (hh_rm (d + 1)) s m args below meth c H locs 0 0 _ (F0 m (pc + 3) A (.int (Int32.ofInt (if a < b then b else a)) :: st.map (hh_tr g))) := kk
      rw [if_neg z] at kk
      exact kk
theorem hh_mmin {a b : Int} {idx : Nat} (hd : decode mi.2.1 pc = .ok (.invokestatic idx, 3)) (hl : hh_mn mi.1.cls idx) (hst : hh_wd st ≤ 8) (k : hh_J (d + 1) mi (pc + 3) ls (hh_I (hh_min a b) :: st) σ Q) : hh_J (d + 1) mi pc ls (hh_I b :: hh_I a :: st) σ Q := by
  intro l g p e s m args below meth c H locs A hC hk hP hS hA
  obtain ⟨hx, hb, hr, hml, hown, hts, hlk, hF⟩ := id hC
  have hcb : hh_can b := hk.top
  have hca : hh_can a := hk.pop.top
  have hcm : hh_can (hh_min a b) := by
    show hh_can (if b < a then b else a)
    split <;> assumption
  refine va_mmin hx hb (by rw [hml]; exact hA.1.symm) hown (hts _ hl.1) (hts _ hl.2.1) (hts _ hl.2.2.1) (hts _ hl.2.2.2) (show 1 ≤ d + 1 by omega) ?_ (Nat.le_refl 0) (Nat.le_refl 0) hd ?_
  · rw [hh_wd_eq]
    show hh_wd st + 13 ≤ 64 * (d + 1)
    omega
  · have kk := k l g p e s m args below meth c H locs A hC (hk.pop.pop.push hcm) hP hS hA
    by_cases z : b < a
    · rw [if_pos ((hh_lt hcb hca).mpr z)]
      have kk : W p l e (hh_rm (d + 1)) s m args below meth c H locs 0 0 _ (F0 m (pc + 3) A (.int (Int32.ofInt (if b < a then b else a)) :: st.map (hh_tr g))) := kk
      rw [if_pos z] at kk
      exact kk
    · rw [if_neg (fun q => z ((hh_lt hcb hca).mp q))]
      have kk : W p l e (hh_rm (d + 1)) s m args below meth c H locs 0 0 _ (F0 m (pc + 3) A (.int (Int32.ofInt (if b < a then b else a)) :: st.map (hh_tr g))) := kk
      rw [if_neg z] at kk
      exact kk
theorem hh_mminL {a b : Int} {idx : Nat} (hd : decode mi.2.1 pc = .ok (.invokestatic idx, 3)) (hl : hh_mnL mi.1.cls idx) (hst : hh_wd st ≤ 8) (k : hh_J (d + 1) mi (pc + 3) ls (hh_L (hh_min a b) :: st) σ Q) : hh_J (d + 1) mi pc ls (hh_L b :: hh_L a :: st) σ Q := by
  intro l g p e s m args below meth c H locs A hC hk hP hS hA
  obtain ⟨hx, hb, hr, hml, hown, hts, hlk, hF⟩ := id hC
  have hcb : hh_caL b := hk.top
  have hca : hh_caL a := hk.pop.top
  have hcm : hh_caL (hh_min a b) := by
    show hh_caL (if b < a then b else a)
    split <;> assumption
  have lem : Int64.ofInt b < Int64.ofInt a ↔ b < a := by rw [Int64.lt_iff_toInt_lt, hh_toL a hca, hh_toL b hcb]
  refine va_mmin_long hx hb (by rw [hml]; exact hA.1.symm) hown (hts _ hl.1) (hts _ hl.2.1) (hts _ hl.2.2.1) (hts _ hl.2.2.2) (show 1 ≤ d + 1 by omega) ?_ (Nat.le_refl 0) (Nat.le_refl 0) hd ?_
  · rw [hh_wd_eq]
    show hh_wd st + 15 ≤ 64 * (d + 1)
    omega
  · have kk := k l g p e s m args below meth c H locs A hC (hk.pop.pop.push hcm) hP hS hA
    have kk : W p l e (hh_rm (d + 1)) s m args below meth c H locs 0 0 _ (F0 m (pc + 3) A (.long (Int64.ofInt (if b < a then b else a)) :: st.map (hh_tr g))) := kk
    by_cases z : b < a
    · rw [if_pos (lem.mpr z)]
      rw [if_pos z] at kk
      exact kk
    · rw [if_neg (fun q => z (lem.mp q))]
      rw [if_neg z] at kk
      exact kk
end hh_rules2
