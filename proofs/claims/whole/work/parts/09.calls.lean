section hh_calls
variable {d : Nat} {mi : hh_M} {pc : Nat} {ls : List (Option hh_V)} {st : List hh_V} {σ : hh_S} {Q : Int → hh_S → Prop}
def hh_mok (mi : hh_M) (n : Nat) : Prop := plainName mi.1.cls = true ∧ Cond.code mi.1 mi.2.1 mi.2.2.1 mi.2.2.2 ∈ hh_tbl ∧ Cond.initialized mi.1.cls ∈ hh_tbl ∧ (mi.1.cls ≠ "java/lang/invoke/MethodHandle" ∧ mi.1.cls ≠ "java/lang/invoke/VarHandle" ∧ (parseMethodDescriptor mi.1.desc).map (fun d => d.parameters.length) = some n) ∧ mi.2.2.1 ≤ 40
def hh_lkV (own : String) (idx : Nat) (mi : hh_M) : Prop := Cond.methodLink own idx mi.1 ∈ hh_tbl ∧ Cond.instanceMethod mi.1 ∈ hh_tbl ∧ Cond.selects mi.1.cls mi.1 mi.1 ∈ hh_tbl
def hh_lkS (own : String) (idx : Nat) (mi : hh_M) : Prop := Cond.methodLink own idx mi.1 ∈ hh_tbl ∧ Cond.static mi.1 ∈ hh_tbl
def hh_lkN (own : String) (idx : Nat) (mi : hh_M) : Prop := (∃ host : String, (own, idx, mi.1, host) ∈ hh_nx) ∧ Cond.static mi.1 ∈ hh_tbl
def hh_rcv (r : Nat) (C : String) : Prop := ∀ (g : hh_G) (σ : hh_S) (s : State) (H : Heap) (locs : List Loc), hh_F g s → va_P g.2.2 vwCl (hh_wl g σ) H → va_S (hh_A g) s.heap H locs → ∃ cell : Cell, H[g.1 r]? = some cell ∧ cell.vm.isStatics = false ∧ s.vm.findClass C = some cell.cls
theorem hh_rcv_of {r ci N : Nat} {C : String} {T : u_T} {fs : List (Option Nat)} (h : hh_dl[r]? = some (.inr (ci, fs))) (hc : vwCl[ci]? = some (C, T, N)) : hh_rcv r C := by
  intro g σ s H locs hF hP hS
  exact va_recv hF.1 hP hc (hh_wl_at h)
theorem hh_rcv_s {i : Nat} (h : i < 3) : hh_rcv (1000 + i) "java/lang/String" := by
  intro g σ s H locs hF hP hS
  exact vk_recv (adK := fun i => g.1 (1000 + i)) (adV := fun i => g.1 (2000 + i)) hF.2.2.2.1 h hS
theorem hh_gws (h : Cond.code mi.1 mi.2.1 mi.2.2.1 mi.2.2.2 ∈ hh_tbl) : GoodIn hh_tbl (.code mi.1 mi.2.1 mi.2.2.1 mi.2.2.2 :: hh_tbl) := fun w hw => by
  rcases List.mem_cons.mp hw with e | hw
  · rw [e]; exact hh_good _ h
  · exact hh_good w hw
def hh_rv : Option FieldType → Int → List hh_V
  | none, _ => []
  | some _, x => [hh_I x]
theorem hh_rv_eq (g : hh_G) (r : Option FieldType) (x : Int) : (hh_ro r x).toList ++ st.map (hh_tr g) = (hh_rv r x ++ st).map (hh_tr g) := by cases r <;> rfl
theorem hh_blind (g : hh_G) (av : List Value) (as : List hh_V) : FrameBlind (va_Pc av (fun U => hh_F g U ∧ (∀ v ∈ as, hh_cv v) ∧ hh_cs σ ∧ va_P g.2.2 vwCl (hh_wl g σ) U.heap)) := by
  intro a U gf mk q
  obtain ⟨q0, q1, q2, q3, q4⟩ := q
  exact ⟨q0, hh_F.same (u := U) rfl rfl q1, q2, q3, q4⟩
theorem hh_after {mi' : hh_M} {Q' : Int → hh_S → Prop} {p : Program} {l : Launch} {e : Env} {R : Room} {s : State} {m : MethodId} {args : Array Value} {below : List Frame} {meth : Method} {c : Code} {H : Heap} {locs : List Loc} {A : Array Slot} {rest st0 : List Value} {a : Array Value} {g : hh_G} {Qs : State → Prop}
    (hr : va_Run p l e R s m args below meth c H locs 0 0 0 0 (F0 m pc A st0) rest (hh_Qc mi' g Q' a) (hh_A g)) (hS : va_S (hh_A g) s.heap H locs)
    (kk : ∀ (x : Int) (σ' : hh_S) (H1 : Heap) (locs1 : List Loc), Q' x σ' → hh_can x → hh_cs σ' → va_P g.2.2 vwCl (hh_wl g σ') H1 → va_S (hh_A g) s.heap H1 locs1 → W p l e R s m args below meth c H1 locs1 0 0 Qs (F0 m (pc + 3) A ((hh_ro mi'.2.2.2 x).toList ++ rest))) : W p l e R s m args below meth c H locs 0 0 Qs (F0 m pc A st0) := by
  intro T hT X
  obtain ⟨v, st₀, t, T', L, h0, X', hL, e1, e2, ⟨⟨x, σ', hv, hq, hc, hs, hp⟩, hz, hk⟩, stp⟩ := hr T hT X
  cases hv
  rw [h0] at hz hk
  obtain ⟨t2, a1, b1⟩ := kk x σ' T'.heap (locs ++ L) hq hc hs (by rw [e1]; exact hp)
    ⟨Nat.le_trans hS.1 (by rw [e1]; exact hz), fun q h1 h2 => by rw [e1, hk q (Nat.lt_of_lt_of_le h1 hS.1) h2]; exact hS.2.1 q h1 h2, fun q hq => by
      rcases List.mem_append.mp hq with h | h
      · exact hS.2.2 q h
      · exact hL q h⟩ T' rfl X'
  exact ⟨t2, stp t2 a1, b1⟩
theorem hh_ok_call {x : Int} {σ' : hh_S} {as : List hh_V} (hk : hh_ok ls (as ++ st) σ) (r : Option FieldType) (hx : hh_can x) (hs : hh_cs σ') : hh_ok ls (hh_rv r x ++ st) σ' := by
  refine ⟨hk.1, fun v hv => ?_, hs⟩
  rcases List.mem_append.mp hv with h | h
  · cases r with
    | none => cases h
    | some ty =>
      rw [List.mem_singleton.mp h]
      exact hx
  · exact hk.2.1 v (List.mem_append_right _ h)
theorem hh_callV {mi' : hh_M} {as : List hh_V} {r idx : Nat} {Q' : Int → hh_S → Prop} (hd : decode mi.2.1 pc = .ok (.invokevirtual idx, 3)) (hl : hh_lkV mi.1.cls idx mi') (ho : hh_mok mi' as.length) (hr0 : hh_rcv r mi'.1.cls) (hst : hh_wd st ≤ 8) (hsp : hh_Sp d mi' (hh_R r :: as) σ Q') (hk' : ∀ (x : Int) (σ' : hh_S), Q' x σ' → hh_J (d + 1) mi (pc + 3) ls (hh_rv mi'.2.2.2 x ++ st) σ' Q) : hh_J (d + 1) mi pc ls (as.reverse ++ hh_R r :: st) σ Q := by
  intro l g p e s m args below meth c H locs A hC hk hP hS hA
  obtain ⟨hx, hb, hr, hml, hown, hts, hlk, hF⟩ := id hC
  obtain ⟨o1, o2, o3, o4, o5⟩ := ho
  have cw : CallW (hh_rm (d + 1)) s args mi.1.cls mi'.1.cls idx mi'.1 mi'.2.1 mi'.2.2.1 mi'.2.2.2 (.code mi'.1 mi'.2.1 mi'.2.2.1 mi'.2.2.2 :: hh_tbl) (hh_rm d) 0 0 as.length :=
    ⟨callB_of as.length hts (hh_gws o2) rfl rfl rfl (hts _ o3) (hts _ hl.1) o4 ⟨Nat.le_refl (d + 1), by show 8 + (mi'.2.2.1 + 11) + 64 * d ≤ 64 * (d + 1); omega⟩, hts _ hl.2.1, hts _ hl.2.2⟩
  have hst0 : (as.reverse ++ hh_R r :: st).map (hh_tr g) = (as.map (hh_tr g)).reverse ++ .ref (g.1 r) :: st.map (hh_tr g) := by
    rw [List.map_append, List.map_reverse]; rfl
  rw [hst0]
  have hrun := va_runV (As := as.map (hh_tr g)) (rest := st.map (hh_tr g)) (g := F0 m pc A ((as.map (hh_tr g)).reverse ++ .ref (g.1 r) :: st.map (hh_tr g))) (p := p) (e := e) (below := below) (meth := meth) (locs := locs) (cells := 0) (slots := 0) ⟨hx, hb, hml, hown, hts⟩ (hsp l g) cw
    ⟨hh_blind g _ _, hr0 g σ s H locs hF hP hS, fun U hU hW => ⟨rfl, hF.to (by rw [hU]; exact hS) hW, fun v hv => by
      rcases List.mem_cons.mp hv with e0 | hv
      · rw [e0]; trivial
      · exact hk.2.1 v (List.mem_append_left _ (List.mem_reverse.mpr hv)), hk.2.2, by rw [hU]; exact hP⟩⟩ rfl (List.length_map _) hA.1 rfl (lv_room (by rw [hh_wd_eq]; exact hst)) hd ⟨Nat.le_refl 0, Nat.le_refl 0⟩
  refine hh_after hrun hS (fun x σ' H1 locs1 hq hc hs hP1 hS1 => ?_)
  rw [hh_rv_eq]
  refine hk' x σ' hq l g p e s m args below meth c H1 locs1 A hC ?_ hP1 hS1 hA
  have hk2 : hh_ok ls ((as.reverse ++ [hh_R r]) ++ st) σ := by rw [List.append_assoc]; exact hk
  exact hh_ok_call hk2 _ hc hs
theorem hh_callS {mi' : hh_M} {as : List hh_V} {idx : Nat} {Q' : Int → hh_S → Prop} (hd : decode mi.2.1 pc = .ok (.invokestatic idx, 3)) (hl : hh_lkS mi.1.cls idx mi') (ho : hh_mok mi' as.length) (hst : hh_wd st ≤ 8) (hsp : hh_Sp d mi' as σ Q') (hk' : ∀ (x : Int) (σ' : hh_S), Q' x σ' → hh_J (d + 1) mi (pc + 3) ls (hh_rv mi'.2.2.2 x ++ st) σ' Q) : hh_J (d + 1) mi pc ls (as.reverse ++ st) σ Q := by
  intro l g p e s m args below meth c H locs A hC hk hP hS hA
  obtain ⟨hx, hb, hr, hml, hown, hts, hlk, hF⟩ := id hC
  obtain ⟨o1, o2, o3, o4, o5⟩ := ho
  have cw : CallB (hh_rm (d + 1)) s args mi.1.cls idx mi'.1 mi'.2.1 mi'.2.2.1 mi'.2.2.2 (.code mi'.1 mi'.2.1 mi'.2.2.1 mi'.2.2.2 :: hh_tbl) (hh_rm d) 0 0 as.length :=
    callB_of as.length hts (hh_gws o2) rfl rfl rfl (hts _ o3) (hts _ hl.1) o4 ⟨Nat.le_refl (d + 1), by show 8 + (mi'.2.2.1 + 11) + 64 * d ≤ 64 * (d + 1); omega⟩
  have hst0 : (as.reverse ++ st).map (hh_tr g) = (as.map (hh_tr g)).reverse ++ st.map (hh_tr g) := by
    rw [List.map_append, List.map_reverse]
  rw [hst0]
  have hrun := va_runS (As := as.map (hh_tr g)) (rest := st.map (hh_tr g)) (g := F0 m pc A ((as.map (hh_tr g)).reverse ++ st.map (hh_tr g))) (p := p) (e := e) (below := below) (meth := meth) (locs := locs) (cells := 0) (slots := 0) ⟨hx, hb, hml, hown, hts⟩ (hsp l g) ⟨cw, hts _ hl.2⟩
    ⟨hh_blind g _ _, fun U hU hW => ⟨rfl, hF.to (by rw [hU]; exact hS) hW, fun v hv => hk.2.1 v (List.mem_append_left _ (List.mem_reverse.mpr hv)), hk.2.2, by rw [hU]; exact hP⟩⟩ rfl (List.length_map _) hA.1 rfl (lv_room (by rw [hh_wd_eq]; exact hst)) hd ⟨Nat.le_refl 0, Nat.le_refl 0⟩
  refine hh_after hrun hS (fun x σ' H1 locs1 hq hc hs hP1 hS1 => ?_)
  rw [hh_rv_eq]
  exact hk' x σ' hq l g p e s m args below meth c H1 locs1 A hC (hh_ok_call hk _ hc hs) hP1 hS1 hA
theorem hh_callN {mi' : hh_M} {as : List hh_V} {idx : Nat} {Q' : Int → hh_S → Prop} (hd : decode mi.2.1 pc = .ok (.invokestatic idx, 3)) (hl : hh_lkN mi.1.cls idx mi') (ho : hh_mok mi' as.length) (hst : hh_wd st ≤ 8) (hsp : hh_Sp d mi' as σ Q') (hk' : ∀ (x : Int) (σ' : hh_S), Q' x σ' → hh_J (d + 1) mi (pc + 3) ls (hh_rv mi'.2.2.2 x ++ st) σ' Q) : hh_J (d + 1) mi pc ls (as.reverse ++ st) σ Q := by
  intro l g p e s m args below meth c H locs A hC hk hP hS hA
  obtain ⟨hx, hb, hr, hml, hown, hts, hlk, hF⟩ := id hC
  obtain ⟨o1, o2, o3, o4, o5⟩ := ho
  obtain ⟨⟨host, hn⟩, hl2⟩ := hl
  have cw : va_CN (hh_rm (d + 1)) s args mi.1.cls idx mi'.1 host mi'.2.1 mi'.2.2.1 mi'.2.2.2 (.code mi'.1 mi'.2.1 mi'.2.2.1 mi'.2.2.2 :: hh_tbl) (hh_rm d) 0 0 as.length :=
    va_cnB as.length hts (hh_gws o2) rfl rfl rfl (hF.2.2.1 _ hn) (hts _ o3) o4 ⟨Nat.le_refl (d + 1), by show 8 + (mi'.2.2.1 + 11) + 64 * d ≤ 64 * (d + 1); omega⟩
  have hst0 : (as.reverse ++ st).map (hh_tr g) = (as.map (hh_tr g)).reverse ++ st.map (hh_tr g) := by
    rw [List.map_append, List.map_reverse]
  rw [hst0]
  have hrun := va_runSN (As := as.map (hh_tr g)) (rest := st.map (hh_tr g)) (g := F0 m pc A ((as.map (hh_tr g)).reverse ++ st.map (hh_tr g))) (p := p) (e := e) (below := below) (meth := meth) (locs := locs) (cells := 0) (slots := 0) ⟨hx, hb, hml, hown, hts⟩ (hsp l g) ⟨cw, hts _ hl2, trivial⟩
    ⟨hh_blind g _ _, fun U hU hW => ⟨rfl, hF.to (by rw [hU]; exact hS) hW, fun v hv => hk.2.1 v (List.mem_append_left _ (List.mem_reverse.mpr hv)), hk.2.2, by rw [hU]; exact hP⟩⟩ rfl (List.length_map _) hA.1 rfl (lv_room (by rw [hh_wd_eq]; exact hst)) hd ⟨Nat.le_refl 0, Nat.le_refl 0⟩
  refine hh_after hrun hS (fun x σ' H1 locs1 hq hc hs hP1 hS1 => ?_)
  rw [hh_rv_eq]
  exact hk' x σ' hq l g p e s m args below meth c H1 locs1 A hC (hh_ok_call hk _ hc hs) hP1 hS1 hA

theorem hh_cV0 {mi' : hh_M} {r idx : Nat} {Q' : Int → hh_S → Prop} (hd : decode mi.2.1 pc = .ok (.invokevirtual idx, 3)) (hl : hh_lkV mi.1.cls idx mi') (ho : hh_mok mi' 0) (hr0 : hh_rcv r mi'.1.cls) (hst : hh_wd st ≤ 8) (hsp : hh_Sp d mi' (hh_R r :: []) σ Q') (hk' : ∀ (x : Int) (σ' : hh_S), Q' x σ' → hh_J (d + 1) mi (pc + 3) ls (hh_rv mi'.2.2.2 x ++ st) σ' Q) : hh_J (d + 1) mi pc ls (hh_R r :: st) σ Q := hh_callV (as := []) hd hl ho hr0 hst hsp hk'
theorem hh_cV1 {mi' : hh_M} {a1 : hh_V} {r idx : Nat} {Q' : Int → hh_S → Prop} (hd : decode mi.2.1 pc = .ok (.invokevirtual idx, 3)) (hl : hh_lkV mi.1.cls idx mi') (ho : hh_mok mi' 1) (hr0 : hh_rcv r mi'.1.cls) (hst : hh_wd st ≤ 8) (hsp : hh_Sp d mi' (hh_R r :: [a1]) σ Q') (hk' : ∀ (x : Int) (σ' : hh_S), Q' x σ' → hh_J (d + 1) mi (pc + 3) ls (hh_rv mi'.2.2.2 x ++ st) σ' Q) : hh_J (d + 1) mi pc ls (a1 :: hh_R r :: st) σ Q := hh_callV (as := [a1]) hd hl ho hr0 hst hsp hk'
theorem hh_cS1 {mi' : hh_M} {a1 : hh_V} {idx : Nat} {Q' : Int → hh_S → Prop} (hd : decode mi.2.1 pc = .ok (.invokestatic idx, 3)) (hl : hh_lkS mi.1.cls idx mi') (ho : hh_mok mi' 1) (hst : hh_wd st ≤ 8) (hsp : hh_Sp d mi' ([a1]) σ Q') (hk' : ∀ (x : Int) (σ' : hh_S), Q' x σ' → hh_J (d + 1) mi (pc + 3) ls (hh_rv mi'.2.2.2 x ++ st) σ' Q) : hh_J (d + 1) mi pc ls (a1 :: st) σ Q := hh_callS (as := [a1]) hd hl ho hst hsp hk'
theorem hh_cN1 {mi' : hh_M} {a1 : hh_V} {idx : Nat} {Q' : Int → hh_S → Prop} (hd : decode mi.2.1 pc = .ok (.invokestatic idx, 3)) (hl : hh_lkN mi.1.cls idx mi') (ho : hh_mok mi' 1) (hst : hh_wd st ≤ 8) (hsp : hh_Sp d mi' ([a1]) σ Q') (hk' : ∀ (x : Int) (σ' : hh_S), Q' x σ' → hh_J (d + 1) mi (pc + 3) ls (hh_rv mi'.2.2.2 x ++ st) σ' Q) : hh_J (d + 1) mi pc ls (a1 :: st) σ Q := hh_callN (as := [a1]) hd hl ho hst hsp hk'
theorem hh_cV2 {mi' : hh_M} {a1 a2 : hh_V} {r idx : Nat} {Q' : Int → hh_S → Prop} (hd : decode mi.2.1 pc = .ok (.invokevirtual idx, 3)) (hl : hh_lkV mi.1.cls idx mi') (ho : hh_mok mi' 2) (hr0 : hh_rcv r mi'.1.cls) (hst : hh_wd st ≤ 8) (hsp : hh_Sp d mi' (hh_R r :: [a1, a2]) σ Q') (hk' : ∀ (x : Int) (σ' : hh_S), Q' x σ' → hh_J (d + 1) mi (pc + 3) ls (hh_rv mi'.2.2.2 x ++ st) σ' Q) : hh_J (d + 1) mi pc ls (a2 :: a1 :: hh_R r :: st) σ Q := hh_callV (as := [a1, a2]) hd hl ho hr0 hst hsp hk'
theorem hh_cS2 {mi' : hh_M} {a1 a2 : hh_V} {idx : Nat} {Q' : Int → hh_S → Prop} (hd : decode mi.2.1 pc = .ok (.invokestatic idx, 3)) (hl : hh_lkS mi.1.cls idx mi') (ho : hh_mok mi' 2) (hst : hh_wd st ≤ 8) (hsp : hh_Sp d mi' ([a1, a2]) σ Q') (hk' : ∀ (x : Int) (σ' : hh_S), Q' x σ' → hh_J (d + 1) mi (pc + 3) ls (hh_rv mi'.2.2.2 x ++ st) σ' Q) : hh_J (d + 1) mi pc ls (a2 :: a1 :: st) σ Q := hh_callS (as := [a1, a2]) hd hl ho hst hsp hk'
theorem hh_cN2 {mi' : hh_M} {a1 a2 : hh_V} {idx : Nat} {Q' : Int → hh_S → Prop} (hd : decode mi.2.1 pc = .ok (.invokestatic idx, 3)) (hl : hh_lkN mi.1.cls idx mi') (ho : hh_mok mi' 2) (hst : hh_wd st ≤ 8) (hsp : hh_Sp d mi' ([a1, a2]) σ Q') (hk' : ∀ (x : Int) (σ' : hh_S), Q' x σ' → hh_J (d + 1) mi (pc + 3) ls (hh_rv mi'.2.2.2 x ++ st) σ' Q) : hh_J (d + 1) mi pc ls (a2 :: a1 :: st) σ Q := hh_callN (as := [a1, a2]) hd hl ho hst hsp hk'
theorem hh_cV3 {mi' : hh_M} {a1 a2 a3 : hh_V} {r idx : Nat} {Q' : Int → hh_S → Prop} (hd : decode mi.2.1 pc = .ok (.invokevirtual idx, 3)) (hl : hh_lkV mi.1.cls idx mi') (ho : hh_mok mi' 3) (hr0 : hh_rcv r mi'.1.cls) (hst : hh_wd st ≤ 8) (hsp : hh_Sp d mi' (hh_R r :: [a1, a2, a3]) σ Q') (hk' : ∀ (x : Int) (σ' : hh_S), Q' x σ' → hh_J (d + 1) mi (pc + 3) ls (hh_rv mi'.2.2.2 x ++ st) σ' Q) : hh_J (d + 1) mi pc ls (a3 :: a2 :: a1 :: hh_R r :: st) σ Q := hh_callV (as := [a1, a2, a3]) hd hl ho hr0 hst hsp hk'
theorem hh_cS3 {mi' : hh_M} {a1 a2 a3 : hh_V} {idx : Nat} {Q' : Int → hh_S → Prop} (hd : decode mi.2.1 pc = .ok (.invokestatic idx, 3)) (hl : hh_lkS mi.1.cls idx mi') (ho : hh_mok mi' 3) (hst : hh_wd st ≤ 8) (hsp : hh_Sp d mi' ([a1, a2, a3]) σ Q') (hk' : ∀ (x : Int) (σ' : hh_S), Q' x σ' → hh_J (d + 1) mi (pc + 3) ls (hh_rv mi'.2.2.2 x ++ st) σ' Q) : hh_J (d + 1) mi pc ls (a3 :: a2 :: a1 :: st) σ Q := hh_callS (as := [a1, a2, a3]) hd hl ho hst hsp hk'
theorem hh_cN3 {mi' : hh_M} {a1 a2 a3 : hh_V} {idx : Nat} {Q' : Int → hh_S → Prop} (hd : decode mi.2.1 pc = .ok (.invokestatic idx, 3)) (hl : hh_lkN mi.1.cls idx mi') (ho : hh_mok mi' 3) (hst : hh_wd st ≤ 8) (hsp : hh_Sp d mi' ([a1, a2, a3]) σ Q') (hk' : ∀ (x : Int) (σ' : hh_S), Q' x σ' → hh_J (d + 1) mi (pc + 3) ls (hh_rv mi'.2.2.2 x ++ st) σ' Q) : hh_J (d + 1) mi pc ls (a3 :: a2 :: a1 :: st) σ Q := hh_callN (as := [a1, a2, a3]) hd hl ho hst hsp hk'
theorem hh_cV4 {mi' : hh_M} {a1 a2 a3 a4 : hh_V} {r idx : Nat} {Q' : Int → hh_S → Prop} (hd : decode mi.2.1 pc = .ok (.invokevirtual idx, 3)) (hl : hh_lkV mi.1.cls idx mi') (ho : hh_mok mi' 4) (hr0 : hh_rcv r mi'.1.cls) (hst : hh_wd st ≤ 8) (hsp : hh_Sp d mi' (hh_R r :: [a1, a2, a3, a4]) σ Q') (hk' : ∀ (x : Int) (σ' : hh_S), Q' x σ' → hh_J (d + 1) mi (pc + 3) ls (hh_rv mi'.2.2.2 x ++ st) σ' Q) : hh_J (d + 1) mi pc ls (a4 :: a3 :: a2 :: a1 :: hh_R r :: st) σ Q := hh_callV (as := [a1, a2, a3, a4]) hd hl ho hr0 hst hsp hk'
theorem hh_cS4 {mi' : hh_M} {a1 a2 a3 a4 : hh_V} {idx : Nat} {Q' : Int → hh_S → Prop} (hd : decode mi.2.1 pc = .ok (.invokestatic idx, 3)) (hl : hh_lkS mi.1.cls idx mi') (ho : hh_mok mi' 4) (hst : hh_wd st ≤ 8) (hsp : hh_Sp d mi' ([a1, a2, a3, a4]) σ Q') (hk' : ∀ (x : Int) (σ' : hh_S), Q' x σ' → hh_J (d + 1) mi (pc + 3) ls (hh_rv mi'.2.2.2 x ++ st) σ' Q) : hh_J (d + 1) mi pc ls (a4 :: a3 :: a2 :: a1 :: st) σ Q := hh_callS (as := [a1, a2, a3, a4]) hd hl ho hst hsp hk'
theorem hh_cN4 {mi' : hh_M} {a1 a2 a3 a4 : hh_V} {idx : Nat} {Q' : Int → hh_S → Prop} (hd : decode mi.2.1 pc = .ok (.invokestatic idx, 3)) (hl : hh_lkN mi.1.cls idx mi') (ho : hh_mok mi' 4) (hst : hh_wd st ≤ 8) (hsp : hh_Sp d mi' ([a1, a2, a3, a4]) σ Q') (hk' : ∀ (x : Int) (σ' : hh_S), Q' x σ' → hh_J (d + 1) mi (pc + 3) ls (hh_rv mi'.2.2.2 x ++ st) σ' Q) : hh_J (d + 1) mi pc ls (a4 :: a3 :: a2 :: a1 :: st) σ Q := hh_callN (as := [a1, a2, a3, a4]) hd hl ho hst hsp hk'
theorem hh_cV5 {mi' : hh_M} {a1 a2 a3 a4 a5 : hh_V} {r idx : Nat} {Q' : Int → hh_S → Prop} (hd : decode mi.2.1 pc = .ok (.invokevirtual idx, 3)) (hl : hh_lkV mi.1.cls idx mi') (ho : hh_mok mi' 5) (hr0 : hh_rcv r mi'.1.cls) (hst : hh_wd st ≤ 8) (hsp : hh_Sp d mi' (hh_R r :: [a1, a2, a3, a4, a5]) σ Q') (hk' : ∀ (x : Int) (σ' : hh_S), Q' x σ' → hh_J (d + 1) mi (pc + 3) ls (hh_rv mi'.2.2.2 x ++ st) σ' Q) : hh_J (d + 1) mi pc ls (a5 :: a4 :: a3 :: a2 :: a1 :: hh_R r :: st) σ Q := hh_callV (as := [a1, a2, a3, a4, a5]) hd hl ho hr0 hst hsp hk'
theorem hh_cS5 {mi' : hh_M} {a1 a2 a3 a4 a5 : hh_V} {idx : Nat} {Q' : Int → hh_S → Prop} (hd : decode mi.2.1 pc = .ok (.invokestatic idx, 3)) (hl : hh_lkS mi.1.cls idx mi') (ho : hh_mok mi' 5) (hst : hh_wd st ≤ 8) (hsp : hh_Sp d mi' ([a1, a2, a3, a4, a5]) σ Q') (hk' : ∀ (x : Int) (σ' : hh_S), Q' x σ' → hh_J (d + 1) mi (pc + 3) ls (hh_rv mi'.2.2.2 x ++ st) σ' Q) : hh_J (d + 1) mi pc ls (a5 :: a4 :: a3 :: a2 :: a1 :: st) σ Q := hh_callS (as := [a1, a2, a3, a4, a5]) hd hl ho hst hsp hk'
theorem hh_cN5 {mi' : hh_M} {a1 a2 a3 a4 a5 : hh_V} {idx : Nat} {Q' : Int → hh_S → Prop} (hd : decode mi.2.1 pc = .ok (.invokestatic idx, 3)) (hl : hh_lkN mi.1.cls idx mi') (ho : hh_mok mi' 5) (hst : hh_wd st ≤ 8) (hsp : hh_Sp d mi' ([a1, a2, a3, a4, a5]) σ Q') (hk' : ∀ (x : Int) (σ' : hh_S), Q' x σ' → hh_J (d + 1) mi (pc + 3) ls (hh_rv mi'.2.2.2 x ++ st) σ' Q) : hh_J (d + 1) mi pc ls (a5 :: a4 :: a3 :: a2 :: a1 :: st) σ Q := hh_callN (as := [a1, a2, a3, a4, a5]) hd hl ho hst hsp hk'

def hh_sg : List hh_V → Bool
  | [] => true
  | .inr (.inl _) :: _ => false
  | _ :: t => hh_sg t
theorem hh_sg_c (g : hh_G) {v : hh_V} {t : List hh_V} (h : hh_sg (v :: t) = true) : ¬ (hh_tr g v).category = 2 ∧ hh_sg t = true := by
  rcases v with x | x | r
  · exact ⟨by simp [hh_tr, Value.category], h⟩
  · cases h
  · exact ⟨by simp [hh_tr, Value.category], h⟩
theorem hh_args_mem (g : hh_G) : ∀ (as : List hh_V) (k : Nat), hh_sg as = true → ∀ (i : Nat) (v : hh_V), as[i]? = some v → (k + i, hh_tr g v) ∈ lv_args k (as.map (hh_tr g)) := by
  intro as
  induction as with
  | nil => intro k _ i v h; simp at h
  | cons a t ih =>
    intro k hs i v h
    obtain ⟨h1, h2⟩ := hh_sg_c g hs
    show (k + i, hh_tr g v) ∈ (k, hh_tr g a) :: lv_args (if (hh_tr g a).category = 2 then k + 2 else k + 1) (t.map (hh_tr g))
    rw [if_neg h1]
    cases i with
    | zero =>
      have : a = v := Option.some.inj h
      rw [this]
      exact List.mem_cons_self
    | succ i =>
      have := ih (k + 1) h2 i v h
      rw [show k + 1 + i = k + (i + 1) by omega] at this
      exact List.mem_cons_of_mem _ this
theorem hh_sl_len (g : hh_G) : ∀ as : List hh_V, hh_sg as = true → (lg_sl (as.map (hh_tr g))).length = as.length := by
  intro as
  induction as with
  | nil => intro _; rfl
  | cons a t ih =>
    intro hs
    obtain ⟨h1, h2⟩ := hh_sg_c g hs
    have := ih h2
    unfold lg_sl at this ⊢
    rw [List.map_cons, List.flatMap_cons, if_neg h1, List.length_append, this, List.length_cons]
    simp
    omega
theorem hh_entry {as : List hh_V} (hp : plainName mi.1.cls = true) (hn : as.length ≤ mi.2.2.1) (hs : hh_sg as = true) (k : hh_cs σ → (∀ v ∈ as, hh_cv v) → hh_J d mi 0 (as.map some ++ List.replicate (mi.2.2.1 - as.length) none) [] σ Q) : hh_Sp d mi as σ Q := by
  intro l g
  refine Met.ofW (cc := mi.2.1) (maxL := mi.2.2.1) (ret := mi.2.2.2) hp rfl ?_
  intro p e s m args below meth c s₁ B hml hv
  obtain ⟨rfl, hF, hca, hcs, hP⟩ := hv
  have hts0 := atoms_spec (ws := .code mi.1 mi.2.1 mi.2.2.1 mi.2.2.2 :: hh_tbl) B.pre
  have hown : s.vm.findClass mi.1.cls = some m.cls := findClass_of_methodNamed B.named
  have hl := lv_entry (as.map (hh_tr g)) (n := mi.2.2.1) (by rw [hh_sl_len g as hs]; exact hn)
  rw [lg_entry_eq]
  generalize (lg_sl (as.map (hh_tr g)) ++ List.replicate (mi.2.2.1 - (lg_sl (as.map (hh_tr g))).length) Slot.unset).toArray = A at hl ⊢
  have hat : ∀ (i : Nat) (v : hh_V), (as.map some ++ List.replicate (mi.2.2.1 - as.length) none)[i]? = some (some v) → as[i]? = some v := by
    intro i v h
    rw [List.getElem?_append] at h
    by_cases hi : i < (as.map some).length
    · rw [if_pos hi, List.getElem?_map] at h
      cases ha : as[i]? with
      | none => rw [ha] at h; cases h
      | some a => rw [ha] at h; exact Option.some.inj h
    · rw [if_neg hi, List.getElem?_replicate] at h
      split at h <;> cases h
  have hA : lv_has A mi.2.2.1 (hh_al g 0 (as.map some ++ List.replicate (mi.2.2.1 - as.length) none)) := by
    refine ⟨hl.1, hl.2.1, fun q hq => ?_⟩
    obtain ⟨i, v, hi, rfl⟩ := (hh_al_mem _ 0).mp hq
    exact hl.2.2 _ (hh_args_mem g as 0 hs i v (hat i v hi))
  refine k hcs hca l g p e s m _ below meth c s.heap [] A ⟨B.exec, B.bytes, B.returns, hml, hown, fun w hw => hts0 w (List.mem_cons_of_mem _ hw), B.notSynchronized, hF⟩ ⟨fun v hv => ?_, fun v hv => (by cases hv), hcs⟩ hP va_S.rf hA
  obtain ⟨i, hi⟩ := List.getElem?_of_mem hv
  exact hca v (List.mem_of_getElem? (hat i v hi))
end hh_calls
