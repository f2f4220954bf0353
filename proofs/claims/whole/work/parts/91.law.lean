/-! the law: its rules -/
abbrev hl_X : Type := Program × Launch × Env × State × MethodId × List Frame × Method × Code × Nat × Nat × (Nat → Int32) × hh_G
def hl_ok : hl_X → Prop
  | (p, _, _, s, m, _, meth, c, b, L, xs, g) => lw_At p s m meth c b L xs ∧ L ≤ 3072 ∧ hh_F g s ∧ ∀ q, hh_A g q → s.heap.size ≤ q
def hl_L : hl_X → Nat
  | (_, _, _, _, _, _, _, _, _, L, _, _) => L
def hl_v : hl_X → Int → Int
  | (_, _, _, _, _, _, _, _, _, _, xs, _), j => (xs j.toNat).toInt
/-- the law from pc on, its counter at i -/
def hl_J : hl_X → Nat → Int → List hh_V → hh_S → Prop
  | (p, l, e, s, m, below, meth, c, b, _, _, g), pc, i, st, σ => ∀ (H : Heap) (ls : Array Slot), va_P g.2.2 vwCl (hh_wl g σ) H → va_S (hh_A g) s.heap H [] → hh_cs σ → (∀ v ∈ st, hh_cv v) → lv_has ls 4 [(0, .ref b), (1, .ref (g.1 0)), (2, .ref (g.1 128)), (3, .int (Int32.ofInt i))] → W p l e room_1 s m #[Value.ref b] below meth c H [] 148 28499 (lw_Z below #[Value.ref b] s) (F0 m pc ls (st.map (hh_tr g)))
section hl_rules
variable {X : hl_X} {pc : Nat} {i : Int} {st : List hh_V} {σ : hh_S}
theorem hl_aload1 (hX : hl_ok X) (hd : decode code pc = .ok (.aload_n 1, 1)) (kk : hl_J X (pc + 1) i (hh_R 0 :: st) σ) : hl_J X pc i st σ := by
  obtain ⟨p, l, e, s, m, below, meth, c, b, L, xs, g⟩ := X
  intro H ls hP hS hc hv hl
  obtain ⟨⟨hx, hb, hr, hml, hown, hts, hX0, hbl, hlocks, hgv⟩, hL, hF, hfr⟩ := hX
  exact lv_aload_n hx hb hd rfl (lv_at hl 1 rfl) (kk H ls hP hS hc (fun v h => by
    rcases List.mem_cons.mp h with z | z
    · rw [z]; trivial
    · exact hv v z) hl)
theorem hl_aload2 (hX : hl_ok X) (hd : decode code pc = .ok (.aload_n 2, 1)) (kk : hl_J X (pc + 1) i (hh_R 128 :: st) σ) : hl_J X pc i st σ := by
  obtain ⟨p, l, e, s, m, below, meth, c, b, L, xs, g⟩ := X
  intro H ls hP hS hc hv hl
  obtain ⟨⟨hx, hb, hr, hml, hown, hts, hX0, hbl, hlocks, hgv⟩, hL, hF, hfr⟩ := hX
  exact lv_aload_n hx hb hd rfl (lv_at hl 2 rfl) (kk H ls hP hS hc (fun v h => by
    rcases List.mem_cons.mp h with z | z
    · rw [z]; trivial
    · exact hv v z) hl)
theorem hl_arg {a : Int} (hX : hl_ok X) (h0 : decode code pc = .ok (.aload_n 0, 1)) (h1 : decode code (pc + 1) = .ok (.iload_n 3, 1)) (h2 : decode code (pc + 2) = .ok (.iconst a, 1)) (h3 : decode code (pc + 3) = .ok (.iadd, 1)) (h4 : decode code (pc + 4) = .ok (.iaload, 1)) (ha : 0 ≤ a ∧ a ≤ 5) (hi : 0 ≤ i ∧ i + 5 < hl_L X) (kk : hl_J X (pc + 5) i (hh_I (hl_v X (i + a)) :: st) σ) : hl_J X pc i st σ := by
  obtain ⟨p, l, e, s, m, below, meth, c, b, L, xs, g⟩ := X
  have hi : 0 ≤ i ∧ i + 5 < (L : Int) := hi
  intro H ls hP hS hc hv hl
  obtain ⟨⟨hx, hb, hr, hml, hown, hts, hX0, hbl, hlocks, hgv⟩, hL, hF, hfr⟩ := hX
  have hbA : ¬ hh_A g b := fun z => by have := hfr b z; omega
  refine lv_aload_n hx hb h0 rfl (lv_at hl 0 rfl) ?_
  refine lv_iload_n hx hb h1 rfl (lv_at hl 3 rfl) ?_
  refine lv_iconst (v := Int32.ofInt a) hx hb h2 rfl ?_
  refine lv_iadd hx hb h3 ?_
  rw [← Int32.ofInt_add i a]
  refine va_sld hx hb hX0 hbl hbA hS (hh_vin (by omega) (by omega) ⟨by omega, by omega⟩) h4 ?_
  rw [hh_clamp (by omega) (by omega)]
  have k := kk H ls hP hS hc (fun v h => by
    rcases List.mem_cons.mp h with z | z
    · rw [z]; exact hh_can_i _
    · exact hv v z) hl
  have e1 : hh_tr g (hh_I (hl_v (p, l, e, s, m, below, meth, c, b, L, xs, g) (i + a))) = .int (xs (i + a).toNat) := by
    show Value.int (Int32.ofInt (xs (i + a).toNat).toInt) = _
    rw [Int32.ofInt_toInt]
  rw [List.map_cons, e1] at k
  exact k
theorem hl_eq {x y off : Int} {tgt : Nat} (hX : hl_ok X) (hd : decode code pc = .ok (.if_icmp .eq off, 3)) (ht : (pc : Int) + off = (tgt : Int)) (hxy : x = y) (kk : hl_J X tgt i st σ) : hl_J X pc i (hh_I y :: hh_I x :: st) σ := by
  obtain ⟨p, l, e, s, m, below, meth, c, b, L, xs, g⟩ := X
  intro H ls hP hS hc hv hl
  obtain ⟨⟨hx, hb, hr, hml, hown, hts, hX0, hbl, hlocks, hgv⟩, hL, hF, hfr⟩ := hX
  subst hxy
  exact lv_icmp_eq hx hb hd ht (fun _ => kk H ls hP hS hc (fun v h => hv v (List.mem_cons_of_mem _ (List.mem_cons_of_mem _ h))) hl) (fun z => absurd rfl z)
theorem hl_call {mi' : hh_M} {as : List hh_V} {r idx : Nat} {Q' : Int → hh_S → Prop} (hX : hl_ok X) (hd : decode code pc = .ok (.invokevirtual idx, 3)) (hl : hh_lkV "HourHouseLaw" idx mi') (ho : hh_mok mi' as.length) (hr0 : hh_rcv r mi'.1.cls) (hst : hh_wd st ≤ 8) (hsp : hh_Sp 200 mi' (hh_R r :: as) σ Q') (hk' : ∀ (x : Int) (σ' : hh_S), Q' x σ' → hl_J X (pc + 3) i (hh_rv mi'.2.2.2 x ++ st) σ') : hl_J X pc i (as.reverse ++ hh_R r :: st) σ := by
  obtain ⟨p, l, e, s, m, below, meth, c, b, L, xs, g⟩ := X
  intro H ls hP hS hc hv hls
  obtain ⟨⟨hx, hb, hr, hml, hown, hts, hX0, hbl, hlocks, hgv⟩, hL, hF, hfr⟩ := hX
  have hown' : s.vm.findClass "HourHouseLaw" = some m.cls := hown
  have hts' : ∀ w ∈ hh_tbl, w.before #[Value.ref b] s = true := fun w hw => hts w (hh_inl hw)
  obtain ⟨o1, o2, o3, o4, o5⟩ := ho
  have cw : CallW room_1 s #[Value.ref b] "HourHouseLaw" mi'.1.cls idx mi'.1 mi'.2.1 mi'.2.2.1 mi'.2.2.2 (.code mi'.1 mi'.2.1 mi'.2.2.1 mi'.2.2.2 :: hh_tbl) (hh_rm 200) 0 0 as.length :=
    ⟨callB_of as.length hts' (hh_gws o2) rfl rfl rfl (hts' _ o3) (hts' _ hl.1) o4 ⟨Nat.le_of_ble_eq_true rfl, by show 8 + (mi'.2.2.1 + 11) + 12800 ≤ 84000; omega⟩, hts' _ hl.2.1, hts' _ hl.2.2⟩
  have hst0 : (as.reverse ++ hh_R r :: st).map (hh_tr g) = (as.map (hh_tr g)).reverse ++ .ref (g.1 r) :: st.map (hh_tr g) := by
    rw [List.map_append, List.map_reverse]; rfl
  rw [hst0]
  have hrun := va_runV (As := as.map (hh_tr g)) (rest := st.map (hh_tr g)) (g := F0 m pc ls ((as.map (hh_tr g)).reverse ++ .ref (g.1 r) :: st.map (hh_tr g))) (p := p) (e := e) (below := below) (meth := meth) (locs := []) (cells := 148) (slots := 28499) ⟨hx, hb, hml, hown', hts'⟩ (hsp l g) cw
    ⟨hh_blind g _ _, hr0 g σ s H [] hF hP hS, fun U hU hW => ⟨rfl, hF.to (by rw [hU]; exact hS) hW, fun v hv' => by
      rcases List.mem_cons.mp hv' with e0 | hv'
      · rw [e0]; trivial
      · exact hv v (List.mem_append_left _ (List.mem_reverse.mpr hv')), hc, by rw [hU]; exact hP⟩⟩ rfl (List.length_map _) hls.1 rfl (lv_room (by rw [hh_wd_eq]; exact hst)) hd ⟨Nat.le_of_ble_eq_true rfl, Nat.le_of_ble_eq_true rfl⟩
  intro T hT Y
  obtain ⟨v, st₀, t, T', Lc, g0, Y', hLc, e1, e2, ⟨⟨x, σ', hvv, hq, hcx, hs', hp⟩, hz, hk⟩, stp⟩ := hrun T hT Y
  cases hvv
  rw [g0] at hz hk
  have KK : W p l e room_1 s m #[Value.ref b] below meth c T'.heap ([] ++ Lc) 148 28499 (lw_Z below #[Value.ref b] s) (F0 m (pc + 3) ls ((hh_ro mi'.2.2.2 x).toList ++ st.map (hh_tr g))) := by
    refine va_forget (fun q hq' => hfr _ (hLc q (by simpa using hq'))) ?_
    rw [hh_rv_eq]
    refine hk' x σ' hq T'.heap ls (by rw [e1]; exact hp) ⟨Nat.le_trans hS.1 (by rw [e1]; exact hz), fun q h1 h2 => by rw [e1, hk q (Nat.lt_of_lt_of_le h1 hS.1) h2]; exact hS.2.1 q h1 h2, fun q hq' => by cases hq'⟩ hs' (fun w hw => ?_) hls
    rcases List.mem_append.mp hw with z | z
    · cases hret : mi'.2.2.2 with
      | none => rw [hret] at z; cases z
      | some ty =>
        rw [hret] at z
        rw [List.mem_singleton.mp z]
        exact hcx
    · exact hv w (List.mem_append_right _ (List.mem_cons_of_mem _ z))
  obtain ⟨t2, a1, b1⟩ := KK T' rfl Y'
  exact ⟨t2, stp t2 a1, b1⟩
end hl_rules
