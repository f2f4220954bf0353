/-! the law: its start, whole -/
theorem hk_wl_sg {K : hk_G} {q : Nat → Nat} {σ : hh_S} : hh_wl (q, K) σ = hk_sg K q σ 0 hh_dl := by
  have h : ∀ (l : List hh_D) (r : Nat), l.mapIdx (fun i d => (q (r + i), hh_en (q, K) σ (r + i) d)) = hk_sg K q σ r l := by
    intro l
    induction l with
    | nil => intro r; rfl
    | cons d l ih =>
      intro r
      rw [List.mapIdx_cons]
      show (q (r + 0), hh_en (q, K) σ (r + 0) d) :: l.mapIdx (fun i d => (q (r + (i + 1)), hh_en (q, K) σ (r + (i + 1)) d)) = (q r, hh_en (q, K) σ r d) :: hk_sg K q σ (r + 1) l
      rw [← ih (r + 1), Nat.add_zero]
      have e : (fun (i : Nat) (d : hh_D) => (q (r + (i + 1)), hh_en (q, K) σ (r + (i + 1)) d)) = (fun i d => (q (r + 1 + i), hh_en (q, K) σ (r + 1 + i) d)) := by
        funext i d
        rw [show r + (i + 1) = r + 1 + i by omega]
      rw [e]
  rw [← h hh_dl 0]
  unfold hh_wl
  simp only [Nat.zero_add]
def hl_q (qX qM adK adV : Nat → Nat) (r : Nat) : Nat := if r < 128 then qX r else if r < 148 then qM (r - 128) else if r < 2000 then adK (r - 1000) else adV (r - 2000)
theorem hl_world {K : hk_G} {qX qM adK adV : Nat → Nat} : hh_wl (hl_q qX qM adK adV, K) hl_s0 = hk_sg K qX sg_X11 0 dl_X11 ++ hk_sg K qM sg_X12 0 dl_X12 := by
  rw [hk_wl_sg, hl_dl]
  refine hk_sg_cat (r2 := 128) ?_ (by decide +kernel) ?_
  · have e := hk_sg_sh (K := K) (q := hl_q qX qM adK adV) (σ := hl_s0) (q' := qX) (σ' := sg_X11) (off := 0) (ext := 0) (B := 128) (E := false) (fun k hk => ?_) (fun k hk => ?_) dl_X11 0 (by decide +kernel) (by decide +kernel) (by decide)
    · rw [hl_dl0] at e; exact e
    · rcases hk with hk | hk
      · have e1 : hk_ph 0 0 k = k := by
          unfold hk_ph
          rw [if_neg (by omega), Nat.zero_add]
        rw [e1]
        unfold hl_q
        rw [if_pos (by omega)]
      · exact absurd hk.2 (by decide)
    · show hl_s0 (0 + k) = sg_X11 k
      unfold hl_s0
      rw [if_pos (by omega), Nat.zero_add]
  · refine hk_sg_sh (K := K) (q := hl_q qX qM adK adV) (σ := hl_s0) (q' := qM) (σ' := sg_X12) (off := 128) (ext := 0) (B := 20) (E := false) (fun k hk => ?_) (fun k hk => ?_) dl_X12 0 (by decide +kernel) (by decide +kernel) (by decide)
    · rcases hk with hk | hk
      · have e1 : hk_ph 128 0 k = 128 + k := by
          unfold hk_ph
          rw [if_neg (by omega)]
        rw [e1]
        unfold hl_q
        rw [if_neg (by omega), if_pos (by omega), show 128 + k - 128 = k by omega]
      · exact absurd hk.2 (by decide)
    · show hl_s0 (128 + k) = sg_X12 k
      unfold hl_s0
      rw [if_neg (by omega), show 128 + k - 128 = k by omega]
section hm_rules
variable {p : Program} {l : Launch} {e : Env} {R : Room} {s : State} {m : MethodId} {args : Array Value} {below : List Frame} {meth : Method} {c : Code} {H : Heap} {locs : List Loc} {k n pc : Nat} {Qs : State → Prop} {ls : Array Slot} {st : List Value} {K : hk_G} {A : Nat → Prop} {own : String}
theorem hm_new {ws : va_W} {ci idx N : Nat} {fs : List Value} (hx : p.tables.exec = Jvm.exec) (hb : c.code = code) (hts : ∀ w ∈ hh_tbl, w.before args s = true) (hown : s.vm.findClass own = some m.cls) (hF : hk_F K s) (hd : decode code pc = .ok (.new idx, 3)) (hN : hk_N own idx ci N fs) (hP : va_P K.2 vwCl ws H) (hD : va_D A ws) (hS : va_S A s.heap H locs) (hA : ∀ q, s.heap.size ≤ q → A q) (hk : k + 1 ≤ R.cells) (hn : n + N ≤ R.slots) (kk : ∀ (q : Nat) (H1 : Heap), va_P K.2 vwCl (ws ++ [(q, .inr (ci, fs))]) H1 → va_D A (ws ++ [(q, .inr (ci, fs))]) → va_S A s.heap H1 locs → W p l e R s m args below meth c H1 locs (k + 1) (n + N) Qs (F0 m (pc + 3) ls (.ref q :: st))) : W p l e R s m args below meth c H locs k n Qs (F0 m pc ls st) := by
  obtain ⟨C, T, ty0, g1, g2, g3, g4, g5, g6, g7⟩ := hN
  exact va_new (ci := ci) (fs := fs) (C := C) (T := T) (N := N) hx hb hts g2 ty0 g3 hown (hts _ g4) (hts _ g5) (hts _ g6) hF.1 hP hD hS hA g1 g7 hk hn hd kk
theorem hm_call {mi' : hh_M} {d mc' ms' b0 idx nL : Nat} {E : va_E} {X : va_W} {Post' : va_W → Prop} (hx : p.tables.exec = Jvm.exec) (hb : c.code = code) (hml : c.maxLocals = nL) (hts : ∀ w ∈ hh_tbl, w.before args s = true) (hown : s.vm.findClass own = some m.cls) (hF : hk_F K s) (hd : decode code pc = .ok (.invokespecial idx, 3)) (hl : Cond.methodLink own idx mi'.1 ∈ hh_tbl) (ho : hk_mok mi' 0) (hst : (st.map fun v => v.category).sum ≤ 8) (hsp : hk_Sp K d mc' ms' mi' [.ref b0] [(b0, E)] Post') (hsz : ls.size = nL) (hP : va_P K.2 vwCl (X ++ [(b0, E)]) H) (hD : va_D A (X ++ [(b0, E)])) (hS : va_S A s.heap H locs) (hA : ∀ q, s.heap.size ≤ q → A q) (hfr : d + 1 ≤ R.frames) (hlo : 8 + (mi'.2.2.1 + 11) + 64 * d ≤ R.locals) (hk : k + mc' ≤ R.cells) (hn : n + ms' ≤ R.slots) (kk : ∀ (w1 : va_W) (H1 : Heap) (locs1 : List Loc), Post' w1 → va_P K.2 vwCl (X ++ w1) H1 → va_D A (X ++ w1) → va_S A s.heap H1 locs1 → W p l e R s m args below meth c H1 locs1 (k + mc') (n + ms') Qs (F0 m (pc + 3) ls st)) : W p l e R s m args below meth c H locs k n Qs (F0 m pc ls (.ref b0 :: st)) := by
  obtain ⟨o0, o1, o2, o3, o4, o5, o6⟩ := ho
  have hFc := hk_free hD hS hA
  have hPre : PreS s H (va_Pc [.ref b0] (fun U => U.heap.size = H.size ∧ va_P K.2 vwCl [(b0, E)] U.heap ∧ hk_F K U ∧ va_D (fun _ => True) [(b0, E)])) [.ref b0] := ⟨hk_blind, fun U hU hW => ⟨rfl, by rw [hU], by rw [hU]; exact hk_last hP, hF.warm hW, hk_one⟩⟩
  have GO : va_Run p l e R s m args below meth c H locs k n mc' ms' (F0 m pc ls (.ref b0 :: st)) st (va_Qv Post' (hk_B K (va_A [(b0, E)] H.size)) (va_A [(b0, E)] H.size) (Value.ref b0 :: []).toArray) (va_A [(b0, E)] H.size) :=
    va_runI (As := []) (rest := st) ⟨hx, hb, hml, hown, hts⟩ (hsp l H.size) ⟨callB_of 0 hts (hk_gws o2) rfl rfl rfl (hts _ o3) (hts _ hl) o5 ⟨hfr, hlo⟩, o1, hts _ o4⟩ hPre rfl rfl hsz rfl (lv_room hst) hd ⟨hk, hn⟩
  refine va_callv GO hS (fun q _ h => hFc q h) hFc (fun w1 t H1 locs1 ht hvm hw hB hz1 hk1 hS1 => ?_)
  obtain ⟨hP1, hD1⟩ := hB
  rw [ht] at hP1
  obtain ⟨hP2, hD2⟩ := hk_join hP hD hk1 hFc hP1 hD1
  exact kk w1 H1 locs1 hw hP2 hD2 hS1
end hm_rules
set_option maxHeartbeats 4000000 in
/-- THE LAW, from its entry -/
theorem whole_start {p : Program} {e : Env} {s : State} {m : MethodId} {below : List Frame} {meth : Method} {c : Code} (l : Launch) (hflags : l.flags = flags0) {b L : Nat} {xs : Nat → Int32} (hL : L ≤ 3072) (C0 : lw_At p s m meth c b L xs) : W p l e room_1 s m #[Value.ref b] below meth c s.heap [] 0 0 (lw_Z below #[Value.ref b] s) (entryFrame m ([Value.ref b] : List Value).toArray 4) := by
  obtain ⟨hx, hb, hr, hml, hown, hts, hX, hbl, hlocks, hgv⟩ := id C0
  have hown' : s.vm.findClass "HourHouseLaw" = some m.cls := hown
  have hts' : ∀ w ∈ hh_tbl, w.before #[Value.ref b] s = true := fun w hw => hts w (hh_inl hw)
  obtain ⟨D, hKc⟩ := hl_known hts'
  obtain ⟨c0, a0, r0⟩ := hl_arr (hts' _ hl_ac0)
  obtain ⟨c1, a1, r1⟩ := hl_arr (hts' _ hl_ac1)
  obtain ⟨c2, a2, r2⟩ := hl_arr (hts' _ hl_ac2)
  obtain ⟨c3, a3, r3⟩ := hl_arr (hts' _ hl_ac3)
  obtain ⟨K, hK⟩ : ∃ K : hk_G, K = (fun k => if k = 0 then c0 else if k = 1 then c1 else if k = 2 then c2 else c3, D) := ⟨_, rfl⟩
  have hKK : va_K K.2 vwCl (hk_ty K) s := by
    rw [hK]
    refine ⟨hKc, fun k q hq => ?_⟩
    have hk : k < 4 := (List.getElem?_eq_some_iff.mp hq).1
    rcases (show k = 0 ∨ k = 1 ∨ k = 2 ∨ k = 3 by omega) with z | z | z | z <;> (subst z; cases hq)
    · exact ⟨a0, r0⟩
    · exact ⟨a1, r1⟩
    · exact ⟨a2, r2⟩
    · exact ⟨a3, r3⟩
  clear hK
  have hFk : hk_F K s := ⟨hKK, hl_nestk hts⟩
  have hA : ∀ q : Nat, s.heap.size ≤ q → (fun q : Nat => s.heap.size ≤ q) q := fun _ h => h
  have hA0 : ∀ a : Nat, a < s.heap.size → ¬ (fun q : Nat => s.heap.size ≤ q) a := fun a h z => Nat.not_le.mpr h z
  obtain ⟨adK, adV, hstr, htm⟩ := hl_strs (A := fun q : Nat => s.heap.size ≤ q) hgv hA0
  have hZ1 : va_Z "java/lang/String" "COMPACT_STRINGS" "Z" (.int 1) (fun q : Nat => s.heap.size ≤ q) s s.heap := va_Zof (hts _ hl_ls1) (hts' _ hl_in1) (va_eqt (flat_of_before _ hgv (Cond.eq (.static "java/lang/String" "COMPACT_STRINGS" "Z") (.int 1)) (by decide +kernel))) hA0
  have hZ2 : va_Zq "jdk/internal/util/Preconditions" "SIOOBE_FORMATTER" "Ljava/util/function/BiFunction;" (fun q : Nat => s.heap.size ≤ q) s s.heap := va_Zqof (hts _ hl_ls2) (hts' _ hl_in2) (flat_of_before _ hgv (Cond.isRef (.static "jdk/internal/util/Preconditions" "SIOOBE_FORMATTER" "Ljava/util/function/BiFunction;")) (by decide +kernel)) hA0
  have hS : va_S (fun q : Nat => s.heap.size ≤ q) s.heap s.heap [] := va_S.rf
  have hP : va_P K.2 vwCl [] s.heap := fun k q h => by simp at h
  have hD : va_D (fun q : Nat => s.heap.size ≤ q) [] := ⟨fun i j p q h => by simp at h, fun k q h => by simp at h⟩
  have hl := lv_entry ([.ref b]) (n := 4) (Nat.le_of_ble_eq_true rfl)
  rw [lg_entry_eq]
  generalize (lg_sl ([.ref b]) ++ List.replicate (4 - (lg_sl ([.ref b])).length) Slot.unset).toArray = ls at hl ⊢
  have hl : lv_has ls 4 [(0, .ref b)] := hl
  refine hm_new hx hb hts' hown' hFk dL_law_0 kn_L_7 hP hD hS hA (Nat.le_of_ble_eq_true rfl) (Nat.le_of_ble_eq_true rfl) (fun q0 H hP hD hS => ?_)
  refine lv_dup hx hb dL_law_3 rfl ?_
  refine hm_call (mi' := hm_X11_init) hx hb hml hts' hown' hFk dL_law_4 lkI_9 ko_X11 (Nat.le_of_ble_eq_true rfl) (mk_X11 K q0) hl.1 hP hD hS hA (Nat.le_of_ble_eq_true rfl) (Nat.le_of_ble_eq_true rfl) (Nat.le_of_ble_eq_true rfl) (Nat.le_of_ble_eq_true rfl) (fun wX H locs hwX hP hD hS => ?_)
  refine lv_astore_n (lv' := [(1, .ref q0), (0, .ref b)]) hx hb dL_law_7 rfl hl (by decide) rfl (fun ls hl => ?_)
  refine hm_new hx hb hts' hown' hFk dL_law_8 kn_L_10 hP hD hS hA (Nat.le_of_ble_eq_true rfl) (Nat.le_of_ble_eq_true rfl) (fun q1 H hP hD hS => ?_)
  refine lv_dup hx hb dL_law_11 rfl ?_
  refine hm_call (mi' := hm_X12_init) hx hb hml hts' hown' hFk dL_law_12 lkI_12 ko_X12 (Nat.le_of_ble_eq_true rfl) (mk_X12 K q1) hl.1 hP hD hS hA (Nat.le_of_ble_eq_true rfl) (Nat.le_of_ble_eq_true rfl) (Nat.le_of_ble_eq_true rfl) (Nat.le_of_ble_eq_true rfl) (fun wM H locs hwM hP hD hS => ?_)
  refine lv_astore_n (lv' := [(2, .ref q1), (1, .ref q0), (0, .ref b)]) hx hb dL_law_15 rfl hl (by decide) rfl (fun ls hl => ?_)
  refine lv_iconst (v := Int32.ofInt 0) hx hb dL_law_16 rfl ?_
  refine lv_istore_n (lv' := [(3, .int (Int32.ofInt 0)), (2, .ref q1), (1, .ref q0), (0, .ref b)]) hx hb dL_law_17 rfl hl (by decide) rfl (fun ls hl => ?_)
  obtain ⟨qX, x0, -, rfl⟩ := hwX
  obtain ⟨qM, y0, -, rfl⟩ := hwM
  rw [List.nil_append] at hP hD
  have hw := hl_world (K := K) (qX := qX) (qM := qM) (adK := adK) (adV := adV)
  rw [← hw] at hP hD
  have hq0 : hl_q qX qM adK adV 0 = q0 := x0
  have hq1 : hl_q qX qM adK adV 128 = q1 := y0
  have hk0 : ∀ i : Nat, i < 3 → hl_q qX qM adK adV (1000 + i) = adK i ∧ hl_q qX qM adK adV (2000 + i) = adV i := by
    intro i hi
    unfold hl_q
    rw [if_neg (by omega), if_neg (by omega), if_pos (by omega), if_neg (by omega), if_neg (by omega), if_neg (by omega), show 1000 + i - 1000 = i by omega, show 2000 + i - 2000 = i by omega]
    exact ⟨rfl, rfl⟩
  clear hw
  generalize hl_q qX qM adK adV = q at hP hD hq0 hq1 hk0
  have hfr : ∀ a, hh_A (q, K) a → s.heap.size ≤ a := by
    rintro a ⟨r, d, h1, rfl⟩
    exact hD.2 r _ (hh_wl_at h1)
  have hinj : hh_inj (q, K) := fun r r' d d' h1 h2 he => hD.1 r r' _ _ (hh_wl_at h1) (hh_wl_at h2) he
  have hF : hh_F (q, K) s := by
    refine ⟨hKK, hinj, hl_nest hts, ⟨fun i hi => ?_, fun i j hi hj he => ?_⟩, ⟨?_, ?_, ?_⟩, hZ1.narrow (fun a h => hfr a h), hZ2.narrow (fun a h => hfr a h)⟩
    · show va_O "java/lang/String" (q (1000 + i)) (hh_A (q, K)) s s.heap ∧ va_OF "java/lang/String" "coder" "B" (.int 0) (q (1000 + i)) (hh_A (q, K)) s s.heap ∧ va_OF "java/lang/String" "value" "[B" (.ref (q (2000 + i))) (q (1000 + i)) (hh_A (q, K)) s s.heap ∧ va_T .byte (q (2000 + i)) (hh_sl.getD i 0) (fun j => .int ((hh_sb.getD i []).getD j 0)) (hh_A (q, K)) s s.heap
      rw [(hk0 i hi).1, (hk0 i hi).2]
      exact (hstr.narrow (fun a h => hfr a h)).1 i hi
    · have he : q (1000 + i) = q (1000 + j) := he
      rw [(hk0 i hi).1, (hk0 j hj).1] at he
      exact hstr.2 i j hi hj he
    · refine vk_R.of (A := #[Value.ref b]) (hts _ hl_sr48) ?_
      have := htm 0 (by decide)
      rw [← (hk0 0 (by decide)).1] at this
      exact this
    · refine vk_R.of (A := #[Value.ref b]) (hts _ hl_sr60) ?_
      have := htm 1 (by decide)
      rw [← (hk0 1 (by decide)).1] at this
      exact this
    · refine vk_R.of (A := #[Value.ref b]) (hts _ hl_sr122) ?_
      have := htm 2 (by decide)
      rw [← (hk0 2 (by decide)).1] at this
      exact this
  refine va_forget (fun a ha => hS.2.2 a ha) ?_
  have hX1 : hl_ok (p, l, e, s, m, below, meth, c, b, L, xs, (q, K)) := ⟨C0, hL, hF, hfr⟩
  have go := law_loop hX1 (L + 8) 0 hl_s0 (by omega) (by show (0 : Int) ≤ (L : Int) + 6; omega) (by show (L : Int) + 7 ≤ 0 + ((L + 8 : Nat) : Int); omega) hl_R0
  refine go H ls hP ⟨hS.1, fun a h1 h2 => hS.2.1 a h1 (fun z => Nat.not_le.mpr h1 z), fun a ha => by cases ha⟩ hl_can0 (fun v hv => by cases hv) ?_
  have hl2 := lv_sub hl [3, 2, 1, 0] rfl
  have e0 : (q, K).1 0 = q0 := hq0
  have e1 : (q, K).1 128 = q1 := hq1
  rw [e0, e1]
  exact hl2
