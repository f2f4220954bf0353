/-! String.checkIndex: its formatter is only carried -/
abbrev hm_J3_checkIndex : hh_M := (yJ3_checkIndex_8e157, cJ3_checkIndex_8e157, 3, some .int)
theorem mo_J3_checkIndex : hh_mok hm_J3_checkIndex 3 := ⟨by decide, hh_in 867 (by decide +kernel) (by decide +kernel), hh_in 88 (by decide +kernel) (by decide +kernel), ⟨by decide, by decide, (by decide +kernel)⟩, by decide⟩
theorem lk_J0_1059 : hh_lkS "java/lang/String" 1059 hm_J3_checkIndex := ⟨hh_in 865 (by decide +kernel) (by decide +kernel), hh_in 866 (by decide +kernel) (by decide +kernel)⟩
theorem kf_J0_1053 : Cond.fieldLink "java/lang/String" 1053 "jdk/internal/util/Preconditions" "SIOOBE_FORMATTER" "Ljava/util/function/BiFunction;" ∈ hh_tbl := hh_in 863 (by decide +kernel) (by decide +kernel)
theorem w_J3_checkIndex {d : Nat} {a n : Int} {σ : hh_S} {Q : Int → hh_S → Prop} (h1 : 0 ≤ a) (h2 : a < n) (h : Q a σ) : hh_J d hm_J3_checkIndex 0 [some (hh_I a), some (hh_I n), none] [] σ Q := by
  refine hh_iload_n dJ3_checkIndex_8e157_0 rfl ?_
  refine hh_if_lt (tgt := 9) dJ3_checkIndex_8e157_1 (by decide) (fun c => absurd c (by omega)) (fun _ => ?_)
  refine hh_iload_n dJ3_checkIndex_8e157_4 rfl ?_
  refine hh_iload_n dJ3_checkIndex_8e157_5 rfl ?_
  refine hh_icmp_lt (tgt := 16) dJ3_checkIndex_8e157_6 (by decide) (fun _ => ?_) (fun c => absurd h2 c)
  refine hh_iload_n dJ3_checkIndex_8e157_16 rfl ?_
  exact hh_ireturn dJ3_checkIndex_8e157_17 rfl h
theorem J3_met {v : Value} (hv : ¬ v.category = 2) {d : Nat} {a n : Int} {σ : hh_S} {Q : Int → hh_S → Prop} (h1 : 0 ≤ a) (h2 : a < n) (h : Q a σ) (l : Launch) (g : hh_G) : Met l hm_J3_checkIndex.1 (.code hm_J3_checkIndex.1 hm_J3_checkIndex.2.1 hm_J3_checkIndex.2.2.1 hm_J3_checkIndex.2.2.2 :: hh_tbl) (hh_rm d) (va_Pc [hh_tr g (hh_I a), hh_tr g (hh_I n), v] (fun U => hh_F g U ∧ (∀ w ∈ [hh_I a, hh_I n], hh_cv w) ∧ hh_cs σ ∧ va_P g.2.2 vwCl (hh_wl g σ) U.heap)) (hh_Qc hm_J3_checkIndex g Q) 0 0 (hh_A g) := by
  refine Met.ofW (cc := hm_J3_checkIndex.2.1) (maxL := hm_J3_checkIndex.2.2.1) (ret := hm_J3_checkIndex.2.2.2) mo_J3_checkIndex.1 rfl ?_
  intro p e s m args below meth c s₁ B hml hq
  obtain ⟨rfl, hF, hca, hcs, hP⟩ := hq
  have hts0 := atoms_spec (ws := .code hm_J3_checkIndex.1 hm_J3_checkIndex.2.1 hm_J3_checkIndex.2.2.1 hm_J3_checkIndex.2.2.2 :: hh_tbl) B.pre
  have hown : s.vm.findClass hm_J3_checkIndex.1.cls = some m.cls := findClass_of_methodNamed B.named
  have c0 : ¬ (hh_tr g (hh_I a)).category = 2 := fun z => absurd (show (1 : Nat) = 2 from z) (by decide)
  have c1 : ¬ (hh_tr g (hh_I n)).category = 2 := fun z => absurd (show (1 : Nat) = 2 from z) (by decide)
  have hsl : (lg_sl [hh_tr g (hh_I a), hh_tr g (hh_I n), v]).length ≤ 3 := by
    unfold lg_sl
    simp only [List.flatMap_cons, List.flatMap_nil, if_neg c0, if_neg c1, if_neg hv]
    exact Nat.le_refl 3
  have hl := lv_entry [hh_tr g (hh_I a), hh_tr g (hh_I n), v] (n := 3) hsl
  rw [lg_entry_eq]
  have hla : lv_args 0 [hh_tr g (hh_I a), hh_tr g (hh_I n), v] = [(0, hh_tr g (hh_I a)), (1, hh_tr g (hh_I n)), (2, v)] := by
    show (0, _) :: lv_args (if (hh_tr g (hh_I a)).category = 2 then 0 + 2 else 0 + 1) _ = _
    rw [if_neg c0]
    show (0, _) :: (1, _) :: lv_args (if (hh_tr g (hh_I n)).category = 2 then 0 + 1 + 2 else 0 + 1 + 1) _ = _
    rw [if_neg c1]
    rfl
  rw [hla] at hl
  generalize (lg_sl [hh_tr g (hh_I a), hh_tr g (hh_I n), v] ++ List.replicate (hm_J3_checkIndex.2.2.1 - (lg_sl [hh_tr g (hh_I a), hh_tr g (hh_I n), v]).length) Slot.unset).toArray = A at hl ⊢
  have hA : lv_has A 3 (hh_al g 0 [some (hh_I a), some (hh_I n), none]) := by
    refine ⟨hl.1, hl.2.1, fun q hq => hl.2.2 q ?_⟩
    have hq2 : q ∈ [(0, hh_tr g (hh_I a)), (1, hh_tr g (hh_I n))] := hq
    rcases List.mem_cons.mp hq2 with z | z
    · rw [z]; exact List.mem_cons_self
    · rw [List.mem_singleton.mp z]; exact List.mem_cons_of_mem _ List.mem_cons_self
  refine w_J3_checkIndex h1 h2 h l g p e s m _ below meth c s.heap [] A ⟨B.exec, B.bytes, B.returns, hml, hown, fun w hw => hts0 w (List.mem_cons_of_mem _ hw), B.notSynchronized, hF⟩ ⟨fun w hw => ?_, fun w hw => (by cases hw), hcs⟩ hP va_S.rf hA
  rcases List.mem_cons.mp hw with z | z
  · rw [Option.some.inj z]; exact hca _ List.mem_cons_self
  · rcases List.mem_cons.mp z with z | z
    · rw [Option.some.inj z]; exact hca _ (List.mem_cons_of_mem _ List.mem_cons_self)
    · cases List.mem_singleton.mp z
theorem c_checkIndex {d : Nat} {a n : Int} {σ : hh_S} {Q : Int → hh_S → Prop} (h1 : 0 ≤ a) (h2 : a < n) (h : Q 0 σ) : hh_Sp (d + 1) hm_J0_checkIndex_df160 [hh_I a, hh_I n] σ Q := by
  refine hh_entry rfl (Nat.le_of_ble_eq_true rfl) rfl (fun hs0 hc0 => ?_)
  refine hh_iload_n dJ0_checkIndex_df160_0 rfl ?_
  refine hh_iload_n dJ0_checkIndex_df160_1 rfl ?_
  intro l g p e s m args below meth c H locs A hC hk hP hS hA
  obtain ⟨hx, hb, hr, hml, hown, hts, hlk, hF⟩ := id hC
  obtain ⟨v, hv, hZ⟩ : ∃ v : Value, v.category = 1 ∧ va_Z "jdk/internal/util/Preconditions" "SIOOBE_FORMATTER" "Ljava/util/function/BiFunction;" v (hh_A g) s s.heap := by
    rcases hF.2.2.2.2.2.2 with z | ⟨t, z⟩
    · exact ⟨.null, rfl, z⟩
    · exact ⟨.ref t, rfl, z⟩
  refine va_gets hx hb hZ hS hown (hts _ kf_J0_1053) (fun _ h => h) dJ0_checkIndex_df160_2 ?_
  have ho := mo_J3_checkIndex
  obtain ⟨o1, o2, o3, o4, o5⟩ := ho
  have cw : CallB (hh_rm (d + 1)) s args "java/lang/String" 1059 hm_J3_checkIndex.1 hm_J3_checkIndex.2.1 hm_J3_checkIndex.2.2.1 hm_J3_checkIndex.2.2.2 (.code hm_J3_checkIndex.1 hm_J3_checkIndex.2.1 hm_J3_checkIndex.2.2.1 hm_J3_checkIndex.2.2.2 :: hh_tbl) (hh_rm d) 0 0 3 :=
    callB_of 3 hts (hh_gws o2) rfl rfl rfl (hts _ o3) (hts _ lk_J0_1059.1) o4 ⟨Nat.le_refl (d + 1), by show 8 + (3 + 11) + 64 * d ≤ 64 * (d + 1); omega⟩
  have hrun := va_runS (As := [hh_tr g (hh_I a), hh_tr g (hh_I n), v]) (rest := []) (g := F0 m 5 A ([hh_tr g (hh_I a), hh_tr g (hh_I n), v].reverse ++ [])) (p := p) (e := e) (below := below) (meth := meth) (locs := locs) (cells := 0) (slots := 0) ⟨hx, hb, hml, hown, hts⟩ (J3_met (by omega) (Q := fun _ σ' => σ' = σ) h1 h2 rfl l g) ⟨cw, hts _ lk_J0_1059.2⟩
    ⟨hh_blind g _ _, fun U hU hW => ⟨rfl, hF.to (by rw [hU]; exact hS) hW, fun w hw => hc0 w hw, hk.2.2, by rw [hU]; exact hP⟩⟩ rfl rfl hA.1 rfl (lv_room (by decide)) dJ0_checkIndex_df160_5 ⟨Nat.le_refl 0, Nat.le_refl 0⟩
  refine hh_after (st0 := [v, hh_tr g (hh_I n), hh_tr g (hh_I a)]) hrun hS (fun x σ' H1 locs1 hq hc hs hP1 hS1 => ?_)
  have hq' : σ' = σ := hq
  subst hq'
  refine (hh_pop dJ0_checkIndex_df160_8 (fun g => rfl) (hh_vreturn dJ0_checkIndex_df160_9 rfl h) : hh_J (d + 1) hm_J0_checkIndex_df160 8 [some (hh_I a), some (hh_I n)] [hh_I x] σ' Q) l g p e s m args below meth c H1 locs1 A hC ⟨hk.1, fun w hw => ?_, hs⟩ hP1 hS1 hA
  rw [List.mem_singleton.mp hw]
  exact hc
theorem hr_i2c {x : Int} (h1 : 0 ≤ x) (h2 : x ≤ 127) : hh_i2c x = x ∧ hh_i2c (hh_and x 255) = x := by
  have h : ∀ n : Fin 128, hh_i2c (n.val : Int) = (n.val : Int) ∧ hh_i2c (hh_and (n.val : Int) 255) = (n.val : Int) := by decide +kernel
  obtain ⟨n, rfl⟩ : ∃ n : Nat, x = n := ⟨x.toNat, by omega⟩
  exact h ⟨n, by omega⟩
theorem hr_nch {x : Int} (h1 : 0 ≤ x) (h2 : x ≤ 127) : narrow .char (.int (Int32.ofInt x)) = .int (Int32.ofInt x) := by
  have h : ∀ n : Fin 128, narrow .char (.int (Int32.ofInt (n.val : Int))) = .int (Int32.ofInt (n.val : Int)) := by decide +kernel
  obtain ⟨n, rfl⟩ : ∃ n : Nat, x = n := ⟨x.toNat, by omega⟩
  exact h ⟨n, by omega⟩
theorem hr_sc0 {x : Int} (h1 : 0 ≤ x) (h2 : x < 5) : 0 ≤ hh_sc 0 x ∧ hh_sc 0 x ≤ 127 := by
  have h : ∀ n : Fin 5, 0 ≤ hh_sc 0 (n.val : Int) ∧ hh_sc 0 (n.val : Int) ≤ 127 := by decide +kernel
  obtain ⟨n, rfl⟩ : ∃ n : Nat, x = n := ⟨x.toNat, by omega⟩
  exact h ⟨n, by omega⟩
theorem hr_sc1 {x : Int} (h1 : 0 ≤ x) (h2 : x < 4) : 0 ≤ hh_sc 1 x ∧ hh_sc 1 x ≤ 127 := by
  have h : ∀ n : Fin 4, 0 ≤ hh_sc 1 (n.val : Int) ∧ hh_sc 1 (n.val : Int) ≤ 127 := by decide +kernel
  obtain ⟨n, rfl⟩ : ∃ n : Nat, x = n := ⟨x.toNat, by omega⟩
  exact h ⟨n, by omega⟩
theorem c_charAt0 {d : Nat} {a : Int} {σ : hh_S} {Q : Int → hh_S → Prop} (h1 : 0 ≤ a) (h2 : a < 5) (h : Q (hh_sc 0 a) σ) : hh_Sp (d + 3) hm_J0_charAt_5068e [hh_R 1000, hh_I a] σ Q := by
  have s := hr_sc0 h1 h2
  have i := hr_i2c s.1 s.2
  refine wp_J0_charAt_5068e_i0 _ (fun _ _ => wp_J0_isLatin1_aae02_i0 (fun _ => ⟨fun z => by omega, fun _ => wp_J1_charAt_3b067_i0 _ (fun _ _ => c_checkIndex h1 h2 ⟨⟨⟨h1, h2⟩, ?_⟩, ?_⟩)⟩))
  · rw [i.2]; exact hr_nch s.1 s.2
  · rw [i.2]; exact ⟨hr_nch s.1 s.2, h⟩
theorem c_charAt1 {d : Nat} {a : Int} {σ : hh_S} {Q : Int → hh_S → Prop} (h1 : 0 ≤ a) (h2 : a < 4) (h : Q (hh_sc 1 a) σ) : hh_Sp (d + 3) hm_J0_charAt_5068e [hh_R 1001, hh_I a] σ Q := by
  have s := hr_sc1 h1 h2
  have i := hr_i2c s.1 s.2
  refine wp_J0_charAt_5068e_i1 _ (fun _ _ => wp_J0_isLatin1_aae02_i1 (fun _ => ⟨fun z => by omega, fun _ => wp_J1_charAt_3b067_i1 _ (fun _ _ => c_checkIndex h1 h2 ⟨⟨⟨h1, h2⟩, ?_⟩, ?_⟩)⟩))
  · rw [i.2]; exact hr_nch s.1 s.2
  · rw [i.2]; exact ⟨hr_nch s.1 s.2, h⟩
theorem c_length0 {d : Nat} {σ : hh_S} {Q : Int → hh_S → Prop} (h : Q 5 σ) : hh_Sp (d + 2) hm_J0_length_8abf5 [hh_R 1000] σ Q := by
  refine wp_J0_length_8abf5_i0 (fun _ => wp_J0_coder_7d493_i0 (fun _ => ?_))
  show Q (hh_shr 5 0) σ
  rw [show hh_shr 5 0 = 5 by decide +kernel]
  exact h
theorem c_length1 {d : Nat} {σ : hh_S} {Q : Int → hh_S → Prop} (h : Q 4 σ) : hh_Sp (d + 2) hm_J0_length_8abf5 [hh_R 1001] σ Q := by
  refine wp_J0_length_8abf5_i1 (fun _ => wp_J0_coder_7d493_i1 (fun _ => ?_))
  show Q (hh_shr 4 0) σ
  rw [show hh_shr 4 0 = 4 by decide +kernel]
  exact h
