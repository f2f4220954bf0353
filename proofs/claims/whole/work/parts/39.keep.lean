def hr_lnl : List Int := [9, 1, 8, 8, 8, 1, 5, 5, 15, 15, 15, 1800, 1, 10, 10, 10, 10, 30, 30, 80, 10, 10, 60, 1, 90, 90, 90, 90, 90, 90, 90, 90, 90, 90, 90, 1, 60, 60, 60, 60, 60, 1, 16, 16, 16, 16, 16, 16, 48, 1, 6, 6, 6, 3]
def hr_ln (k : Nat) : Int := hr_lnl.getD k 0
/-- the regions behind S, up to the n-th, stand behind D too -/
def hr_cpd (S D n : Nat) (σ ρ : hh_S) : Prop := (∀ r : Nat, (r ≤ D ∨ D + n < r) → ρ r = σ r) ∧ ∀ k : Nat, 1 ≤ k → k ≤ n → ∀ j : Int, 0 ≤ j → j < hr_ln k → ρ (D + k) j = σ (S + k) j
theorem hr_cpd.step {S D n : Nat} {σ ρ ρ' : hh_S} (h : hr_cpd S D n σ ρ) (ha : S + n + 1 ≤ D ∨ D + n < S) (e1 : ∀ r : Nat, r ≠ D + (n + 1) → ρ' r = ρ r) (e2 : ∀ j : Int, 0 ≤ j → j < hr_ln (n + 1) → ρ' (D + (n + 1)) j = ρ (S + (n + 1)) j) : hr_cpd S D (n + 1) σ ρ' := by
  refine ⟨fun r hr => by rw [e1 r (by omega)]; exact h.1 r (by omega), fun k k1 k2 j j1 j2 => ?_⟩
  by_cases z : k = n + 1
  · subst z
    rw [e2 j j1 j2, h.1 (S + (n + 1)) (by omega)]
  · rw [e1 (D + k) (by omega)]
    exact h.2 k k1 (by omega) j j1 j2
theorem hr_cpd.size {S D n : Nat} {σ ρ : hh_S} (h : hr_cpd S D n σ ρ) (ha : S + n + 1 ≤ D ∨ D + n < S) (hl : hr_ln (n + 1) = 1) : hr_cpd S D (n + 1) σ (hh_up ρ (D + (n + 1)) 0 (ρ (S + (n + 1)) 0)) := by
  refine h.step ha (fun r hr => hh_up_ne hr) (fun j j1 j2 => ?_)
  obtain rfl : j = 0 := by omega
  exact hh_up_at _ _ _ _
theorem c_takeOver {d r1 r2 : Nat} {N : Int} {σ : hh_S} {Q : Int → hh_S → Prop} (h1 : hh_ar r1 0 N) (h2 : hh_ar r2 0 N) (hN : 0 ≤ N) (hq : Q 0 (hh_cpy σ r1 0 r2 0 N)) : hh_Sp (d + 1) hm_X11_takeOver [hh_R r1, hh_R r2] σ Q := by
  refine hh_entry rfl (Nat.le_of_ble_eq_true rfl) rfl (fun hs hc => ?_)
  show hh_J (d + 1) hm_X11_takeOver 0 [some (hh_R r1), some (hh_R r2)] [] σ Q
  refine hh_aload_n dX11_takeOver_0 rfl ?_
  refine hh_iconst dX11_takeOver_1 (by decide) ?_
  refine hh_aload_n dX11_takeOver_2 rfl ?_
  refine hh_iconst dX11_takeOver_3 (by decide) ?_
  refine hh_aload_n dX11_takeOver_4 rfl ?_
  refine hh_alen dX11_takeOver_5 h1 (by decide) ?_
  refine hh_aload_n dX11_takeOver_6 rfl ?_
  refine hh_alen dX11_takeOver_7 h2 (by decide) ?_
  refine hh_mmin dX11_takeOver_8 km_X11_314 (Nat.le_of_ble_eq_true rfl) ?_
  rw [show hh_min N N = N by unfold hh_min; split <;> rfl]
  refine hh_copy dX11_takeOver_11 kcp_X11_290 (by decide) h1 h2 ⟨by omega, by omega, hN, by omega, by omega⟩ (fun _ _ _ => rfl) (Nat.le_of_ble_eq_true rfl) ?_
  exact hh_vreturn dX11_takeOver_14 rfl hq
theorem c_tk {d S D n : Nat} {N : Int} {σ ρ : hh_S} {Q : Int → hh_S → Prop} (h1 : hh_ar (S + (n + 1)) 0 N) (h2 : hh_ar (D + (n + 1)) 0 N) (hN : 0 ≤ N ∧ hr_ln (n + 1) = N) (ha : S + n + 1 ≤ D ∨ D + n < S) (h : hr_cpd S D n σ ρ) (hq : ∀ ρ' : hh_S, hr_cpd S D (n + 1) σ ρ' → Q 0 ρ') : hh_Sp (d + 1) hm_X11_takeOver [hh_R (S + (n + 1)), hh_R (D + (n + 1))] ρ Q := by
  refine c_takeOver h1 h2 hN.1 (hq _ (h.step ha (fun r hr => hh_cpy_ne hr) (fun j j1 j2 => ?_)))
  rw [hh_cpy_eq]
  show (if 0 ≤ j ∧ j < 0 + N then ρ (S + (n + 1)) (0 + (j - 0)) else _) = _
  rw [if_pos (by omega), show 0 + (j - 0) = j by omega]
theorem ra_57 : hh_ar 57 0 8 := ⟨_, rfl, rfl, by decide⟩
theorem ra_58 : hh_ar 58 0 8 := ⟨_, rfl, rfl, by decide⟩
theorem ra_59 : hh_ar 59 0 8 := ⟨_, rfl, rfl, by decide⟩
theorem ra_61 : hh_ar 61 0 5 := ⟨_, rfl, rfl, by decide⟩
theorem ra_62 : hh_ar 62 0 5 := ⟨_, rfl, rfl, by decide⟩
theorem ra_63 : hh_ar 63 0 15 := ⟨_, rfl, rfl, by decide⟩
theorem ra_64 : hh_ar 64 0 15 := ⟨_, rfl, rfl, by decide⟩
theorem ra_65 : hh_ar 65 0 15 := ⟨_, rfl, rfl, by decide⟩
theorem ra_66 : hh_ar 66 0 1800 := ⟨_, rfl, rfl, by decide⟩
theorem ra_68 : hh_ar 68 0 10 := ⟨_, rfl, rfl, by decide⟩
theorem ra_69 : hh_ar 69 0 10 := ⟨_, rfl, rfl, by decide⟩
theorem ra_70 : hh_ar 70 0 10 := ⟨_, rfl, rfl, by decide⟩
theorem ra_71 : hh_ar 71 0 10 := ⟨_, rfl, rfl, by decide⟩
theorem ra_72 : hh_ar 72 0 30 := ⟨_, rfl, rfl, by decide⟩
theorem ra_73 : hh_ar 73 0 30 := ⟨_, rfl, rfl, by decide⟩
theorem ra_74 : hh_ar 74 0 80 := ⟨_, rfl, rfl, by decide⟩
theorem ra_75 : hh_ar 75 0 10 := ⟨_, rfl, rfl, by decide⟩
theorem ra_76 : hh_ar 76 0 10 := ⟨_, rfl, rfl, by decide⟩
theorem ra_77 : hh_ar 77 0 60 := ⟨_, rfl, rfl, by decide⟩
theorem ra_79 : hh_ar 79 0 90 := ⟨_, rfl, rfl, by decide⟩
theorem ra_80 : hh_ar 80 0 90 := ⟨_, rfl, rfl, by decide⟩
theorem ra_81 : hh_ar 81 0 90 := ⟨_, rfl, rfl, by decide⟩
theorem ra_82 : hh_ar 82 0 90 := ⟨_, rfl, rfl, by decide⟩
theorem ra_83 : hh_ar 83 0 90 := ⟨_, rfl, rfl, by decide⟩
theorem ra_84 : hh_ar 84 0 90 := ⟨_, rfl, rfl, by decide⟩
theorem ra_85 : hh_ar 85 0 90 := ⟨_, rfl, rfl, by decide⟩
theorem ra_86 : hh_ar 86 0 90 := ⟨_, rfl, rfl, by decide⟩
theorem ra_87 : hh_ar 87 0 90 := ⟨_, rfl, rfl, by decide⟩
theorem ra_88 : hh_ar 88 0 90 := ⟨_, rfl, rfl, by decide⟩
theorem ra_89 : hh_ar 89 0 90 := ⟨_, rfl, rfl, by decide⟩
theorem ra_91 : hh_ar 91 0 60 := ⟨_, rfl, rfl, by decide⟩
theorem ra_92 : hh_ar 92 0 60 := ⟨_, rfl, rfl, by decide⟩
theorem ra_93 : hh_ar 93 0 60 := ⟨_, rfl, rfl, by decide⟩
theorem ra_94 : hh_ar 94 0 60 := ⟨_, rfl, rfl, by decide⟩
theorem ra_95 : hh_ar 95 0 60 := ⟨_, rfl, rfl, by decide⟩
theorem ra_97 : hh_ar 97 0 16 := ⟨_, rfl, rfl, by decide⟩
theorem ra_98 : hh_ar 98 0 16 := ⟨_, rfl, rfl, by decide⟩
theorem ra_99 : hh_ar 99 0 16 := ⟨_, rfl, rfl, by decide⟩
theorem ra_100 : hh_ar 100 0 16 := ⟨_, rfl, rfl, by decide⟩
theorem ra_101 : hh_ar 101 0 16 := ⟨_, rfl, rfl, by decide⟩
theorem ra_102 : hh_ar 102 0 16 := ⟨_, rfl, rfl, by decide⟩
theorem ra_103 : hh_ar 103 0 48 := ⟨_, rfl, rfl, by decide⟩
theorem ra_105 : hh_ar 105 0 6 := ⟨_, rfl, rfl, by decide⟩
theorem ra_106 : hh_ar 106 0 6 := ⟨_, rfl, rfl, by decide⟩
theorem ra_107 : hh_ar 107 0 6 := ⟨_, rfl, rfl, by decide⟩
theorem ra_108 : hh_ar 108 0 3 := ⟨_, rfl, rfl, by decide⟩
theorem c_X6_become_i0 {d : Nat} {σ ρ : hh_S} {Q : Int → hh_S → Prop} (h : hr_cpd 1 55 0 σ ρ) (hq : ∀ ρ' : hh_S, hr_cpd 1 55 4 σ ρ' → Q 0 ρ') : hh_Sp (d + 2) hm_X6_become [hh_R 56, hh_R 2] ρ Q := by
  refine wp_X6_become_i0 (fun _ => ?_)
  unfold P_X6_become_i0
  have h1 := h.size (by omega) rfl
  refine c_tk (S := 1) (D := 55) (n := 1) (N := 8) ra_3 ra_57 ⟨by decide, rfl⟩ (by omega) h1 (fun ρ2 h2 => ?_)
  refine c_tk (S := 1) (D := 55) (n := 2) (N := 8) ra_4 ra_58 ⟨by decide, rfl⟩ (by omega) h2 (fun ρ3 h3 => ?_)
  refine c_tk (S := 1) (D := 55) (n := 3) (N := 8) ra_5 ra_59 ⟨by decide, rfl⟩ (by omega) h3 (fun ρ4 h4 => ?_)
  exact hq _ h4
theorem c_X1_become_i0 {d : Nat} {σ ρ : hh_S} {Q : Int → hh_S → Prop} (h : hr_cpd 1 55 4 σ ρ) (hq : ∀ ρ' : hh_S, hr_cpd 1 55 11 σ ρ' → Q 0 ρ') : hh_Sp (d + 2) hm_X1_become [hh_R 60, hh_R 6] ρ Q := by
  refine wp_X1_become_i0 (fun _ => ?_)
  unfold P_X1_become_i0
  have h5 := h.size (by omega) rfl
  refine c_tk (S := 1) (D := 55) (n := 5) (N := 5) ra_7 ra_61 ⟨by decide, rfl⟩ (by omega) h5 (fun ρ6 h6 => ?_)
  refine c_tk (S := 1) (D := 55) (n := 6) (N := 5) ra_8 ra_62 ⟨by decide, rfl⟩ (by omega) h6 (fun ρ7 h7 => ?_)
  refine c_tk (S := 1) (D := 55) (n := 7) (N := 15) ra_9 ra_63 ⟨by decide, rfl⟩ (by omega) h7 (fun ρ8 h8 => ?_)
  refine c_tk (S := 1) (D := 55) (n := 8) (N := 15) ra_10 ra_64 ⟨by decide, rfl⟩ (by omega) h8 (fun ρ9 h9 => ?_)
  refine c_tk (S := 1) (D := 55) (n := 9) (N := 15) ra_11 ra_65 ⟨by decide, rfl⟩ (by omega) h9 (fun ρ10 h10 => ?_)
  refine c_tk (S := 1) (D := 55) (n := 10) (N := 1800) ra_12 ra_66 ⟨by decide, rfl⟩ (by omega) h10 (fun ρ11 h11 => ?_)
  exact hq _ h11
theorem c_X5_become_i0 {d : Nat} {σ ρ : hh_S} {Q : Int → hh_S → Prop} (h : hr_cpd 1 55 11 σ ρ) (hq : ∀ ρ' : hh_S, hr_cpd 1 55 22 σ ρ' → Q 0 ρ') : hh_Sp (d + 2) hm_X5_become [hh_R 67, hh_R 13] ρ Q := by
  refine wp_X5_become_i0 (fun _ => ?_)
  unfold P_X5_become_i0
  have h12 := h.size (by omega) rfl
  refine c_tk (S := 1) (D := 55) (n := 12) (N := 10) ra_14 ra_68 ⟨by decide, rfl⟩ (by omega) h12 (fun ρ13 h13 => ?_)
  refine c_tk (S := 1) (D := 55) (n := 13) (N := 10) ra_15 ra_69 ⟨by decide, rfl⟩ (by omega) h13 (fun ρ14 h14 => ?_)
  refine c_tk (S := 1) (D := 55) (n := 14) (N := 10) ra_16 ra_70 ⟨by decide, rfl⟩ (by omega) h14 (fun ρ15 h15 => ?_)
  refine c_tk (S := 1) (D := 55) (n := 15) (N := 10) ra_17 ra_71 ⟨by decide, rfl⟩ (by omega) h15 (fun ρ16 h16 => ?_)
  refine c_tk (S := 1) (D := 55) (n := 16) (N := 30) ra_18 ra_72 ⟨by decide, rfl⟩ (by omega) h16 (fun ρ17 h17 => ?_)
  refine c_tk (S := 1) (D := 55) (n := 17) (N := 30) ra_19 ra_73 ⟨by decide, rfl⟩ (by omega) h17 (fun ρ18 h18 => ?_)
  refine c_tk (S := 1) (D := 55) (n := 18) (N := 80) ra_20 ra_74 ⟨by decide, rfl⟩ (by omega) h18 (fun ρ19 h19 => ?_)
  refine c_tk (S := 1) (D := 55) (n := 19) (N := 10) ra_21 ra_75 ⟨by decide, rfl⟩ (by omega) h19 (fun ρ20 h20 => ?_)
  refine c_tk (S := 1) (D := 55) (n := 20) (N := 10) ra_22 ra_76 ⟨by decide, rfl⟩ (by omega) h20 (fun ρ21 h21 => ?_)
  refine c_tk (S := 1) (D := 55) (n := 21) (N := 60) ra_23 ra_77 ⟨by decide, rfl⟩ (by omega) h21 (fun ρ22 h22 => ?_)
  exact hq _ h22
theorem c_X3_become_i0 {d : Nat} {σ ρ : hh_S} {Q : Int → hh_S → Prop} (h : hr_cpd 1 55 22 σ ρ) (hq : ∀ ρ' : hh_S, hr_cpd 1 55 34 σ ρ' → Q 0 ρ') : hh_Sp (d + 2) hm_X3_become [hh_R 78, hh_R 24] ρ Q := by
  refine wp_X3_become_i0 (fun _ => ?_)
  unfold P_X3_become_i0
  have h23 := h.size (by omega) rfl
  refine c_tk (S := 1) (D := 55) (n := 23) (N := 90) ra_25 ra_79 ⟨by decide, rfl⟩ (by omega) h23 (fun ρ24 h24 => ?_)
  refine c_tk (S := 1) (D := 55) (n := 24) (N := 90) ra_26 ra_80 ⟨by decide, rfl⟩ (by omega) h24 (fun ρ25 h25 => ?_)
  refine c_tk (S := 1) (D := 55) (n := 25) (N := 90) ra_27 ra_81 ⟨by decide, rfl⟩ (by omega) h25 (fun ρ26 h26 => ?_)
  refine c_tk (S := 1) (D := 55) (n := 26) (N := 90) ra_28 ra_82 ⟨by decide, rfl⟩ (by omega) h26 (fun ρ27 h27 => ?_)
  refine c_tk (S := 1) (D := 55) (n := 27) (N := 90) ra_29 ra_83 ⟨by decide, rfl⟩ (by omega) h27 (fun ρ28 h28 => ?_)
  refine c_tk (S := 1) (D := 55) (n := 28) (N := 90) ra_30 ra_84 ⟨by decide, rfl⟩ (by omega) h28 (fun ρ29 h29 => ?_)
  refine c_tk (S := 1) (D := 55) (n := 29) (N := 90) ra_31 ra_85 ⟨by decide, rfl⟩ (by omega) h29 (fun ρ30 h30 => ?_)
  refine c_tk (S := 1) (D := 55) (n := 30) (N := 90) ra_32 ra_86 ⟨by decide, rfl⟩ (by omega) h30 (fun ρ31 h31 => ?_)
  refine c_tk (S := 1) (D := 55) (n := 31) (N := 90) ra_33 ra_87 ⟨by decide, rfl⟩ (by omega) h31 (fun ρ32 h32 => ?_)
  refine c_tk (S := 1) (D := 55) (n := 32) (N := 90) ra_34 ra_88 ⟨by decide, rfl⟩ (by omega) h32 (fun ρ33 h33 => ?_)
  refine c_tk (S := 1) (D := 55) (n := 33) (N := 90) ra_35 ra_89 ⟨by decide, rfl⟩ (by omega) h33 (fun ρ34 h34 => ?_)
  exact hq _ h34
theorem c_X2_become_i0 {d : Nat} {σ ρ : hh_S} {Q : Int → hh_S → Prop} (h : hr_cpd 1 55 34 σ ρ) (hq : ∀ ρ' : hh_S, hr_cpd 1 55 40 σ ρ' → Q 0 ρ') : hh_Sp (d + 2) hm_X2_become [hh_R 90, hh_R 36] ρ Q := by
  refine wp_X2_become_i0 (fun _ => ?_)
  unfold P_X2_become_i0
  have h35 := h.size (by omega) rfl
  refine c_tk (S := 1) (D := 55) (n := 35) (N := 60) ra_37 ra_91 ⟨by decide, rfl⟩ (by omega) h35 (fun ρ36 h36 => ?_)
  refine c_tk (S := 1) (D := 55) (n := 36) (N := 60) ra_38 ra_92 ⟨by decide, rfl⟩ (by omega) h36 (fun ρ37 h37 => ?_)
  refine c_tk (S := 1) (D := 55) (n := 37) (N := 60) ra_39 ra_93 ⟨by decide, rfl⟩ (by omega) h37 (fun ρ38 h38 => ?_)
  refine c_tk (S := 1) (D := 55) (n := 38) (N := 60) ra_40 ra_94 ⟨by decide, rfl⟩ (by omega) h38 (fun ρ39 h39 => ?_)
  refine c_tk (S := 1) (D := 55) (n := 39) (N := 60) ra_41 ra_95 ⟨by decide, rfl⟩ (by omega) h39 (fun ρ40 h40 => ?_)
  exact hq _ h40
theorem c_X0_become_i0 {d : Nat} {σ ρ : hh_S} {Q : Int → hh_S → Prop} (h : hr_cpd 1 55 40 σ ρ) (hq : ∀ ρ' : hh_S, hr_cpd 1 55 48 σ ρ' → Q 0 ρ') : hh_Sp (d + 2) hm_X0_become [hh_R 96, hh_R 42] ρ Q := by
  refine wp_X0_become_i0 (fun _ => ?_)
  unfold P_X0_become_i0
  have h41 := h.size (by omega) rfl
  refine c_tk (S := 1) (D := 55) (n := 41) (N := 16) ra_43 ra_97 ⟨by decide, rfl⟩ (by omega) h41 (fun ρ42 h42 => ?_)
  refine c_tk (S := 1) (D := 55) (n := 42) (N := 16) ra_44 ra_98 ⟨by decide, rfl⟩ (by omega) h42 (fun ρ43 h43 => ?_)
  refine c_tk (S := 1) (D := 55) (n := 43) (N := 16) ra_45 ra_99 ⟨by decide, rfl⟩ (by omega) h43 (fun ρ44 h44 => ?_)
  refine c_tk (S := 1) (D := 55) (n := 44) (N := 16) ra_46 ra_100 ⟨by decide, rfl⟩ (by omega) h44 (fun ρ45 h45 => ?_)
  refine c_tk (S := 1) (D := 55) (n := 45) (N := 16) ra_47 ra_101 ⟨by decide, rfl⟩ (by omega) h45 (fun ρ46 h46 => ?_)
  refine c_tk (S := 1) (D := 55) (n := 46) (N := 16) ra_48 ra_102 ⟨by decide, rfl⟩ (by omega) h46 (fun ρ47 h47 => ?_)
  refine c_tk (S := 1) (D := 55) (n := 47) (N := 48) ra_49 ra_103 ⟨by decide, rfl⟩ (by omega) h47 (fun ρ48 h48 => ?_)
  exact hq _ h48
theorem c_X9_become_i0 {d : Nat} {σ ρ : hh_S} {Q : Int → hh_S → Prop} (h : hr_cpd 1 55 48 σ ρ) (hq : ∀ ρ' : hh_S, hr_cpd 1 55 52 σ ρ' → Q 0 ρ') : hh_Sp (d + 2) hm_X9_become [hh_R 104, hh_R 50] ρ Q := by
  refine wp_X9_become_i0 (fun _ => ?_)
  unfold P_X9_become_i0
  have h49 := h.size (by omega) rfl
  refine c_tk (S := 1) (D := 55) (n := 49) (N := 6) ra_51 ra_105 ⟨by decide, rfl⟩ (by omega) h49 (fun ρ50 h50 => ?_)
  refine c_tk (S := 1) (D := 55) (n := 50) (N := 6) ra_52 ra_106 ⟨by decide, rfl⟩ (by omega) h50 (fun ρ51 h51 => ?_)
  refine c_tk (S := 1) (D := 55) (n := 51) (N := 6) ra_53 ra_107 ⟨by decide, rfl⟩ (by omega) h51 (fun ρ52 h52 => ?_)
  exact hq _ h52
theorem c_become_i0 {d : Nat} {σ : hh_S} {Q : Int → hh_S → Prop} (hq : ∀ ρ : hh_S, hr_cpd 1 55 53 σ ρ → Q 0 (hh_up ρ 55 8 (ρ 1 8))) : hh_Sp (d + 3) hm_X4_become [hh_R 55, hh_R 1] σ Q := by
  refine wp_X4_become_i0 (fun _ => ?_)
  unfold P_X4_become_i0
  have h0 : hr_cpd 1 55 0 σ σ := ⟨fun _ _ => rfl, fun k k1 k2 => by omega⟩
  refine c_X6_become_i0 h0 (fun ρ2 g2 => ?_)
  refine c_X1_become_i0 g2 (fun ρ6 g6 => ?_)
  refine c_X5_become_i0 g6 (fun ρ13 g13 => ?_)
  refine c_X3_become_i0 g13 (fun ρ24 g24 => ?_)
  refine c_X2_become_i0 g24 (fun ρ36 g36 => ?_)
  refine c_X0_become_i0 g36 (fun ρ42 g42 => ?_)
  refine c_X9_become_i0 g42 (fun ρ50 g50 => ?_)
  refine c_tk (S := 1) (D := 55) (n := 52) (N := 3) ra_54 ra_108 ⟨by decide, rfl⟩ (by omega) g50 (fun ρ h => ?_)
  exact hq _ h
theorem c_X6_become_i1 {d : Nat} {σ ρ : hh_S} {Q : Int → hh_S → Prop} (h : hr_cpd 55 1 0 σ ρ) (hq : ∀ ρ' : hh_S, hr_cpd 55 1 4 σ ρ' → Q 0 ρ') : hh_Sp (d + 2) hm_X6_become [hh_R 2, hh_R 56] ρ Q := by
  refine wp_X6_become_i1 (fun _ => ?_)
  unfold P_X6_become_i1
  have h1 := h.size (by omega) rfl
  refine c_tk (S := 55) (D := 1) (n := 1) (N := 8) ra_57 ra_3 ⟨by decide, rfl⟩ (by omega) h1 (fun ρ2 h2 => ?_)
  refine c_tk (S := 55) (D := 1) (n := 2) (N := 8) ra_58 ra_4 ⟨by decide, rfl⟩ (by omega) h2 (fun ρ3 h3 => ?_)
  refine c_tk (S := 55) (D := 1) (n := 3) (N := 8) ra_59 ra_5 ⟨by decide, rfl⟩ (by omega) h3 (fun ρ4 h4 => ?_)
  exact hq _ h4
theorem c_X1_become_i1 {d : Nat} {σ ρ : hh_S} {Q : Int → hh_S → Prop} (h : hr_cpd 55 1 4 σ ρ) (hq : ∀ ρ' : hh_S, hr_cpd 55 1 11 σ ρ' → Q 0 ρ') : hh_Sp (d + 2) hm_X1_become [hh_R 6, hh_R 60] ρ Q := by
  refine wp_X1_become_i1 (fun _ => ?_)
  unfold P_X1_become_i1
  have h5 := h.size (by omega) rfl
  refine c_tk (S := 55) (D := 1) (n := 5) (N := 5) ra_61 ra_7 ⟨by decide, rfl⟩ (by omega) h5 (fun ρ6 h6 => ?_)
  refine c_tk (S := 55) (D := 1) (n := 6) (N := 5) ra_62 ra_8 ⟨by decide, rfl⟩ (by omega) h6 (fun ρ7 h7 => ?_)
  refine c_tk (S := 55) (D := 1) (n := 7) (N := 15) ra_63 ra_9 ⟨by decide, rfl⟩ (by omega) h7 (fun ρ8 h8 => ?_)
  refine c_tk (S := 55) (D := 1) (n := 8) (N := 15) ra_64 ra_10 ⟨by decide, rfl⟩ (by omega) h8 (fun ρ9 h9 => ?_)
  refine c_tk (S := 55) (D := 1) (n := 9) (N := 15) ra_65 ra_11 ⟨by decide, rfl⟩ (by omega) h9 (fun ρ10 h10 => ?_)
  refine c_tk (S := 55) (D := 1) (n := 10) (N := 1800) ra_66 ra_12 ⟨by decide, rfl⟩ (by omega) h10 (fun ρ11 h11 => ?_)
  exact hq _ h11
theorem c_X5_become_i1 {d : Nat} {σ ρ : hh_S} {Q : Int → hh_S → Prop} (h : hr_cpd 55 1 11 σ ρ) (hq : ∀ ρ' : hh_S, hr_cpd 55 1 22 σ ρ' → Q 0 ρ') : hh_Sp (d + 2) hm_X5_become [hh_R 13, hh_R 67] ρ Q := by
  refine wp_X5_become_i1 (fun _ => ?_)
  unfold P_X5_become_i1
  have h12 := h.size (by omega) rfl
  refine c_tk (S := 55) (D := 1) (n := 12) (N := 10) ra_68 ra_14 ⟨by decide, rfl⟩ (by omega) h12 (fun ρ13 h13 => ?_)
  refine c_tk (S := 55) (D := 1) (n := 13) (N := 10) ra_69 ra_15 ⟨by decide, rfl⟩ (by omega) h13 (fun ρ14 h14 => ?_)
  refine c_tk (S := 55) (D := 1) (n := 14) (N := 10) ra_70 ra_16 ⟨by decide, rfl⟩ (by omega) h14 (fun ρ15 h15 => ?_)
  refine c_tk (S := 55) (D := 1) (n := 15) (N := 10) ra_71 ra_17 ⟨by decide, rfl⟩ (by omega) h15 (fun ρ16 h16 => ?_)
  refine c_tk (S := 55) (D := 1) (n := 16) (N := 30) ra_72 ra_18 ⟨by decide, rfl⟩ (by omega) h16 (fun ρ17 h17 => ?_)
  refine c_tk (S := 55) (D := 1) (n := 17) (N := 30) ra_73 ra_19 ⟨by decide, rfl⟩ (by omega) h17 (fun ρ18 h18 => ?_)
  refine c_tk (S := 55) (D := 1) (n := 18) (N := 80) ra_74 ra_20 ⟨by decide, rfl⟩ (by omega) h18 (fun ρ19 h19 => ?_)
  refine c_tk (S := 55) (D := 1) (n := 19) (N := 10) ra_75 ra_21 ⟨by decide, rfl⟩ (by omega) h19 (fun ρ20 h20 => ?_)
  refine c_tk (S := 55) (D := 1) (n := 20) (N := 10) ra_76 ra_22 ⟨by decide, rfl⟩ (by omega) h20 (fun ρ21 h21 => ?_)
  refine c_tk (S := 55) (D := 1) (n := 21) (N := 60) ra_77 ra_23 ⟨by decide, rfl⟩ (by omega) h21 (fun ρ22 h22 => ?_)
  exact hq _ h22
theorem c_X3_become_i1 {d : Nat} {σ ρ : hh_S} {Q : Int → hh_S → Prop} (h : hr_cpd 55 1 22 σ ρ) (hq : ∀ ρ' : hh_S, hr_cpd 55 1 34 σ ρ' → Q 0 ρ') : hh_Sp (d + 2) hm_X3_become [hh_R 24, hh_R 78] ρ Q := by
  refine wp_X3_become_i1 (fun _ => ?_)
  unfold P_X3_become_i1
  have h23 := h.size (by omega) rfl
  refine c_tk (S := 55) (D := 1) (n := 23) (N := 90) ra_79 ra_25 ⟨by decide, rfl⟩ (by omega) h23 (fun ρ24 h24 => ?_)
  refine c_tk (S := 55) (D := 1) (n := 24) (N := 90) ra_80 ra_26 ⟨by decide, rfl⟩ (by omega) h24 (fun ρ25 h25 => ?_)
  refine c_tk (S := 55) (D := 1) (n := 25) (N := 90) ra_81 ra_27 ⟨by decide, rfl⟩ (by omega) h25 (fun ρ26 h26 => ?_)
  refine c_tk (S := 55) (D := 1) (n := 26) (N := 90) ra_82 ra_28 ⟨by decide, rfl⟩ (by omega) h26 (fun ρ27 h27 => ?_)
  refine c_tk (S := 55) (D := 1) (n := 27) (N := 90) ra_83 ra_29 ⟨by decide, rfl⟩ (by omega) h27 (fun ρ28 h28 => ?_)
  refine c_tk (S := 55) (D := 1) (n := 28) (N := 90) ra_84 ra_30 ⟨by decide, rfl⟩ (by omega) h28 (fun ρ29 h29 => ?_)
  refine c_tk (S := 55) (D := 1) (n := 29) (N := 90) ra_85 ra_31 ⟨by decide, rfl⟩ (by omega) h29 (fun ρ30 h30 => ?_)
  refine c_tk (S := 55) (D := 1) (n := 30) (N := 90) ra_86 ra_32 ⟨by decide, rfl⟩ (by omega) h30 (fun ρ31 h31 => ?_)
  refine c_tk (S := 55) (D := 1) (n := 31) (N := 90) ra_87 ra_33 ⟨by decide, rfl⟩ (by omega) h31 (fun ρ32 h32 => ?_)
  refine c_tk (S := 55) (D := 1) (n := 32) (N := 90) ra_88 ra_34 ⟨by decide, rfl⟩ (by omega) h32 (fun ρ33 h33 => ?_)
  refine c_tk (S := 55) (D := 1) (n := 33) (N := 90) ra_89 ra_35 ⟨by decide, rfl⟩ (by omega) h33 (fun ρ34 h34 => ?_)
  exact hq _ h34
theorem c_X2_become_i1 {d : Nat} {σ ρ : hh_S} {Q : Int → hh_S → Prop} (h : hr_cpd 55 1 34 σ ρ) (hq : ∀ ρ' : hh_S, hr_cpd 55 1 40 σ ρ' → Q 0 ρ') : hh_Sp (d + 2) hm_X2_become [hh_R 36, hh_R 90] ρ Q := by
  refine wp_X2_become_i1 (fun _ => ?_)
  unfold P_X2_become_i1
  have h35 := h.size (by omega) rfl
  refine c_tk (S := 55) (D := 1) (n := 35) (N := 60) ra_91 ra_37 ⟨by decide, rfl⟩ (by omega) h35 (fun ρ36 h36 => ?_)
  refine c_tk (S := 55) (D := 1) (n := 36) (N := 60) ra_92 ra_38 ⟨by decide, rfl⟩ (by omega) h36 (fun ρ37 h37 => ?_)
  refine c_tk (S := 55) (D := 1) (n := 37) (N := 60) ra_93 ra_39 ⟨by decide, rfl⟩ (by omega) h37 (fun ρ38 h38 => ?_)
  refine c_tk (S := 55) (D := 1) (n := 38) (N := 60) ra_94 ra_40 ⟨by decide, rfl⟩ (by omega) h38 (fun ρ39 h39 => ?_)
  refine c_tk (S := 55) (D := 1) (n := 39) (N := 60) ra_95 ra_41 ⟨by decide, rfl⟩ (by omega) h39 (fun ρ40 h40 => ?_)
  exact hq _ h40
theorem c_X0_become_i1 {d : Nat} {σ ρ : hh_S} {Q : Int → hh_S → Prop} (h : hr_cpd 55 1 40 σ ρ) (hq : ∀ ρ' : hh_S, hr_cpd 55 1 48 σ ρ' → Q 0 ρ') : hh_Sp (d + 2) hm_X0_become [hh_R 42, hh_R 96] ρ Q := by
  refine wp_X0_become_i1 (fun _ => ?_)
  unfold P_X0_become_i1
  have h41 := h.size (by omega) rfl
  refine c_tk (S := 55) (D := 1) (n := 41) (N := 16) ra_97 ra_43 ⟨by decide, rfl⟩ (by omega) h41 (fun ρ42 h42 => ?_)
  refine c_tk (S := 55) (D := 1) (n := 42) (N := 16) ra_98 ra_44 ⟨by decide, rfl⟩ (by omega) h42 (fun ρ43 h43 => ?_)
  refine c_tk (S := 55) (D := 1) (n := 43) (N := 16) ra_99 ra_45 ⟨by decide, rfl⟩ (by omega) h43 (fun ρ44 h44 => ?_)
  refine c_tk (S := 55) (D := 1) (n := 44) (N := 16) ra_100 ra_46 ⟨by decide, rfl⟩ (by omega) h44 (fun ρ45 h45 => ?_)
  refine c_tk (S := 55) (D := 1) (n := 45) (N := 16) ra_101 ra_47 ⟨by decide, rfl⟩ (by omega) h45 (fun ρ46 h46 => ?_)
  refine c_tk (S := 55) (D := 1) (n := 46) (N := 16) ra_102 ra_48 ⟨by decide, rfl⟩ (by omega) h46 (fun ρ47 h47 => ?_)
  refine c_tk (S := 55) (D := 1) (n := 47) (N := 48) ra_103 ra_49 ⟨by decide, rfl⟩ (by omega) h47 (fun ρ48 h48 => ?_)
  exact hq _ h48
theorem c_X9_become_i1 {d : Nat} {σ ρ : hh_S} {Q : Int → hh_S → Prop} (h : hr_cpd 55 1 48 σ ρ) (hq : ∀ ρ' : hh_S, hr_cpd 55 1 52 σ ρ' → Q 0 ρ') : hh_Sp (d + 2) hm_X9_become [hh_R 50, hh_R 104] ρ Q := by
  refine wp_X9_become_i1 (fun _ => ?_)
  unfold P_X9_become_i1
  have h49 := h.size (by omega) rfl
  refine c_tk (S := 55) (D := 1) (n := 49) (N := 6) ra_105 ra_51 ⟨by decide, rfl⟩ (by omega) h49 (fun ρ50 h50 => ?_)
  refine c_tk (S := 55) (D := 1) (n := 50) (N := 6) ra_106 ra_52 ⟨by decide, rfl⟩ (by omega) h50 (fun ρ51 h51 => ?_)
  refine c_tk (S := 55) (D := 1) (n := 51) (N := 6) ra_107 ra_53 ⟨by decide, rfl⟩ (by omega) h51 (fun ρ52 h52 => ?_)
  exact hq _ h52
theorem c_become_i1 {d : Nat} {σ : hh_S} {Q : Int → hh_S → Prop} (hq : ∀ ρ : hh_S, hr_cpd 55 1 53 σ ρ → Q 0 (hh_up ρ 1 8 (ρ 55 8))) : hh_Sp (d + 3) hm_X4_become [hh_R 1, hh_R 55] σ Q := by
  refine wp_X4_become_i1 (fun _ => ?_)
  unfold P_X4_become_i1
  have h0 : hr_cpd 55 1 0 σ σ := ⟨fun _ _ => rfl, fun k k1 k2 => by omega⟩
  refine c_X6_become_i1 h0 (fun ρ2 g2 => ?_)
  refine c_X1_become_i1 g2 (fun ρ6 g6 => ?_)
  refine c_X5_become_i1 g6 (fun ρ13 g13 => ?_)
  refine c_X3_become_i1 g13 (fun ρ24 g24 => ?_)
  refine c_X2_become_i1 g24 (fun ρ36 g36 => ?_)
  refine c_X0_become_i1 g36 (fun ρ42 g42 => ?_)
  refine c_X9_become_i1 g42 (fun ρ50 g50 => ?_)
  refine c_tk (S := 55) (D := 1) (n := 52) (N := 3) ra_108 ra_54 ⟨by decide, rfl⟩ (by omega) g50 (fun ρ h => ?_)
  exact hq _ h
theorem hr_N.cgr {σ σ' : hh_S} {s s' : Int → Int} (h : hr_N σ s) (e8 : σ' 1 8 = σ 1 8) (er : ∀ k : Nat, 1 ≤ k → k ≤ 53 → ∀ j : Int, 0 ≤ j → j < hr_ln k → σ' (1 + k) j = σ (1 + k) j) (es : ∀ k : Int, 0 ≤ k → k < 9100 → s' k = s k) : hr_N σ' s' := by
  obtain ⟨hU, hP, hC, hM, hE, hD, hB, hK, hT⟩ := h
  have u := hU
  unfold hr_U at u
  have p1 := hP.1
  have c1 := hC.1
  have m1 := hM.1
  have e1 := hE.1
  have d1 := hD.1
  have b1 := hB.1
  have k1 := hK.1
  have t1 := hT.1
  have q (k : Int) (a : 0 ≤ k := by omega) (b : k < 9100 := by omega) : s' k = s k := es k a b
  have r2 : ∀ j : Int, 0 ≤ j → j < 1 → σ' 2 j = σ 2 j := fun j j1 j2 => er 1 (by omega) (by omega) j j1 j2
  have r3 : ∀ j : Int, 0 ≤ j → j < 8 → σ' 3 j = σ 3 j := fun j j1 j2 => er 2 (by omega) (by omega) j j1 j2
  have r4 : ∀ j : Int, 0 ≤ j → j < 8 → σ' 4 j = σ 4 j := fun j j1 j2 => er 3 (by omega) (by omega) j j1 j2
  have r5 : ∀ j : Int, 0 ≤ j → j < 8 → σ' 5 j = σ 5 j := fun j j1 j2 => er 4 (by omega) (by omega) j j1 j2
  have r6 : ∀ j : Int, 0 ≤ j → j < 1 → σ' 6 j = σ 6 j := fun j j1 j2 => er 5 (by omega) (by omega) j j1 j2
  have r7 : ∀ j : Int, 0 ≤ j → j < 5 → σ' 7 j = σ 7 j := fun j j1 j2 => er 6 (by omega) (by omega) j j1 j2
  have r8 : ∀ j : Int, 0 ≤ j → j < 5 → σ' 8 j = σ 8 j := fun j j1 j2 => er 7 (by omega) (by omega) j j1 j2
  have r9 : ∀ j : Int, 0 ≤ j → j < 15 → σ' 9 j = σ 9 j := fun j j1 j2 => er 8 (by omega) (by omega) j j1 j2
  have r10 : ∀ j : Int, 0 ≤ j → j < 15 → σ' 10 j = σ 10 j := fun j j1 j2 => er 9 (by omega) (by omega) j j1 j2
  have r11 : ∀ j : Int, 0 ≤ j → j < 15 → σ' 11 j = σ 11 j := fun j j1 j2 => er 10 (by omega) (by omega) j j1 j2
  have r12 : ∀ j : Int, 0 ≤ j → j < 1800 → σ' 12 j = σ 12 j := fun j j1 j2 => er 11 (by omega) (by omega) j j1 j2
  have r13 : ∀ j : Int, 0 ≤ j → j < 1 → σ' 13 j = σ 13 j := fun j j1 j2 => er 12 (by omega) (by omega) j j1 j2
  have r14 : ∀ j : Int, 0 ≤ j → j < 10 → σ' 14 j = σ 14 j := fun j j1 j2 => er 13 (by omega) (by omega) j j1 j2
  have r15 : ∀ j : Int, 0 ≤ j → j < 10 → σ' 15 j = σ 15 j := fun j j1 j2 => er 14 (by omega) (by omega) j j1 j2
  have r16 : ∀ j : Int, 0 ≤ j → j < 10 → σ' 16 j = σ 16 j := fun j j1 j2 => er 15 (by omega) (by omega) j j1 j2
  have r17 : ∀ j : Int, 0 ≤ j → j < 10 → σ' 17 j = σ 17 j := fun j j1 j2 => er 16 (by omega) (by omega) j j1 j2
  have r18 : ∀ j : Int, 0 ≤ j → j < 30 → σ' 18 j = σ 18 j := fun j j1 j2 => er 17 (by omega) (by omega) j j1 j2
  have r19 : ∀ j : Int, 0 ≤ j → j < 30 → σ' 19 j = σ 19 j := fun j j1 j2 => er 18 (by omega) (by omega) j j1 j2
  have r20 : ∀ j : Int, 0 ≤ j → j < 80 → σ' 20 j = σ 20 j := fun j j1 j2 => er 19 (by omega) (by omega) j j1 j2
  have r21 : ∀ j : Int, 0 ≤ j → j < 10 → σ' 21 j = σ 21 j := fun j j1 j2 => er 20 (by omega) (by omega) j j1 j2
  have r22 : ∀ j : Int, 0 ≤ j → j < 10 → σ' 22 j = σ 22 j := fun j j1 j2 => er 21 (by omega) (by omega) j j1 j2
  have r23 : ∀ j : Int, 0 ≤ j → j < 60 → σ' 23 j = σ 23 j := fun j j1 j2 => er 22 (by omega) (by omega) j j1 j2
  have r24 : ∀ j : Int, 0 ≤ j → j < 1 → σ' 24 j = σ 24 j := fun j j1 j2 => er 23 (by omega) (by omega) j j1 j2
  have r25 : ∀ j : Int, 0 ≤ j → j < 90 → σ' 25 j = σ 25 j := fun j j1 j2 => er 24 (by omega) (by omega) j j1 j2
  have r26 : ∀ j : Int, 0 ≤ j → j < 90 → σ' 26 j = σ 26 j := fun j j1 j2 => er 25 (by omega) (by omega) j j1 j2
  have r27 : ∀ j : Int, 0 ≤ j → j < 90 → σ' 27 j = σ 27 j := fun j j1 j2 => er 26 (by omega) (by omega) j j1 j2
  have r28 : ∀ j : Int, 0 ≤ j → j < 90 → σ' 28 j = σ 28 j := fun j j1 j2 => er 27 (by omega) (by omega) j j1 j2
  have r29 : ∀ j : Int, 0 ≤ j → j < 90 → σ' 29 j = σ 29 j := fun j j1 j2 => er 28 (by omega) (by omega) j j1 j2
  have r30 : ∀ j : Int, 0 ≤ j → j < 90 → σ' 30 j = σ 30 j := fun j j1 j2 => er 29 (by omega) (by omega) j j1 j2
  have r31 : ∀ j : Int, 0 ≤ j → j < 90 → σ' 31 j = σ 31 j := fun j j1 j2 => er 30 (by omega) (by omega) j j1 j2
  have r32 : ∀ j : Int, 0 ≤ j → j < 90 → σ' 32 j = σ 32 j := fun j j1 j2 => er 31 (by omega) (by omega) j j1 j2
  have r33 : ∀ j : Int, 0 ≤ j → j < 90 → σ' 33 j = σ 33 j := fun j j1 j2 => er 32 (by omega) (by omega) j j1 j2
  have r34 : ∀ j : Int, 0 ≤ j → j < 90 → σ' 34 j = σ 34 j := fun j j1 j2 => er 33 (by omega) (by omega) j j1 j2
  have r35 : ∀ j : Int, 0 ≤ j → j < 90 → σ' 35 j = σ 35 j := fun j j1 j2 => er 34 (by omega) (by omega) j j1 j2
  have r36 : ∀ j : Int, 0 ≤ j → j < 1 → σ' 36 j = σ 36 j := fun j j1 j2 => er 35 (by omega) (by omega) j j1 j2
  have r37 : ∀ j : Int, 0 ≤ j → j < 60 → σ' 37 j = σ 37 j := fun j j1 j2 => er 36 (by omega) (by omega) j j1 j2
  have r38 : ∀ j : Int, 0 ≤ j → j < 60 → σ' 38 j = σ 38 j := fun j j1 j2 => er 37 (by omega) (by omega) j j1 j2
  have r39 : ∀ j : Int, 0 ≤ j → j < 60 → σ' 39 j = σ 39 j := fun j j1 j2 => er 38 (by omega) (by omega) j j1 j2
  have r40 : ∀ j : Int, 0 ≤ j → j < 60 → σ' 40 j = σ 40 j := fun j j1 j2 => er 39 (by omega) (by omega) j j1 j2
  have r41 : ∀ j : Int, 0 ≤ j → j < 60 → σ' 41 j = σ 41 j := fun j j1 j2 => er 40 (by omega) (by omega) j j1 j2
  have r42 : ∀ j : Int, 0 ≤ j → j < 1 → σ' 42 j = σ 42 j := fun j j1 j2 => er 41 (by omega) (by omega) j j1 j2
  have r43 : ∀ j : Int, 0 ≤ j → j < 16 → σ' 43 j = σ 43 j := fun j j1 j2 => er 42 (by omega) (by omega) j j1 j2
  have r44 : ∀ j : Int, 0 ≤ j → j < 16 → σ' 44 j = σ 44 j := fun j j1 j2 => er 43 (by omega) (by omega) j j1 j2
  have r45 : ∀ j : Int, 0 ≤ j → j < 16 → σ' 45 j = σ 45 j := fun j j1 j2 => er 44 (by omega) (by omega) j j1 j2
  have r46 : ∀ j : Int, 0 ≤ j → j < 16 → σ' 46 j = σ 46 j := fun j j1 j2 => er 45 (by omega) (by omega) j j1 j2
  have r47 : ∀ j : Int, 0 ≤ j → j < 16 → σ' 47 j = σ 47 j := fun j j1 j2 => er 46 (by omega) (by omega) j j1 j2
  have r48 : ∀ j : Int, 0 ≤ j → j < 16 → σ' 48 j = σ 48 j := fun j j1 j2 => er 47 (by omega) (by omega) j j1 j2
  have r49 : ∀ j : Int, 0 ≤ j → j < 48 → σ' 49 j = σ 49 j := fun j j1 j2 => er 48 (by omega) (by omega) j j1 j2
  have r50 : ∀ j : Int, 0 ≤ j → j < 1 → σ' 50 j = σ 50 j := fun j j1 j2 => er 49 (by omega) (by omega) j j1 j2
  have r51 : ∀ j : Int, 0 ≤ j → j < 6 → σ' 51 j = σ 51 j := fun j j1 j2 => er 50 (by omega) (by omega) j j1 j2
  have r52 : ∀ j : Int, 0 ≤ j → j < 6 → σ' 52 j = σ 52 j := fun j j1 j2 => er 51 (by omega) (by omega) j j1 j2
  have r53 : ∀ j : Int, 0 ≤ j → j < 6 → σ' 53 j = σ 53 j := fun j j1 j2 => er 52 (by omega) (by omega) j j1 j2
  have r54 : ∀ j : Int, 0 ≤ j → j < 3 → σ' 54 j = σ 54 j := fun j j1 j2 => er 53 (by omega) (by omega) j j1 j2
  refine ⟨?_, ⟨by rw [r2 0 (by omega) (by omega), q 4]; exact p1, fun p z1 z2 => ?_⟩, ⟨by rw [r6 0 (by omega) (by omega), q 5]; exact c1, fun p z1 z2 => ?_⟩, ⟨by rw [r13 0 (by omega) (by omega), q 6]; exact m1, fun m z1 z2 => ?_⟩, ⟨by rw [r24 0 (by omega) (by omega), q 7]; exact e1, fun e z1 z2 => ?_⟩, ⟨by rw [r36 0 (by omega) (by omega), q 8]; exact d1, fun p z1 z2 => ?_⟩, ⟨by rw [r42 0 (by omega) (by omega), q 10]; exact b1, fun b z1 z2 => ?_⟩, ⟨by rw [r50 0 (by omega) (by omega), q 11]; exact k1, fun p z1 z2 => ?_⟩, ⟨by rw [q 9]; exact t1, fun c z1 z2 => ?_, fun t z2 => ?_⟩⟩
  · unfold hr_U
    rw [e8, r54 0 (by omega) (by omega), r54 1 (by omega) (by omega), r54 2 (by omega) (by omega), q 0, q 1, q 2, q 3]
    exact u
  · rw [q 4] at z2
    rw [r3 p z1 (by omega), r4 p z1 (by omega), r5 p z1 (by omega), q (20 + 3 * p), q (20 + 3 * p + 1), q (20 + 3 * p + 2)]
    exact hP.2 p z1 z2
  · rw [q 5] at z2
    rw [r7 p z1 (by omega), q (44 + p)]
    exact hC.2 p z1 z2
  · rw [q 6] at z2
    exact (hM.2 m z1 z2).cg (r14 m z1 (by omega)) (r15 m z1 (by omega)) (r16 m z1 (by omega)) (r17 m z1 (by omega)) (fun i i1 i2 => r18 _ (by omega) (by omega)) (fun i i1 i2 => r19 _ (by omega) (by omega)) (fun i i1 i2 => r20 _ (by omega) (by omega)) (r21 m z1 (by omega)) (r22 m z1 (by omega)) (fun i i1 i2 => r23 _ (by omega) (by omega)) (by rw [q 5]; exact Int.le_refl _) (fun k k1 k2 => q k)
  · rw [q 7] at z2
    refine (hE.2 e z1 z2).cg (fun r y1 y2 => ?_) (by rw [q 4]; exact Int.le_refl _) (by rw [q 6]; exact Int.le_refl _) (by rw [q 0]; exact Int.le_refl _) (by rw [q 10]; exact Int.le_refl _) (fun k k1 k2 => q k) (fun y1 y2 => q _)
    rcases (show r = 25 ∨ r = 26 ∨ r = 27 ∨ r = 28 ∨ r = 29 ∨ r = 30 ∨ r = 31 ∨ r = 32 ∨ r = 33 ∨ r = 34 ∨ r = 35 by omega) with rfl | rfl | rfl | rfl | rfl | rfl | rfl | rfl | rfl | rfl | rfl
    · exact r25 e z1 (by omega)
    · exact r26 e z1 (by omega)
    · exact r27 e z1 (by omega)
    · exact r28 e z1 (by omega)
    · exact r29 e z1 (by omega)
    · exact r30 e z1 (by omega)
    · exact r31 e z1 (by omega)
    · exact r32 e z1 (by omega)
    · exact r33 e z1 (by omega)
    · exact r34 e z1 (by omega)
    · exact r35 e z1 (by omega)
  · rw [q 8] at z2
    unfold hr_D1
    rw [r37 p z1 (by omega), r38 p z1 (by omega), r39 p z1 (by omega), r40 p z1 (by omega), r41 p z1 (by omega), q 4, q (1330 + 5 * p), q (1330 + 5 * p + 1), q (1330 + 5 * p + 2), q (1330 + 5 * p + 3), q (1330 + 5 * p + 4)]
    exact hD.2 p z1 z2
  · rw [q 10] at z2
    have hb1 := hB.2 b z1 z2
    have hp := hr_pay hC hM hb1.1.1.2.1 hb1.1.1.2.2
    have hm1 := hb1.1.1
    rw [q (1630 + 12 * b)]
    refine hb1.cg (fun r y1 y2 => ?_) (fun i i1 i2 => r49 _ (by omega) (by omega)) (by rw [q 6]; exact Int.le_refl _) (by rw [q 0]; exact Int.le_refl _) (fun k k1 k2 => q k) (fun k k1 k2 => q k) hp.1.2 hp.1.1 hp.2
    rcases (show r = 43 ∨ r = 44 ∨ r = 45 ∨ r = 46 ∨ r = 47 ∨ r = 48 by omega) with rfl | rfl | rfl | rfl | rfl | rfl
    · exact r43 b z1 (by omega)
    · exact r44 b z1 (by omega)
    · exact r45 b z1 (by omega)
    · exact r46 b z1 (by omega)
    · exact r47 b z1 (by omega)
    · exact r48 b z1 (by omega)
  · rw [q 11] at z2
    rw [r51 p z1 (by omega), r52 p z1 (by omega), r53 p z1 (by omega), q 6, q (1822 + 3 * p), q (1822 + 3 * p + 1), q (1822 + 3 * p + 2)]
    exact hK.2 p z1 z2
  · rw [q 5] at z2
    rw [r8 c z1 (by omega), q 9, hr_ct.cg (s := s) (s' := s') (s 9).toNat (fun t t1 => q _)]
    exact hT.2.1 c z1 z2
  · rw [q 9] at z2
    have ht := hT.2.2 t z2
    have ht1 := ht.1
    have hc := hT.2.1 _ ht.1.1 ht.1.2
    have n0 := hr_ct_nn s (s (1840 + 484 * t)) t
    have n1 : hr_ct s (s (1840 + 484 * t)) (t + 1) ≤ hr_ct s (s (1840 + 484 * t)) (s 9).toNat := hr_ct_mono s _ (by omega)
    have n2 : hr_ct s (s (1840 + 484 * t)) (t + 1) = hr_ct s (s (1840 + 484 * t)) t + 1 := by
      show hr_ct s (s (1840 + 484 * t)) t + (if s (1840 + 484 * t) = s (1840 + 484 * t) then 1 else 0) = _
      rw [if_pos rfl]
    refine ht.cg (fun p hp => ⟨r9 p (by omega) (by omega), r10 p (by omega) (by omega), r11 p (by omega) (by omega), fun i i1 i2 => r12 _ (by omega) (by omega)⟩) (by rw [q 5]; exact Int.le_refl _) (fun k k1 k2 => q k)
set_option maxHeartbeats 2000000 in
theorem o_keep {σ : hh_S} (h : hr_R σ) : hr_op2 hm_X11_keep hm_X12_keep [] σ := by
  have u := h.1.1
  unfold hr_U at u
  refine wp_X11_keep (fun _ => c_become_i0 (fun ρ g => ?_))
  have g1 : ∀ r : Nat, (r ≤ 55 ∨ 108 < r) → ρ r = σ r := fun r hr => g.1 r (by omega)
  refine hh_name (P := fun υ => hh_Sp 200 hm_X12_keep [hh_R 128] υ (fun r' σ2 => (hh_up ρ 55 8 (ρ 1 8)) 1 8 = r' ∧ hr_R σ2)) (fun υ hυ => ?_)
  have e (r : Nat) (z : (r < 55 ∧ r ≠ 0) ∨ 108 < r) : υ r = σ r := by rw [hυ, hh_up_ne (by omega), hh_up_ne (by omega)]; exact g1 r (by omega)
  have e0 : υ 0 2 = 1 := by rw [hυ, hh_up_at]
  have e7 : υ 0 7 = σ 0 7 := by rw [hυ, hh_up_off (by omega), hh_up_ne (by omega), g1 0 (by omega)]
  have ei : ∀ k : Nat, 1 ≤ k → k ≤ 53 → ∀ j : Int, 0 ≤ j → j < hr_ln k → υ (55 + k) j = σ (1 + k) j := fun k k1 k2 j j1 j2 => by rw [hυ, hh_up_ne (by omega), hh_up_ne (by omega)]; exact g.2 k k1 k2 j j1 j2
  have e8 : υ 55 8 = σ 1 8 := by rw [hυ, hh_up_ne (by omega), hh_up_at, g1 1 (by omega)]
  have er : (hh_up ρ 55 8 (ρ 1 8)) 1 8 = σ 1 8 := by rw [hh_up_ne (by omega), g1 1 (by omega)]
  rw [er]
  refine wp_X12_keep (fun _ => ?_)
  refine hh_lp1_of (fun n x1 τ => (0 ≤ x1 ∧ x1 ≤ 9100 ∧ 9100 - x1 ≤ n) ∧ (∀ r : Nat, r ≠ 130 → τ r = υ r) ∧ (∀ j : Int, 0 ≤ j → j < x1 → τ 130 j = σ 129 j)) ?_ 9100 0 υ ⟨by omega, fun _ _ => rfl, fun j j1 j2 => by omega⟩
  rintro n x1 τ k ⟨i1, i2, i3⟩ hk
  unfold B_X12_keep_2 B_X12_keep_27
  refine ⟨fun c => ⟨?_, ?_⟩, fun c => ⟨by omega, hk (n - 1) _ _ (by omega) ⟨by omega, fun r hr => by rw [hh_up_ne hr]; exact i2 r hr, fun j j1 j2 => ?_⟩⟩⟩
  · rw [i2 129 (by omega), e 129 (by omega)]
    exact u.1.1
  · refine hh_name (P := hr_R) (fun π hπ => ?_)
    have f (r : Nat) (z : ((r < 55 ∧ r ≠ 0) ∨ 108 < r) ∧ r ≠ 130 ∧ r ≠ 128) : π r = σ r := by rw [hπ, hh_up_ne z.2.2, i2 r z.2.1, e r z.1]
    have f28 : ∀ j : Int, j ≠ 2 → π 128 j = σ 128 j := fun j hj => by rw [hπ, hh_up_off hj, i2 128 (by omega), e 128 (by omega)]
    have f2 : π 128 2 = 1 := by rw [hπ, hh_up_at]
    have f0 : ∀ j : Int, π 0 j = υ 0 j := fun j => by rw [hπ, hh_up_ne (by omega), i2 0 (by omega)]
    refine ⟨h.1.cg (fun r r1 r2 => f r (by omega)) (fun k _ _ => by rw [f 129 (by omega)]), ⟨by rw [f0, e0, f2], Or.inr (by rw [f0, e0]), fun _ => ?_⟩, h.2.2.1.cg (f 123 (by omega)) (f 124 (by omega)) (f 145 (by omega)) (f 146 (by omega)), h.2.2.2.1.cg (by rw [f0, e7]) (f28 31 (by omega)) (f 122 (by omega)) (f 144 (by omega)), h.2.2.2.2.cg (by rw [f 109 (by omega)]) (f28 6 (by omega)) (f 110 (by omega)) (f 133 (by omega))⟩
    refine h.1.cgr ?_ (fun k k1 k2 j j1 j2 => ?_) (fun k k1 k2 => by rw [hπ, hh_up_ne (by omega)]; exact i3 k k1 (by omega))
    · show π 55 8 = σ 1 8
      rw [hπ, hh_up_ne (by omega), i2 55 (by omega)]
      exact e8
    · show π (1 + k + 54) j = σ (1 + k) j
      rw [hπ, hh_up_ne (by omega), i2 _ (by omega), show 1 + k + 54 = 55 + k by omega]
      exact ei k k1 k2 j j1 j2
  · by_cases z : j = x1
    · rw [z, hh_up_at, i2 129 (by omega), e 129 (by omega)]
    · rw [hh_up_off z]
      exact i3 j j1 (by omega)

set_option maxHeartbeats 2000000 in
theorem o_back {σ : hh_S} (h : hr_R σ) : hr_op2 hm_X11_back hm_X12_back [] σ := by
  obtain ⟨q1, q2, q3⟩ := h.2.1
  refine wp_X11_back (fun _ => ⟨fun c => c_become_i1 (fun ρ g => ?_), fun c => ?_⟩)
  · have hN := q3 (by omega)
    have g1 : ∀ r : Nat, (r ≤ 1 ∨ 54 < r) → ρ r = σ r := fun r hr => g.1 r (by omega)
    refine hh_name (P := fun υ => hh_Sp 200 hm_X12_back [hh_R 128] υ (fun r' σ2 => υ 1 8 = r' ∧ hr_R σ2)) (fun υ hυ => ?_)
    have e (r : Nat) (z : r = 0 ∨ 54 < r) : υ r = σ r := by rw [hυ, hh_up_ne (by omega)]; exact g1 r (by omega)
    have ei : ∀ k : Nat, 1 ≤ k → k ≤ 53 → ∀ j : Int, 0 ≤ j → j < hr_ln k → υ (1 + k) j = σ (55 + k) j := fun k k1 k2 j j1 j2 => by rw [hυ, hh_up_ne (by omega)]; exact g.2 k k1 k2 j j1 j2
    have e8 : υ 1 8 = σ 55 8 := by rw [hυ, hh_up_at, g1 55 (by omega)]
    have u := hN.1
    unfold hr_U at u
    refine wp_X12_back (fun _ => ⟨fun c2 => ?_, fun c2 => ?_⟩)
    · refine hh_lp1_of (fun n x1 τ => (0 ≤ x1 ∧ x1 ≤ 9100 ∧ 9100 - x1 ≤ n) ∧ (∀ r : Nat, r ≠ 129 → τ r = υ r) ∧ (∀ j : Int, 0 ≤ j → j < x1 → τ 129 j = σ 130 j)) ?_ 9100 0 υ ⟨by omega, fun _ _ => rfl, fun j j1 j2 => by omega⟩
      rintro n x1 τ k ⟨i1, i2, i3⟩ hk
      unfold B_X12_back_12 B_X12_back_37
      refine ⟨fun c => ⟨?_, ?_⟩, fun c => ⟨by omega, hk (n - 1) _ _ (by omega) ⟨by omega, fun r hr => by rw [hh_up_ne hr]; exact i2 r hr, fun j j1 j2 => ?_⟩⟩⟩
      · rw [e8, i3 0 (by omega) (by omega)]
        exact u.1.1
      · have f (r : Nat) (z : (r = 0 ∨ 54 < r) ∧ r ≠ 129) : τ r = σ r := by rw [i2 r z.2, e r z.1]
        refine ⟨hN.cgr ?_ (fun k k1 k2 j j1 j2 => ?_) (fun k k1 k2 => i3 k k1 (by omega)), h.2.1.cg (by rw [f 0 (by omega)]) (by rw [f 128 (by omega)]) (fun r r1 r2 => f r (by omega)) (f 130 (by omega)), h.2.2.1.cg (f 123 (by omega)) (f 124 (by omega)) (f 145 (by omega)) (f 146 (by omega)), h.2.2.2.1.cg (by rw [f 0 (by omega)]) (by rw [f 128 (by omega)]) (f 122 (by omega)) (f 144 (by omega)), h.2.2.2.2.cg (by rw [f 109 (by omega)]) (by rw [f 128 (by omega)]) (f 110 (by omega)) (f 133 (by omega))⟩
        · show τ 1 8 = σ 55 8
          rw [i2 1 (by omega), e8]
        · show τ (1 + k) j = σ (1 + k + 54) j
          rw [i2 _ (by omega), ei k k1 k2 j j1 j2, show 1 + k + 54 = 55 + k by omega]
      · by_cases z : j = x1
        · rw [z, hh_up_at, i2 130 (by omega), e 130 (by omega)]
        · rw [hh_up_off z]
          exact i3 j j1 (by omega)
    · rw [e 128 (by omega)] at c2
      omega
  · refine wp_X12_back (fun _ => ⟨fun c2 => by omega, fun c2 => ⟨rfl, h⟩⟩)
