/-! making: rows of cells -/
def hk_sg (K : hk_G) (q : Nat → Nat) (σ : hh_S) : Nat → List hh_D → va_W
  | _, [] => []
  | r, d :: l => (q r, hh_en (q, K) σ r d) :: hk_sg K q σ (r + 1) l
section hk_segs
variable {K : hk_G} {q : Nat → Nat} {σ : hh_S}
theorem hk_sg_cat {a b : List hh_D} {r r2 : Nat} {wa wb : va_W} (h : hk_sg K q σ r a = wa) (hr : r + a.length = r2) (h2 : hk_sg K q σ r2 b = wb) : hk_sg K q σ r (a ++ b) = wa ++ wb := by
  subst h; subst h2; subst hr
  induction a generalizing r with
  | nil => rfl
  | cons d l ih =>
    show (q r, hh_en (q, K) σ r d) :: hk_sg K q σ (r + 1) (l ++ b) = (q r, hh_en (q, K) σ r d) :: (hk_sg K q σ (r + 1) l ++ hk_sg K q σ (r + (l.length + 1)) b)
    rw [ih, show r + 1 + l.length = r + (l.length + 1) by omega]
def hk_ph (off ext k : Nat) : Nat := if k = 1000 then ext else off + k
def hk_mp (off ext : Nat) : hh_D → hh_D
  | .inl c => .inl c
  | .inr c => .inr (c.1, c.2.map (fun o => o.map (hk_ph off ext)))
def hk_bd (B : Nat) (E : Bool) : hh_D → Bool
  | .inl _ => true
  | .inr c => c.2.all (fun o => match o with
    | none => true
    | some k => decide (k < B ∨ (k = 1000 ∧ E = true)))
theorem hk_en_sh {q' : Nat → Nat} {σ' : hh_S} {off ext B r : Nat} {E : Bool} {d : hh_D} (hq : ∀ k : Nat, k < B ∨ (k = 1000 ∧ E = true) → q (hk_ph off ext k) = q' k) (hs : σ (off + r) = σ' r) (hb : hk_bd B E d = true) : hh_en (q, K) σ (off + r) (hk_mp off ext d) = hh_en (q', K) σ' r d := by
  cases d with
  | inl c => show Sum.inl _ = Sum.inl _; rw [hs]
  | inr c =>
    show Sum.inr (c.1, (c.2.map (fun o => o.map (hk_ph off ext))).mapIdx (fun k o => hh_fv (q, K) σ (off + r) k o)) = Sum.inr (c.1, c.2.mapIdx (fun k o => hh_fv (q', K) σ' r k o))
    have e : (c.2.map (fun o => o.map (hk_ph off ext))).mapIdx (fun k o => hh_fv (q, K) σ (off + r) k o) = c.2.mapIdx (fun k o => hh_fv (q', K) σ' r k o) := by
      apply List.ext_getElem?
      intro i
      rw [List.getElem?_mapIdx, List.getElem?_map, List.getElem?_mapIdx]
      cases hi : c.2[i]? with
      | none => rfl
      | some o =>
        cases o with
        | none => show some (Value.int _) = some (Value.int _); rw [hs]
        | some k =>
          have hm := List.all_eq_true.mp hb (some k) (List.mem_of_getElem? hi)
          have hk : k < B ∨ (k = 1000 ∧ E = true) := of_decide_eq_true hm
          show some (Value.ref (q (hk_ph off ext k))) = some (Value.ref (q' k))
          rw [hq k hk]
    rw [e]
theorem hk_sg_sh {q' : Nat → Nat} {σ' : hh_S} {off ext B : Nat} {E : Bool} (hq : ∀ k : Nat, k < B ∨ (k = 1000 ∧ E = true) → q (hk_ph off ext k) = q' k) (hs : ∀ k : Nat, k < B → σ (off + k) = σ' k) : ∀ (dl : List hh_D) (r : Nat), dl.all (hk_bd B E) = true → r + dl.length ≤ B → B ≤ 1000 → hk_sg K q σ (off + r) (dl.map (hk_mp off ext)) = hk_sg K q' σ' r dl
  | [], _, _, _, _ => rfl
  | d :: l, r, hb, hl, hB => by
    rw [List.length_cons] at hl
    rw [List.all_cons, Bool.and_eq_true] at hb
    show (q (off + r), hh_en (q, K) σ (off + r) (hk_mp off ext d)) :: hk_sg K q σ (off + r + 1) (l.map (hk_mp off ext)) = (q' r, hh_en (q', K) σ' r d) :: hk_sg K q' σ' (r + 1) l
    rw [hk_en_sh hq (hs r (by omega)) hb.1]
    have h0 := hq r (Or.inl (by omega))
    unfold hk_ph at h0
    rw [if_neg (by omega)] at h0
    rw [h0, Nat.add_assoc, hk_sg_sh hq hs l (r + 1) hb.2 (by omega) hB]
theorem hk_sg_one {d : hh_D} {r : Nat} {a : Nat} {e : va_E} (h1 : q r = a) (h2 : hh_en (q, K) σ r d = e) : hk_sg K q σ r [d] = [(a, e)] := by
  subst h1; subst h2; rfl
end hk_segs
/-- what a constructor leaves: the cells of dl -/
def hk_Q (K : hk_G) (dl : List hh_D) (h0 ext : Nat) (σ : hh_S) (w : va_W) : Prop := ∃ q : Nat → Nat, q 0 = h0 ∧ q 1000 = ext ∧ w = hk_sg K q σ 0 dl
theorem hk_iastL {K : hk_G} {d mc ms : Nat} {mi : hh_M} {pc : Nat} {ls st : List Value} {k n : Nat} {X : va_W} {Post : va_W → Prop} {a N : Nat} {f : Nat → Int32} {i x : Int32} (hd : decode mi.2.1 pc = .ok (.iastore, 1)) (hin' : vp_in i N) (kk : hk_J K d mc ms mi (pc + 1) ls st k n (X ++ [(a, .inl (K.1 0, N, .inl (upd f i.toNatClampNeg x)))]) Post) : hk_J K d mc ms mi pc ls (.int x :: .int i :: .ref a :: st) k n (X ++ [(a, .inl (K.1 0, N, .inl f))]) Post := by
  refine hk_iast (q0 := X.length) (f := f) (N := N) hd (by rw [List.getElem?_append_right (Nat.le_refl _), Nat.sub_self]; rfl) hin' ?_
  rw [List.set_append_right _ _ (Nat.le_refl _), Nat.sub_self]
  exact kk
/-- first numbers -/
def hk_ru (j : Int) : Int := if j = 0 then 120 else if j = 1 then 8 else if j = 2 then 30 else 0
def hk_rs (j : Int) : Int := if j = 1 then 120 else if j = 2 then 8 else if j = 3 then 30 else 0
def hk_m1 (j : Int) : Int := if j = 0 then -1 else if j = 1 then -1 else 0
theorem hk_u_ru : upd (upd (upd (fun _ => 0) (Int32.ofInt 0).toNatClampNeg (Int32.ofInt 120)) (Int32.ofInt 1).toNatClampNeg (Int32.ofInt 8)) (Int32.ofInt 2).toNatClampNeg (Int32.ofInt 30) = (fun j : Nat => Int32.ofInt (hk_ru (j : Int))) := by
  funext j
  show (if j = 2 then Int32.ofInt 30 else if j = 1 then Int32.ofInt 8 else if j = 0 then Int32.ofInt 120 else 0) = Int32.ofInt (if (j : Int) = 0 then 120 else if (j : Int) = 1 then 8 else if (j : Int) = 2 then 30 else 0)
  rcases (show j = 0 ∨ j = 1 ∨ j = 2 ∨ (j ≠ 0 ∧ j ≠ 1 ∧ j ≠ 2) by omega) with z | z | z | ⟨z1, z2, z3⟩
  · subst z; rfl
  · subst z; rfl
  · subst z; rfl
  · rw [if_neg z3, if_neg z2, if_neg z1, if_neg (by omega), if_neg (by omega), if_neg (by omega)]; rfl
theorem hk_u_rs : upd (upd (upd (fun _ => 0) (Int32.ofInt 1).toNatClampNeg (Int32.ofInt 120)) (Int32.ofInt 2).toNatClampNeg (Int32.ofInt 8)) (Int32.ofInt 3).toNatClampNeg (Int32.ofInt 30) = (fun j : Nat => Int32.ofInt (hk_rs (j : Int))) := by
  funext j
  show (if j = 3 then Int32.ofInt 30 else if j = 2 then Int32.ofInt 8 else if j = 1 then Int32.ofInt 120 else 0) = Int32.ofInt (if (j : Int) = 1 then 120 else if (j : Int) = 2 then 8 else if (j : Int) = 3 then 30 else 0)
  rcases (show j = 1 ∨ j = 2 ∨ j = 3 ∨ (j ≠ 1 ∧ j ≠ 2 ∧ j ≠ 3) by omega) with z | z | z | ⟨z1, z2, z3⟩
  · subst z; rfl
  · subst z; rfl
  · subst z; rfl
  · rw [if_neg z3, if_neg z2, if_neg z1, if_neg (by omega), if_neg (by omega), if_neg (by omega)]; rfl
theorem hk_u_m1 : upd (upd (fun _ => 0) (Int32.ofInt 0).toNatClampNeg (Int32.ofInt (-1))) (Int32.ofInt 1).toNatClampNeg (Int32.ofInt (-1)) = (fun j : Nat => Int32.ofInt (hk_m1 (j : Int))) := by
  funext j
  show (if j = 1 then Int32.ofInt (-1) else if j = 0 then Int32.ofInt (-1) else 0) = Int32.ofInt (if (j : Int) = 0 then -1 else if (j : Int) = 1 then -1 else 0)
  rcases (show j = 0 ∨ j = 1 ∨ (j ≠ 0 ∧ j ≠ 1) by omega) with z | z | ⟨z1, z2⟩
  · subst z; rfl
  · subst z; rfl
  · rw [if_neg z2, if_neg z1, if_neg (by omega), if_neg (by omega)]; rfl
section hk_rules2
variable {K : hk_G} {d mc ms : Nat} {mi : hh_M} {pc : Nat} {ls st : List Value} {k n : Nat} {x : Nat × va_E} {R : va_W} {Post : va_W → Prop}
theorem hk_newaC {aty : ArrayType} {t N : Nat} {ty : FieldType} (hd : decode mi.2.1 pc = .ok (.newarray aty, 2)) (hw : Cond.arrayClass (newarray.typeOf aty) ∈ hh_tbl) (hty : newarray.typeOf aty = ty) (ht : (hk_ty K)[t]? = some (K.1 t, ty)) (hu : ∀ (U : State) (c1 c2 : ClassId), va_RA U c1 ty → va_RA U c2 ty → c1 = c2) (hcell : ∀ cA : ClassId, vp_cell cA (N, .inl (fun _ => 0)) = arrV cA N (fun _ => defaultValue ty)) (hneg : ¬ Int32.ofInt (N : Int) < 0) (hcl : (Int32.ofInt (N : Int)).toNatClampNeg = N) (hby : N * componentBytes ty ≤ 536870912) {k' n' : Nat} (ek : k + 1 = k') (en : n + N = n') (hk : k' ≤ mc) (hn : n' ≤ ms) (kk : ∀ q : Nat, hk_J K d mc ms mi (pc + 2) ls (.ref q :: st) k' n' (x :: (R ++ [(q, .inl (K.1 t, N, .inl (fun _ => 0)))])) Post) : hk_J K d mc ms mi pc ls (.int (Int32.ofInt (N : Int)) :: st) k n (x :: R) Post := by
  subst ek; subst en
  exact hk_newa hd hw hty ht hu hcell hneg hcl hby hk hn kk
theorem hk_newC {ci idx N : Nat} {fs : List Value} (hd : decode mi.2.1 pc = .ok (.new idx, 3)) (hN : hk_N mi.1.cls idx ci N fs) {k' n' : Nat} (ek : k + 1 = k') (en : n + N = n') (hk : k' ≤ mc) (hn : n' ≤ ms) (kk : ∀ q : Nat, hk_J K d mc ms mi (pc + 3) ls (.ref q :: st) k' n' (x :: (R ++ [(q, .inr (ci, fs))])) Post) : hk_J K d mc ms mi pc ls st k n (x :: R) Post := by
  subst ek; subst en
  exact hk_new hd hN hk hn kk
theorem hk_putE {h0 ci f idx : Nat} {fin : Bool} {ty : FieldType} {fs : List Value} (fs' : List Value) {v : Value} (hd : decode mi.2.1 pc = .ok (.putfield idx, 3)) (hf : hk_FP mi.1.cls idx ci f fin ty) (hn : narrow ty v = v) (hfit : fits ty v = true) {L : Nat} (hL : fs.length = L) (hl : f < L) (hs : fs.set f v = fs') (kk : hk_J K d mc ms mi (pc + 3) ls st k n ((h0, .inr (ci, fs')) :: R) Post) : hk_J K d mc ms mi pc ls (v :: .ref h0 :: st) k n ((h0, .inr (ci, fs)) :: R) Post := by
  subst hs; subst hL
  exact hk_put hd hf hn hfit hl kk
theorem hk_callC {mi' : hh_M} {mc' ms' b idx : Nat} {As : List Value} {E : va_E} {Post' : va_W → Prop} (hd : decode mi.2.1 pc = .ok (.invokespecial idx, 3)) (hl : Cond.methodLink mi.1.cls idx mi'.1 ∈ hh_tbl ∨ ∃ host : String, (mi.1.cls, idx, mi'.1, host) ∈ hk_nx) (ho : hk_mok mi' As.length) (hst : (st.map fun v => v.category).sum ≤ 8) (hsp : hk_Sp K d mc' ms' mi' (.ref b :: As) [(b, E)] Post') {k' n' : Nat} (ek : k + mc' = k') (en : n + ms' = n') (hk : k' ≤ mc) (hn : n' ≤ ms) (kk : ∀ w1 : va_W, Post' w1 → hk_J K (d + 1) mc ms mi (pc + 3) ls st k' n' (x :: (R ++ w1)) Post) : hk_J K (d + 1) mc ms mi pc ls (As.reverse ++ .ref b :: st) k n (x :: (R ++ [(b, E)])) Post := by
  subst ek; subst en
  exact hk_call (X := x :: R) hd hl ho hst hsp hk hn kk
theorem hk_iastC {a N : Nat} {f : Nat → Int32} {i y : Int32} (hd : decode mi.2.1 pc = .ok (.iastore, 1)) (hin' : vp_in i N) (kk : hk_J K d mc ms mi (pc + 1) ls st k n (x :: (R ++ [(a, .inl (K.1 0, N, .inl (upd f i.toNatClampNeg y)))])) Post) : hk_J K d mc ms mi pc ls (.int y :: .int i :: .ref a :: st) k n (x :: (R ++ [(a, .inl (K.1 0, N, .inl f))])) Post :=
  hk_iastL (X := x :: R) hd hin' kk
theorem hk_iastE {q0 a N : Nat} {f : Nat → Int32} {i y : Int32} {ws : va_W} (ws' : va_W) (hd : decode mi.2.1 pc = .ok (.iastore, 1)) (ha : ws[q0]? = some (a, .inl (K.1 0, N, .inl f))) (hin' : vp_in i N) (hs : ws.set q0 (a, .inl (K.1 0, N, .inl (upd f i.toNatClampNeg y))) = ws') (kk : hk_J K d mc ms mi (pc + 1) ls st k n ws' Post) : hk_J K d mc ms mi pc ls (.int y :: .int i :: .ref a :: st) k n ws Post := by
  subst hs
  exact hk_iast hd ha hin' kk
end hk_rules2
