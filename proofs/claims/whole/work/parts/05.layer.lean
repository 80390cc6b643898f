/-! fields and arrays -/
def FL (own : String) (idx ci k : Nat) : Prop := ∃ (C : String) (T : u_T) (N : Nat), vwCl[ci]? = some (C, T, N) ∧ k < N ∧ (∀ w ∈ u_ws C T N, w ∈ ALL) ∧ Cond.fieldLink own idx (T k).1 (T k).2.1 (T k).2.2.1 ∈ ALL
def FP (own : String) (idx ci k : Nat) (ty : FieldType) : Prop := ∃ (C : String) (T : u_T) (N : Nat) (ty0 : Nat → FieldType), vwCl[ci]? = some (C, T, N) ∧ k < N ∧ (∀ w ∈ u_ws C T N, w ∈ ALL) ∧ Cond.fieldLink own idx (T k).1 (T k).2.1 (T k).2.2.1 ∈ ALL ∧ (∀ k, k < N → parseFieldDescriptor (T k).2.2.1 = some (ty0 k)) ∧ (∀ a, a < N → ∀ b, b < N → a ≠ b → (T a).2.1 ≠ (T b).2.1) ∧ (T k).2.2.2 = false ∧ parseFieldDescriptor (T k).2.2.1 = some ty
theorem v_getI {M : MD} {d : Nat} {Q : Option Int → Mem → Prop} {pc : Nat} {ls st : List AV} {σ : Mem} {cx ci k idx : Nat} {fl : List (Option Nat)} (pc' : Nat) (kI : Int) (hdg : decode M.2.1 pc = .ok (.getfield idx, 3)) (hq : pc + 3 = pc') (hf : FL M.1.cls idx ci k) (hs : shapes[cx]? = some (3, ci, fl)) (hk : fl[k]? = some none) (hkI : (k : Int) = kI) (kk : V M d Q pc' ls (.inl (σ cx kI) :: st) σ) : V M d Q pc ls (.inr (some cx) :: st) σ := by
  intro ol os om Γ A p l e s m args below meth c fx H locs lsA hP hS hL
  have fx0 := fx
  obtain ⟨hx, hb, hml, hr, hown, hts, hlk, hK, hD, hA⟩ := fx0
  subst hq
  subst hkI
  obtain ⟨C, T, N, h1, h2, h3, h4⟩ := hf
  refine va_get (D := Γ.2.1) (ci := ci) (v := vI (σ cx (k : Int))) (C := C) (T := T) (N := N) hx hb hts h3 hown hK.1 hP cx (wl_obj hs) h1 k h2 (hts _ h4) (fun _ h9 => h9) (by rw [List.getElem?_mapIdx, hk]; rfl) hdg ?_
  exact kk ol (okL_i (om _ _) (okL_t os)) om Γ A p l e s m args below meth c fx H locs lsA hP hS hL
theorem v_getR {M : MD} {d : Nat} {Q : Option Int → Mem → Prop} {pc : Nat} {ls st : List AV} {σ : Mem} {cx ci k idx : Nat} {fl : List (Option Nat)} {q0 : Nat} (pc' : Nat) (hdg : decode M.2.1 pc = .ok (.getfield idx, 3)) (hq : pc + 3 = pc') (hf : FL M.1.cls idx ci k) (hs : shapes[cx]? = some (3, ci, fl)) (hk : fl[k]? = some (some q0)) (kk : V M d Q pc' ls (.inr (some q0) :: st) σ) : V M d Q pc ls (.inr (some cx) :: st) σ := by
  intro ol os om Γ A p l e s m args below meth c fx H locs lsA hP hS hL
  have fx0 := fx
  obtain ⟨hx, hb, hml, hr, hown, hts, hlk, hK, hD, hA⟩ := fx0
  subst hq
  obtain ⟨C, T, N, h1, h2, h3, h4⟩ := hf
  refine va_get (D := Γ.2.1) (ci := ci) (v := .ref (Γ.1 q0)) (C := C) (T := T) (N := N) hx hb hts h3 hown hK.1 hP cx (wl_obj hs) h1 k h2 (hts _ h4) (fun _ h9 => h9) (by rw [List.getElem?_mapIdx, hk]; rfl) hdg ?_
  exact kk ol (okL_r (okL_t os)) om Γ A p l e s m args below meth c fx H locs lsA hP hS hL
theorem obj_set {Γ : Wd} {σ : Mem} {cx ci k : Nat} {fl : List (Option Nat)} {v : Int} (hk : fl[k]? = some none) : cellE Γ (wr σ cx (k : Int) v) cx (3, ci, fl) = .inr (ci, (fl.mapIdx (objF Γ σ cx)).set k (vI v)) := by
  have hlt : k < fl.length := (List.getElem?_eq_some_iff.mp hk).1
  show Sum.inr (ci, _) = _
  congr 2
  apply List.ext_getElem?
  intro i
  by_cases hi : k = i
  · subst hi
    rw [List.getElem?_set_self (by simpa using hlt), List.getElem?_mapIdx, hk]
    simp [wr, objF]
  · rw [List.getElem?_set_ne hi]
    simp only [List.getElem?_mapIdx]
    have hne : ¬ ((i : Int) = (k : Int)) := by omega
    cases fl[i]? with
    | none => rfl
    | some q => cases q with
      | none => simp [wr, objF, hne]
      | some r => rfl
theorem v_putG {M : MD} {d : Nat} {Q : Option Int → Mem → Prop} {pc : Nat} {ls st : List AV} {σ : Mem} {cx ci k idx : Nat} {fl : List (Option Nat)} {v : Int} (ty : FieldType) (pc' : Nat) (kI : Int) (hdg : decode M.2.1 pc = .ok (.putfield idx, 3)) (hq : pc + 3 = pc') (hf : FP M.1.cls idx ci k ty) (hs : shapes[cx]? = some (3, ci, fl)) (hk : fl[k]? = some none) (hkI : (k : Int) = kI) (hn : narrow ty (vI v) = vI v) (hfit : fits ty (vI v) = true) (kk : V M d Q pc' ls st (wr σ cx kI v)) : V M d Q pc ls (.inl v :: .inr (some cx) :: st) σ := by
  intro ol os om Γ A p l e s m args below meth c fx H locs lsA hP hS hL
  have fx0 := fx
  obtain ⟨hx, hb, hml, hr, hown, hts, hlk, hK, hD, hA⟩ := fx0
  subst hq
  subst hkI
  obtain ⟨C, T, N, ty0, h1, h2, h3, h4, h5, h6, h7, h8⟩ := hf
  have hlt : k < fl.length := (List.getElem?_eq_some_iff.mp hk).1
  refine va_put (D := Γ.2.1) (ci := ci) (v := vI v) (ty := ty) (C := C) (T := T) (N := N) hx hb hts h3 ty0 h5 h6 hown hK.1 hP (hD σ) hS cx (wl_obj hs) h1 k h2 (hts _ h4) (fun _ h9 => h9) h7 h8 hn hfit (by rw [List.length_mapIdx]; exact hlt) hdg (fun H1 locs1 hP1 _ hS1 => ?_)
  have ee := wl_set (Γ := Γ) (σ := σ) (σ' := wr σ cx (k : Int) v) hs (obj_set hk) (fun c' h => wr_ne h)
  exact kk ol (okL_t (okL_t os)) (okM_wr om (okL_h os)) Γ A p l e s m args below meth c fx H1 locs1 lsA (by rw [← ee]; exact hP1) hS1 hL
theorem v_putI {M : MD} {d : Nat} {Q : Option Int → Mem → Prop} {pc : Nat} {ls st : List AV} {σ : Mem} {cx ci k idx : Nat} {fl : List (Option Nat)} {v : Int} (pc' : Nat) (kI : Int) (hdg : decode M.2.1 pc = .ok (.putfield idx, 3)) (hq : pc + 3 = pc') (hf : FP M.1.cls idx ci k .int) (hs : shapes[cx]? = some (3, ci, fl)) (hk : fl[k]? = some none) (hkI : (k : Int) = kI) (kk : V M d Q pc' ls st (wr σ cx kI v)) : V M d Q pc ls (.inl v :: .inr (some cx) :: st) σ :=
  v_putG .int pc' kI hdg hq hf hs hk hkI (vp_nar_int _) rfl kk
theorem nar_b {v : Int} (h : v = 0 ∨ v = 1) : narrow .boolean (vI v) = vI v ∧ fits .boolean (vI v) = true := by
  rcases h with rfl | rfl <;> exact ⟨by decide +kernel, by decide +kernel⟩
theorem v_putZ {M : MD} {d : Nat} {Q : Option Int → Mem → Prop} {pc : Nat} {ls st : List AV} {σ : Mem} {cx ci k idx : Nat} {fl : List (Option Nat)} {v : Int} (pc' : Nat) (kI : Int) (hdg : decode M.2.1 pc = .ok (.putfield idx, 3)) (hq : pc + 3 = pc') (hf : FP M.1.cls idx ci k .boolean) (hs : shapes[cx]? = some (3, ci, fl)) (hk : fl[k]? = some none) (hkI : (k : Int) = kI) (hv : v = 0 ∨ v = 1) (kk : V M d Q pc' ls st (wr σ cx kI v)) : V M d Q pc ls (.inl v :: .inr (some cx) :: st) σ :=
  v_putG .boolean pc' kI hdg hq hf hs hk hkI (nar_b hv).1 (nar_b hv).2 kk
theorem v_iald {M : MD} {d : Nat} {Q : Option Int → Mem → Prop} {pc : Nat} {ls st : List AV} {σ : Mem} {cx n : Nat} {i : Int} (pc' : Nat) (hdg : decode M.2.1 pc = .ok (.iaload, 1)) (hq : pc + 1 = pc') (hs : shapes[cx]? = some (0, n, [])) (hi : 0 ≤ i ∧ i < (n : Int)) (kk : V M d Q pc' ls (.inl (σ cx i) :: st) σ) : V M d Q pc ls (.inl i :: .inr (some cx) :: st) σ := by
  intro ol os om Γ A p l e s m args below meth c fx H locs lsA hP hS hL
  have fx0 := fx
  obtain ⟨hx, hb, hml, hr, hown, hts, hlk, hK, hD, hA⟩ := fx0
  subst hq
  have hri := okL_h os
  have ee : intF σ cx (Int32.ofInt i).toNatClampNeg = Int32.ofInt (σ cx i) := by unfold intF; rw [r_cl hri, Int.toNat_of_nonneg hi.1]
  refine va_iald (D := Γ.2.1) hx hb hK.1 hP cx 0 (wl_int hs) rfl (r_in hi.1 hi.2 hri) hdg ?_
  rw [ee]
  exact kk ol (okL_i (om _ _) (okL_t (okL_t os))) om Γ A p l e s m args below meth c fx H locs lsA hP hS hL
theorem v_zald {M : MD} {d : Nat} {Q : Option Int → Mem → Prop} {pc : Nat} {ls st : List AV} {σ : Mem} {cx n : Nat} {i : Int} (pc' : Nat) (hdg : decode M.2.1 pc = .ok (.baload, 1)) (hq : pc + 1 = pc') (hs : shapes[cx]? = some (1, n, [])) (hi : 0 ≤ i ∧ i < (n : Int)) (kk : V M d Q pc' ls (.inl (σ cx i) :: st) σ) : V M d Q pc ls (.inl i :: .inr (some cx) :: st) σ := by
  intro ol os om Γ A p l e s m args below meth c fx H locs lsA hP hS hL
  have fx0 := fx
  obtain ⟨hx, hb, hml, hr, hown, hts, hlk, hK, hD, hA⟩ := fx0
  subst hq
  have hri := okL_h os
  have ee : intF σ cx (Int32.ofInt i).toNatClampNeg = Int32.ofInt (σ cx i) := by unfold intF; rw [r_cl hri, Int.toNat_of_nonneg hi.1]
  refine va_zald (D := Γ.2.1) hx hb hK.1 hP cx 1 (wl_boo hs) rfl (r_in hi.1 hi.2 hri) hdg ?_
  rw [ee]
  exact kk ol (okL_i (om _ _) (okL_t (okL_t os))) om Γ A p l e s m args below meth c fx H locs lsA hP hS hL
theorem arr_setM {σ : Mem} {cx : Nat} {i v : Int} (hi : 0 ≤ i) (hr : inR i) : intF (wr σ cx i v) cx = upd (intF σ cx) (Int32.ofInt i).toNatClampNeg (Int32.ofInt v) := by
  funext j
  rw [r_cl hr]
  unfold upd intF
  by_cases hj : j = i.toNat
  · rw [if_pos hj, hj, Int.toNat_of_nonneg hi, wr_eq]
  · have hne : ¬ ((j : Int) = i) := by omega
    rw [if_neg hj, wr_at, if_neg hne]
theorem v_iast {M : MD} {d : Nat} {Q : Option Int → Mem → Prop} {pc : Nat} {ls st : List AV} {σ : Mem} {cx n : Nat} {i v : Int} (pc' : Nat) (hdg : decode M.2.1 pc = .ok (.iastore, 1)) (hq : pc + 1 = pc') (hs : shapes[cx]? = some (0, n, [])) (hi : 0 ≤ i ∧ i < (n : Int)) (kk : V M d Q pc' ls st (wr σ cx i v)) : V M d Q pc ls (.inl v :: .inl i :: .inr (some cx) :: st) σ := by
  intro ol os om Γ A p l e s m args below meth c fx H locs lsA hP hS hL
  have fx0 := fx
  obtain ⟨hx, hb, hml, hr, hown, hts, hlk, hK, hD, hA⟩ := fx0
  subst hq
  have hri := okL_h (okL_t os)
  refine va_iast (D := Γ.2.1) hx hb hK.1 hP (hD σ) hS cx 0 (wl_int hs) rfl (r_in hi.1 hi.2 hri) hdg (fun H1 locs1 hP1 _ hS1 => ?_)
  have ee := wl_set (Γ := Γ) (σ := σ) (σ' := wr σ cx i v) (e := .inl (Γ.2.2.1, n, .inl (upd (intF σ cx) (Int32.ofInt i).toNatClampNeg (Int32.ofInt v)))) hs (by rw [← arr_setM hi.1 hri]; rfl) (fun c' h => wr_ne h)
  exact kk ol (okL_t (okL_t (okL_t os))) (okM_wr om (okL_h os)) Γ A p l e s m args below meth c fx H1 locs1 lsA (by rw [← ee]; exact hP1) hS1 hL
theorem v_zast {M : MD} {d : Nat} {Q : Option Int → Mem → Prop} {pc : Nat} {ls st : List AV} {σ : Mem} {cx n : Nat} {i v : Int} (pc' : Nat) (hdg : decode M.2.1 pc = .ok (.bastore, 1)) (hq : pc + 1 = pc') (hs : shapes[cx]? = some (1, n, [])) (hi : 0 ≤ i ∧ i < (n : Int)) (hv : v = 0 ∨ v = 1) (kk : V M d Q pc' ls st (wr σ cx i v)) : V M d Q pc ls (.inl v :: .inl i :: .inr (some cx) :: st) σ := by
  intro ol os om Γ A p l e s m args below meth c fx H locs lsA hP hS hL
  have fx0 := fx
  obtain ⟨hx, hb, hml, hr, hown, hts, hlk, hK, hD, hA⟩ := fx0
  subst hq
  have hri := okL_h (okL_t os)
  have hnv : vp_nar .boolean (Int32.ofInt v) = Int32.ofInt v := by rcases hv with rfl | rfl <;> decide +kernel
  refine va_zast (D := Γ.2.1) hx hb hK.1 hP (hD σ) hS cx 1 (wl_boo hs) rfl (r_in hi.1 hi.2 hri) hdg (fun H1 locs1 hP1 _ hS1 => ?_)
  rw [hnv] at hP1
  have ee := wl_set (Γ := Γ) (σ := σ) (σ' := wr σ cx i v) (e := .inl (Γ.2.2.2.1, n, .inl (upd (intF σ cx) (Int32.ofInt i).toNatClampNeg (Int32.ofInt v)))) hs (by rw [← arr_setM hi.1 hri]; rfl) (fun c' h => wr_ne h)
  exact kk ol (okL_t (okL_t (okL_t os))) (okM_wr om (okL_h os)) Γ A p l e s m args below meth c fx H1 locs1 lsA (by rw [← ee]; exact hP1) hS1 hL
theorem v_aald {M : MD} {d : Nat} {Q : Option Int → Mem → Prop} {pc : Nat} {ls st : List AV} {σ : Mem} {cx n b : Nat} {i : Int} (pc' : Nat) (hdg : decode M.2.1 pc = .ok (.aaload, 1)) (hq : pc + 1 = pc') (hs : shapes[cx]? = some (2, n, [some b])) (hi : 0 ≤ i ∧ i < (n : Int)) (kk : V M d Q pc' ls (.inr (some (b + i.toNat)) :: st) σ) : V M d Q pc ls (.inl i :: .inr (some cx) :: st) σ := by
  intro ol os om Γ A p l e s m args below meth c fx H locs lsA hP hS hL
  have fx0 := fx
  obtain ⟨hx, hb, hml, hr, hown, hts, hlk, hK, hD, hA⟩ := fx0
  subst hq
  have hri := okL_h os
  have hin := r_in (n := n) hi.1 hi.2 hri
  have hlt : (Int32.ofInt i).toNatClampNeg < n := Nat.not_le.mp fun q => hin (Or.inr q)
  have hv : va_rf (rowF Γ n b (Int32.ofInt i).toNatClampNeg) = .ref (Γ.1 (b + i.toNat)) := by unfold rowF; rw [if_pos hlt, r_cl hri]; rfl
  refine W.aald (v := .ref (Γ.1 (b + i.toNat))) (ty := .array .int) hx hb (hP cx _ (wl_row hs)) ((hK.1.2 2 _ rfl).1 n (fun j => va_rf (rowF Γ n b j))) rfl (fun q => by cases q) (by show ¬ (Int32.ofInt i < 0 ∨ (arrV _ _ _).slots.size ≤ _); rw [arrV_size]; exact hin) (by show (arrV _ _ _).slots[_]? = _; rw [arrV_read _ _ hlt]; exact congrArg some hv) rfl rfl hdg ?_
  exact kk ol (okL_r (okL_t (okL_t os))) om Γ A p l e s m args below meth c fx H locs lsA hP hS hL
theorem v_copy {M : MD} {d : Nat} {Q : Option Int → Mem → Prop} {pc : Nat} {ls : List AV} {σ : Mem} {a b na nb idx : Nat} {sp dp n : Int} (pc' : Nat) (hdg : decode M.2.1 pc = .ok (.invokestatic idx, 3)) (hq : pc + 3 = pc') (hl0 : Cond.methodLink M.1.cls idx arraycopyName ∈ ALL) (hd : 1 ≤ d) (hsa : shapes[a]? = some (0, na, [])) (hsb : shapes[b]? = some (0, nb, [])) (hi : 0 ≤ sp ∧ 0 ≤ dp ∧ 0 ≤ n ∧ sp + n ≤ (na : Int) ∧ dp + n ≤ (nb : Int)) (kk : V M d Q pc' ls [] (cp σ a sp b dp n)) : V M d Q pc ls [.inl n, .inl dp, .inr (some b), .inl sp, .inr (some a)] σ := by
  intro ol os om Γ A p l e s m args below meth c fx H locs lsA hP hS hL
  have fx0 := fx
  obtain ⟨hx, hb, hml, hr, hown, hts, hlk, hK, hD, hA⟩ := fx0
  subst hq
  obtain ⟨i1, i2, i3, i4, i5⟩ := hi
  have rn := okL_h os
  have rd := okL_h (okL_t os)
  have rs := okL_h (okL_t (okL_t (okL_t os)))
  have z : ∀ {x : Int}, 0 ≤ x → inR x → ¬ Int32.ofInt x < 0 := fun h hr q => by
    have := (r_lt hr r_0).mp q
    omega
  have hfr : 1 ≤ (rmOf d).frames := hd
  have h9 : (([] : List Value).map fun v : Value => v.category).sum + (nativeFrameWords "java/lang/System" "arraycopy" 5 + 11) ≤ 64 := by decide +kernel
  have hlo : (([] : List Value).map fun v : Value => v.category).sum + (nativeFrameWords "java/lang/System" "arraycopy" 5 + 11) ≤ (rmOf d).locals := by
    show _ ≤ 64 * d
    omega
  refine va_copyi (R := rmOf d) (D := Γ.2.1) (ty := .int) (rest := []) hx hb (by rw [hml]; exact hL.1.symm) hown (hts _ hl0) (hts _ sys_words.1.1) (hts _ sys_words.1.2) (hts _ sys_words.2) hK.1 hP (hD σ) hS a b 0 0 (wl_int hsa) (wl_int hsb) rfl rfl rfl (z i1 rs) (z i2 rd) (z i3 rn) (by rw [r_cl rs, r_cl rn]; omega) (by rw [r_cl rd, r_cl rn]; omega) (fun _ _ => rfl) hfr hlo hdg (fun H1 locs1 hP1 _ hS1 => ?_)
  have ef : intF (cp σ a sp b dp n) b = va_cpy (intF σ a) (intF σ b) (Int32.ofInt sp).toNatClampNeg (Int32.ofInt dp).toNatClampNeg (Int32.ofInt n).toNatClampNeg := by
    funext j
    unfold intF
    rw [r_cl rs, r_cl rd, r_cl rn, cp_at]
    unfold va_cpy
    by_cases hj : dp ≤ (j : Int) ∧ (j : Int) < dp + n
    · have hj2 : dp.toNat ≤ j ∧ j < dp.toNat + n.toNat := by omega
      rw [if_pos hj, if_pos hj2]
      have e9 : ((sp.toNat + (j - dp.toNat) : Nat) : Int) = sp + ((j : Int) - dp) := by omega
      show _ = Int32.ofInt (σ a ((sp.toNat + (j - dp.toNat) : Nat) : Int))
      rw [e9]
    · have hj2 : ¬ (dp.toNat ≤ j ∧ j < dp.toNat + n.toNat) := by omega
      rw [if_neg hj, if_neg hj2]
  have ee := wl_set (Γ := Γ) (σ := σ) (σ' := cp σ a sp b dp n) (e := .inl (Γ.2.2.1, nb, .inl (va_cpy (intF σ a) (intF σ b) (Int32.ofInt sp).toNatClampNeg (Int32.ofInt dp).toNatClampNeg (Int32.ofInt n).toNatClampNeg))) hsb (by rw [← ef]; rfl) (fun c' h => cp_ne h)
  exact kk ol (fun z hz => by cases hz) (okM_cp om) Γ A p l e s m args below meth c fx H1 locs1 lsA (by rw [← ee]; exact hP1) hS1 hL
theorem cat_sum (Γ : Wd) (st : List AV) : ((st.map (av Γ)).map fun v => v.category).sum = st.length := by
  induction st with
  | nil => rfl
  | cons a l ih => simp only [List.map_cons, List.sum_cons, ih, av_cat, List.length_cons]; omega

theorem v_mmax {M : MD} {d : Nat} {Q : Option Int → Mem → Prop} {pc : Nat} {ls st : List AV} {σ : Mem} {a b : Int} {idx : Nat} (pc' : Nat) (hdg : decode M.2.1 pc = .ok (.invokestatic idx, 3)) (hq : pc + 3 = pc') (hl0 : Cond.methodLink M.1.cls idx Lib.Math.max.name ∈ ALL) (hd : 1 ≤ d) (hst : st.length ≤ 8) (kk : V M d Q pc' ls (.inl (max a b) :: st) σ) : V M d Q pc ls (.inl b :: .inl a :: st) σ := by
  intro ol os om Γ A p l e s m args below meth c fx H locs lsA hP hS hL
  have fx0 := fx
  obtain ⟨hx, hb, hml, hr, hown, hts, hlk, hK, hD, hA⟩ := fx0
  subst hq
  have rb := okL_h os
  have ra := okL_h (okL_t os)
  have rmx : inR (max a b) := by unfold inR at *; omega
  have k0 := kk ol (okL_i rmx (okL_t (okL_t os))) om Γ A p l e s m args below meth c fx H locs lsA hP hS hL
  refine va_mmax hx hb (by rw [hml]; exact hL.1.symm) hown (hts _ hl0) (hts _ math_words.1.1.1) (hts _ math_words.2.2) (hts _ math_words.1.1.2) (by show 1 ≤ d; exact hd) (by rw [cat_sum]; show st.length + 13 ≤ 64 * d; omega) (Nat.le_refl _) (Nat.le_refl _) hdg ?_
  have ee : ∀ z : Int32, z = Int32.ofInt (max a b) → W p l e (rmOf d) s m args below meth c H locs 0 0 (MQ below (Qc Γ A Q) args s 0 0 A) (F0 m (pc + 3) lsA (.int z :: st.map (av Γ))) := fun z hz => by rw [hz]; exact k0
  apply ee
  have hlt := r_lt ra rb
  have hlt2 := r_lt rb ra
  split
  · rename_i h
    first | (have := hlt.mp h; congr 1; omega) | (have := hlt2.mp h; congr 1; omega)
  · rename_i h
    first | (have : ¬ a < b := fun q => h (hlt.mpr q); congr 1; omega) | (have : ¬ b < a := fun q => h (hlt2.mpr q); congr 1; omega)
theorem v_mmin {M : MD} {d : Nat} {Q : Option Int → Mem → Prop} {pc : Nat} {ls st : List AV} {σ : Mem} {a b : Int} {idx : Nat} (pc' : Nat) (hdg : decode M.2.1 pc = .ok (.invokestatic idx, 3)) (hq : pc + 3 = pc') (hl0 : Cond.methodLink M.1.cls idx Lib.Math.min.name ∈ ALL) (hd : 1 ≤ d) (hst : st.length ≤ 8) (kk : V M d Q pc' ls (.inl (min a b) :: st) σ) : V M d Q pc ls (.inl b :: .inl a :: st) σ := by
  intro ol os om Γ A p l e s m args below meth c fx H locs lsA hP hS hL
  have fx0 := fx
  obtain ⟨hx, hb, hml, hr, hown, hts, hlk, hK, hD, hA⟩ := fx0
  subst hq
  have rb := okL_h os
  have ra := okL_h (okL_t os)
  have rmx : inR (min a b) := by unfold inR at *; omega
  have k0 := kk ol (okL_i rmx (okL_t (okL_t os))) om Γ A p l e s m args below meth c fx H locs lsA hP hS hL
  refine va_mmin hx hb (by rw [hml]; exact hL.1.symm) hown (hts _ hl0) (hts _ math_words.1.2.1) (hts _ math_words.2.2) (hts _ math_words.1.2.2) (by show 1 ≤ d; exact hd) (by rw [cat_sum]; show st.length + 13 ≤ 64 * d; omega) (Nat.le_refl _) (Nat.le_refl _) hdg ?_
  have ee : ∀ z : Int32, z = Int32.ofInt (min a b) → W p l e (rmOf d) s m args below meth c H locs 0 0 (MQ below (Qc Γ A Q) args s 0 0 A) (F0 m (pc + 3) lsA (.int z :: st.map (av Γ))) := fun z hz => by rw [hz]; exact k0
  apply ee
  have hlt := r_lt ra rb
  have hlt2 := r_lt rb ra
  split
  · rename_i h
    first | (have := hlt.mp h; congr 1; omega) | (have := hlt2.mp h; congr 1; omega)
  · rename_i h
    first | (have : ¬ a < b := fun q => h (hlt.mpr q); congr 1; omega) | (have : ¬ b < a := fun q => h (hlt2.mpr q); congr 1; omega)
theorem v_mabs {M : MD} {d : Nat} {Q : Option Int → Mem → Prop} {pc : Nat} {ls st : List AV} {σ : Mem} {a : Int} {idx : Nat} (pc' : Nat) (hdg : decode M.2.1 pc = .ok (.invokestatic idx, 3)) (hq : pc + 3 = pc') (hl0 : Cond.methodLink M.1.cls idx Lib.Math.abs.name ∈ ALL) (hd : 1 ≤ d) (hst : st.length ≤ 8) (hr0 : -2147483647 ≤ a) (kk : V M d Q pc' ls (.inl (if 0 ≤ a then a else -a) :: st) σ) : V M d Q pc ls (.inl a :: st) σ := by
  intro ol os om Γ A p l e s m args below meth c fx H locs lsA hP hS hL
  have fx0 := fx
  obtain ⟨hx, hb, hml, hr, hown, hts, hlk, hK, hD, hA⟩ := fx0
  subst hq
  have ra := okL_h os
  have rmx : inR (if 0 ≤ a then a else -a) := by unfold inR at *; split <;> omega
  have k0 := kk ol (okL_i rmx (okL_t os)) om Γ A p l e s m args below meth c fx H locs lsA hP hS hL
  refine va_mabs hx hb (by rw [hml]; exact hL.1.symm) hown (hts _ hl0) (hts _ math_words.2.1.1) (hts _ math_words.2.2) (hts _ math_words.2.1.2) (by show 1 ≤ d; exact hd) (by rw [cat_sum]; show st.length + 13 ≤ 64 * d; omega) (Nat.le_refl _) (Nat.le_refl _) hdg ?_
  have ee : ∀ z : Int32, z = Int32.ofInt (if 0 ≤ a then a else -a) → W p l e (rmOf d) s m args below meth c H locs 0 0 (MQ below (Qc Γ A Q) args s 0 0 A) (F0 m (pc + 3) lsA (.int z :: st.map (av Γ))) := fun z hz => by rw [hz]; exact k0
  apply ee
  have hle := r_le r_0 ra
  split
  · rename_i h
    rw [if_pos (hle.mp h)]
  · rename_i h
    rw [if_neg (fun q => h (hle.mpr q)), Int32.ofInt_neg, Int32.zero_sub]
/-! returns -/
theorem v_iret {M : MD} {d : Nat} {Q : Option Int → Mem → Prop} {pc : Nat} {ls : List AV} {σ : Mem} {x : Int} (hdg : decode M.2.1 pc = .ok (.ireturn, 1)) (hm : M.2.2.2 = some .int) (h : Q (some x) σ) : V M d Q pc ls [.inl x] σ := by
  intro ol os om Γ A p l e s m args below meth c fx H locs lsA hP hS hL
  have fx0 := fx
  obtain ⟨hx, hb, hml, hr, hown, hts, hlk, hK, hD, hA⟩ := fx0
  exact W.iret (Qc := Qc Γ A Q) (v := Int32.ofInt x) hx hb (hr.trans hm) (fun t ht hW => ⟨⟨some x, σ, rfl, h, om, (fun y e => by cases e; exact okL_h os), by rw [ht]; exact hP⟩, hS.F ht⟩) hS.2.2 hdg hlk
theorem v_zret {M : MD} {d : Nat} {Q : Option Int → Mem → Prop} {pc : Nat} {ls : List AV} {σ : Mem} {x : Int} (hdg : decode M.2.1 pc = .ok (.ireturn, 1)) (hm : M.2.2.2 = some .boolean) (hv : x = 0 ∨ x = 1) (h : Q (some x) σ) : V M d Q pc ls [.inl x] σ := by
  intro ol os om Γ A p l e s m args below meth c fx H locs lsA hP hS hL
  have fx0 := fx
  obtain ⟨hx, hb, hml, hr, hown, hts, hlk, hK, hD, hA⟩ := fx0
  exact W.zret (Qc := Qc Γ A Q) (v := Int32.ofInt x) hx hb (hr.trans hm) (nar_b hv).1 (fun t ht hW => ⟨⟨some x, σ, rfl, h, om, (fun y e => by cases e; exact okL_h os), by rw [ht]; exact hP⟩, hS.F ht⟩) hS.2.2 hdg hlk
theorem v_vret {M : MD} {d : Nat} {Q : Option Int → Mem → Prop} {pc : Nat} {ls : List AV} {σ : Mem} (hdg : decode M.2.1 pc = .ok (.return_, 1)) (hm : M.2.2.2 = none) (h : Q none σ) : V M d Q pc ls [] σ := by
  intro ol os om Γ A p l e s m args below meth c fx H locs lsA hP hS hL
  have fx0 := fx
  obtain ⟨hx, hb, hml, hr, hown, hts, hlk, hK, hD, hA⟩ := fx0
  exact W.vret (Qc := Qc Γ A Q) hx hb (hr.trans hm) (fun t ht hW => ⟨⟨none, σ, rfl, h, om, (fun y e => by cases e), by rw [ht]; exact hP⟩, hS.F ht⟩) hS.2.2 hdg hlk
theorem v_iretI {M : MD} {d : Nat} {K : Int → Mem → Prop} {pc : Nat} {ls : List AV} {σ : Mem} {x : Int} (hdg : decode M.2.1 pc = .ok (.ireturn, 1)) (hm : M.2.2.2 = some .int) (h : K x σ) : V M d (RI K) pc ls [.inl x] σ := v_iret hdg hm ⟨x, rfl, h⟩
theorem v_zretI {M : MD} {d : Nat} {K : Int → Mem → Prop} {pc : Nat} {ls : List AV} {σ : Mem} {x : Int} (hdg : decode M.2.1 pc = .ok (.ireturn, 1)) (hm : M.2.2.2 = some .boolean) (hv : x = 0 ∨ x = 1) (h : K x σ) : V M d (RI K) pc ls [.inl x] σ := v_zret hdg hm hv ⟨x, rfl, h⟩
theorem v_vretV {M : MD} {d : Nat} {K : Mem → Prop} {pc : Nat} {ls : List AV} {σ : Mem} (hdg : decode M.2.1 pc = .ok (.return_, 1)) (hm : M.2.2.2 = none) (h : K σ) : V M d (RV K) pc ls [] σ := v_vret hdg hm ⟨rfl, h⟩
/-! calls -/
theorem Pcc_blind (Γ : Wd) (vs : List AV) (sz : Nat) (σ : Mem) : FrameBlind (Pcc Γ vs sz σ) := fun a U g mk q => by
  obtain ⟨q0, q1, qP, qK, qD⟩ := q
  exact ⟨q0, q1, qP, ⟨va_K.moved (u := U) (U := U.calling g mk a) (Vm.Alike.refl U.vm) qK.1, va_Nw.same rfl (rfl : U.vm = (U.calling g mk a).vm) qK.2.1, va_Nw.same rfl (rfl : U.vm = (U.calling g mk a).vm) qK.2.2⟩, qD⟩
theorem KK.warm {Γ : Wd} {s U : State} (h : KK Γ s) (hW : s.WarmedH U.vm) : KK Γ U := ⟨va_K.moved hW.alike h.1, va_Nw.warmD hW h.2.1, va_Nw.warmD hW h.2.2⟩
theorem Pcc_use {Γ : Wd} {A : Nat → Prop} {vs : List AV} {σ : Mem} {H : Heap} {s : State} (hP : va_P Γ.2.1 vwCl (wl Γ σ) H) (hK : KK Γ s) (hD : va_D A (wl Γ σ)) (U : State) (hU : U.heap = H) (hW : s.WarmedH U.vm) : Pcc Γ vs H.size σ (vs.map (av Γ)).toArray U :=
  ⟨rfl, by rw [hU], by rw [hU]; exact hP, hK.warm hW, hD.weaken (fun _ _ _ _ => trivial)⟩
theorem free_in {Γ : Wd} {A : Nat → Prop} {σ : Mem} {H0 H : Heap} {locs : List Loc} (hD : va_D A (wl Γ σ)) (hS : va_S A H0 H locs) (hA : ∀ q, H0.size ≤ q → A q) : ∀ q, va_A (wl Γ σ) H.size q → A q := fun q h => by
  rcases h with ⟨k, e, hk⟩ | h
  · exact hD.2 k _ hk
  · exact hA q (Nat.le_trans hS.1 h)
theorem call_go {p : Program} {l : Launch} {e : Env} {R : Room} {s : State} {m : MethodId} {args : Array Value} {below : List Frame} {meth : Method} {c : Code} {H : Heap} {locs : List Loc} {QQ : State → Prop} {pc : Nat} {lsA : Array Slot} {st0 rest : List Value} {a : Array Value} {A A1 : Nat → Prop} {H0 : Heap} {Γ : Wd} {Q1 : Option Int → Mem → Prop} {cells slots : Nat}
    (hr : va_Run p l e R s m args below meth c H locs cells slots 0 0 (F0 m pc lsA st0) rest (Qc Γ A1 Q1 a) A1) (hS : va_S A H0 H locs) (hA : ∀ q, A1 q → A q)
    (kk : ∀ (r : Option Int) (σ' : Mem) (H1 : Heap) (locs1 : List Loc), Q1 r σ' → okM σ' → (∀ x, r = some x → inR x) → va_P Γ.2.1 vwCl (wl Γ σ') H1 → va_S A H0 H1 locs1 → W p l e R s m args below meth c H1 locs1 cells slots QQ (F0 m (pc + 3) lsA ((r.map vI).toList ++ rest))) : W p l e R s m args below meth c H locs cells slots QQ (F0 m pc lsA st0) := by
  intro T hT X
  obtain ⟨v, st₀, t, T', L, h0, X', hL, e1, e2, ⟨⟨r, σ', hv, hq, ho, hrr, hP1⟩, hz, hk⟩, st⟩ := hr T hT X
  cases hv
  rw [h0] at hz hk
  obtain ⟨t2, a1, b1⟩ := kk r σ' T'.heap (locs ++ L) hq ho hrr (by rw [e1]; exact hP1)
    ⟨Nat.le_trans hS.1 (by rw [e1]; exact hz), fun q h1 h2 => by rw [e1, hk q (Nat.lt_of_lt_of_le h1 hS.1) (fun z => h2 (hA q z))]; exact hS.2.1 q h1 h2, fun q hq => by
      rcases List.mem_append.mp hq with h | h
      · exact hS.2.2 q h
      · exact hA _ (hL q h)⟩ T' rfl X'
  exact ⟨t2, st t2 a1, b1⟩
def CV (own : String) (idx : Nat) (M' : MD) (n : Nat) : Prop := (Cond.methodLink own idx M'.1 ∈ ALL ∧ Cond.instanceMethod M'.1 ∈ ALL ∧ Cond.selects M'.1.cls M'.1 M'.1 ∈ ALL ∧ Cond.initialized M'.1.cls ∈ ALL ∧ Cond.code M'.1 M'.2.1 M'.2.2.1 M'.2.2.2 ∈ ALL) ∧ (M'.1.cls ≠ "java/lang/invoke/MethodHandle" ∧ M'.1.cls ≠ "java/lang/invoke/VarHandle" ∧ (parseMethodDescriptor M'.1.desc).map (fun d => d.parameters.length) = some n) ∧ M'.2.2.1 ≤ 40
def CS (own : String) (idx : Nat) (M' : MD) (n : Nat) : Prop := (Cond.methodLink own idx M'.1 ∈ ALL ∧ Cond.static M'.1 ∈ ALL ∧ Cond.initialized M'.1.cls ∈ ALL ∧ Cond.code M'.1 M'.2.1 M'.2.2.1 M'.2.2.2 ∈ ALL) ∧ (M'.1.cls ≠ "java/lang/invoke/MethodHandle" ∧ M'.1.cls ≠ "java/lang/invoke/VarHandle" ∧ (parseMethodDescriptor M'.1.desc).map (fun d => d.parameters.length) = some n) ∧ M'.2.2.1 ≤ 40
def CA (own : String) (idx : Nat) (x : MethodName) (M' : MD) (n : Nat) : Prop := (Cond.methodLink own idx x ∈ ALL ∧ Cond.sameMethod x.cls x.cls x.name x.desc ∈ ALL ∧ Cond.selects M'.1.cls x M'.1 ∈ ALL ∧ Cond.instanceMethod M'.1 ∈ ALL ∧ Cond.initialized M'.1.cls ∈ ALL ∧ Cond.code M'.1 M'.2.1 M'.2.2.1 M'.2.2.2 ∈ ALL) ∧ (x.cls ≠ "java/lang/invoke/MethodHandle" ∧ x.cls ≠ "java/lang/invoke/VarHandle" ∧ (parseMethodDescriptor x.desc).map (fun d => d.parameters.length) = some n) ∧ M'.2.2.1 ≤ 40
theorem ws_in {M' : MD} (h : Cond.code M'.1 M'.2.1 M'.2.2.1 M'.2.2.2 ∈ ALL) : ∀ w ∈ wsM M', w ∈ ALL := fun w hw => (List.mem_cons.mp hw).elim (fun e => e ▸ h) (fun e => e)
theorem v_callVg {M : MD} {d : Nat} {Q : Option Int → Mem → Prop} {pc : Nat} {ls st : List AV} {σ : Mem} {stk : List AV} (M' : MD) (as : List AV) {cR ci idx : Nat} {n : Nat} {fl : List (Option Nat)} {T : u_T} {N : Nat} (Q1 : Option Int → Mem → Prop) (hstk : stk = as.reverse ++ .inr (some cR) :: st) (hdg : decode M.2.1 pc = .ok (.invokevirtual idx, 3)) (hc : CV M.1.cls idx M' n) (hn : as.length = n) (hs : shapes[cR]? = some (3, ci, fl)) (hcl : vwCl[ci]? = some (M'.1.cls, T, N)) (hd : 1 ≤ d) (hst : st.length ≤ 8)
    (hrun : Run M' (d - 1) (.inr (some cR) :: as) σ Q1) (kk : ∀ r σ', Q1 r σ' → (∀ x, r = some x → inR x) → V M d Q (pc + 3) ls ((r.map Sum.inl).toList ++ st) σ') : V M d Q pc ls stk σ := by
  intro ol os om Γ A p l e s m args below meth c fx H locs lsA hP hS hL
  have fx0 := fx
  obtain ⟨hx, hb, hml, hr, hown, hts, hlk, hK, hD, hA⟩ := fx0
  subst hstk
  obtain ⟨⟨c1, c2, c3, c4, c5⟩, c6, c7⟩ := hc
  have okas : okL (.inr (some cR) :: as) := fun z hz => by
    rcases List.mem_cons.mp hz with h | h
    · cases h
    · exact os z (List.mem_append_left _ (List.mem_reverse.mpr h))
  have okst : okL st := fun z hz => os z (List.mem_append_right _ (List.mem_cons_of_mem _ hz))
  have hM := hrun okas om l Γ H.size
  have hGI : GoodIn ALL (wsV M.1.cls idx M'.1.cls M'.1 (wsM M')) := good_sub (fun w hw => by
    rcases List.mem_append.mp hw with h | h
    · simp only [List.mem_cons, List.not_mem_nil, or_false] at h
      rcases h with rfl | rfl | rfl | rfl
      · exact c1
      · exact c2
      · exact c3
      · exact c4
    · exact ws_in c5 w h)
  have hrun2 := va_runV (g := F0 m pc lsA ((as.reverse ++ .inr (some cR) :: st).map (av Γ))) (b := Γ.1 cR) (As := as.map (av Γ)) (rest := st.map (av Γ)) (e := e) (below := below) (meth := meth) (locs := locs) (cells := 0) (slots := 0) (R := rmOf d) ⟨hx, hb, hml, hown, hts⟩ hM (cwV n hts hGI rfl rfl rfl ⟨rfl, c6⟩ ⟨by show d - 1 + 1 ≤ d; omega, by show 8 + (M'.2.2.1 + 11) + 64 * (d - 1) ≤ 64 * d; omega⟩) ⟨Pcc_blind _ _ _ _, va_recv hK.1 hP hcl (wl_obj hs), Pcc_use hP hK (hD σ)⟩ rfl (by simpa using hn) hL.1 (by simp [av]) (lv_room (by rw [cat_sum]; exact hst)) hdg ⟨Nat.le_refl _, Nat.le_refl _⟩
  refine call_go hrun2 hS (free_in (hD σ) hS hA) (fun r σ' H1 locs1 hq ho hrr hP1 hS1 => ?_)
  have k0 := kk r σ' hq hrr ol (by
    cases r with
    | none => exact okst
    | some x => exact okL_i (hrr x rfl) okst) ho Γ A p l e s m args below meth c fx H1 locs1 lsA hP1 hS1 hL
  cases r with
  | none => exact k0
  | some x => exact k0
theorem v_callSg {M : MD} {d : Nat} {Q : Option Int → Mem → Prop} {pc : Nat} {ls st : List AV} {σ : Mem} {stk : List AV} (M' : MD) (as : List AV) {idx : Nat} {n : Nat} (Q1 : Option Int → Mem → Prop) (hstk : stk = as.reverse ++ st) (hdg : decode M.2.1 pc = .ok (.invokestatic idx, 3)) (hc : CS M.1.cls idx M' n) (hn : as.length = n) (hd : 1 ≤ d) (hst : st.length ≤ 8)
    (hrun : Run M' (d - 1) as σ Q1) (kk : ∀ r σ', Q1 r σ' → (∀ x, r = some x → inR x) → V M d Q (pc + 3) ls ((r.map Sum.inl).toList ++ st) σ') : V M d Q pc ls stk σ := by
  intro ol os om Γ A p l e s m args below meth c fx H locs lsA hP hS hL
  have fx0 := fx
  obtain ⟨hx, hb, hml, hr, hown, hts, hlk, hK, hD, hA⟩ := fx0
  subst hstk
  obtain ⟨⟨c1, c2, c4, c5⟩, c6, c7⟩ := hc
  have okas : okL as := fun z hz => os z (List.mem_append_left _ (List.mem_reverse.mpr hz))
  have okst : okL st := fun z hz => os z (List.mem_append_right _ hz)
  have hM := hrun okas om l Γ H.size
  have hGI : GoodIn ALL (va_wsS M.1.cls idx M'.1 (wsM M')) := good_sub (fun w hw => by
    rcases List.mem_append.mp hw with h | h
    · simp only [List.mem_cons, List.not_mem_nil, or_false] at h
      rcases h with rfl | rfl | rfl
      · exact c1
      · exact c2
      · exact c4
    · exact ws_in c5 w h)
  have hrun2 := va_runS (g := F0 m pc lsA ((as.reverse ++ st).map (av Γ))) (As := as.map (av Γ)) (rest := st.map (av Γ)) (e := e) (below := below) (meth := meth) (locs := locs) (cells := 0) (slots := 0) (R := rmOf d) ⟨hx, hb, hml, hown, hts⟩ hM (va_cwS n hts hGI rfl rfl rfl c6 ⟨by show d - 1 + 1 ≤ d; omega, by show 8 + (M'.2.2.1 + 11) + 64 * (d - 1) ≤ 64 * d; omega⟩) ⟨Pcc_blind _ _ _ _, Pcc_use hP hK (hD σ)⟩ rfl (by simpa using hn) hL.1 (by simp) (lv_room (by rw [cat_sum]; exact hst)) hdg ⟨Nat.le_refl _, Nat.le_refl _⟩
  refine call_go hrun2 hS (free_in (hD σ) hS hA) (fun r σ' H1 locs1 hq ho hrr hP1 hS1 => ?_)
  have k0 := kk r σ' hq hrr ol (by
    cases r with
    | none => exact okst
    | some x => exact okL_i (hrr x rfl) okst) ho Γ A p l e s m args below meth c fx H1 locs1 lsA hP1 hS1 hL
  cases r with
  | none => exact k0
  | some x => exact k0
theorem v_callAg {M : MD} {d : Nat} {Q : Option Int → Mem → Prop} {pc : Nat} {ls st : List AV} {σ : Mem} {stk : List AV} (x0 : MethodName) (M' : MD) (as : List AV) {cR ci idx : Nat} {n : Nat} {fl : List (Option Nat)} {T : u_T} {N : Nat} (Q1 : Option Int → Mem → Prop) (hx0 : x0 = nGoalH ∨ x0 = nGoalR) (hstk : stk = as.reverse ++ .inr (some cR) :: st) (hdg : decode M.2.1 pc = .ok (.invokevirtual idx, 3)) (hc : CA M.1.cls idx x0 M' n) (hn : as.length = n) (hs : shapes[cR]? = some (3, ci, fl)) (hcl : vwCl[ci]? = some (M'.1.cls, T, N)) (hd : 1 ≤ d) (hst : st.length ≤ 8)
    (hrun : Run M' (d - 1) (.inr (some cR) :: as) σ Q1) (kk : ∀ r σ', Q1 r σ' → (∀ x, r = some x → inR x) → V M d Q (pc + 3) ls ((r.map Sum.inl).toList ++ st) σ') : V M d Q pc ls stk σ := by
  intro ol os om Γ A p l e s m args below meth c fx H locs lsA hP hS hL
  have fx0 := fx
  obtain ⟨hx, hb, hml, hr, hown, hts, hlk, hK, hD, hA⟩ := fx0
  subst hstk
  obtain ⟨⟨c1, c2, c3, c3', c4, c5⟩, c6, c7⟩ := hc
  have okas : okL (.inr (some cR) :: as) := fun z hz => by
    rcases List.mem_cons.mp hz with h | h
    · cases h
    · exact os z (List.mem_append_left _ (List.mem_reverse.mpr h))
  have okst : okL st := fun z hz => os z (List.mem_append_right _ (List.mem_cons_of_mem _ hz))
  have hM := hrun okas om l Γ H.size
  have hGI : GoodIn ALL (va_wsU M.1.cls idx M'.1.cls x0.cls x0 M'.1 (wsM M')) := good_sub (fun w hw => by
    rcases List.mem_append.mp hw with h | h
    · simp only [List.mem_cons, List.not_mem_nil, or_false] at h
      rcases h with rfl | rfl | rfl | rfl | rfl
      · exact c1
      · exact c2
      · exact c3
      · exact c3'
      · exact c4
    · exact ws_in c5 w h)
  have hdecl : va_Nw (.declares ⟨x0.cls, x0.name, x0.desc⟩) s := by
    rcases hx0 with rfl | rfl
    · exact hK.2.1
    · exact hK.2.2
  have hrun2 := va_runU (g := F0 m pc lsA ((as.reverse ++ .inr (some cR) :: st).map (av Γ))) (b := Γ.1 cR) (As := as.map (av Γ)) (rest := st.map (av Γ)) (e := e) (below := below) (meth := meth) (locs := locs) (cells := 0) (slots := 0) (R := rmOf d) ⟨hx, hb, hml, hown, hts⟩ hM (va_cwA n hts hGI rfl rfl rfl hdecl c6 ⟨by show d - 1 + 1 ≤ d; omega, by show 8 + (M'.2.2.1 + 11) + 64 * (d - 1) ≤ 64 * d; omega⟩) ⟨Pcc_blind _ _ _ _, va_recv hK.1 hP hcl (wl_obj hs), Pcc_use hP hK (hD σ)⟩ rfl (by simpa using hn) hL.1 (by simp [av]) (lv_room (by rw [cat_sum]; exact hst)) hdg ⟨Nat.le_refl _, Nat.le_refl _⟩
  refine call_go hrun2 hS (free_in (hD σ) hS hA) (fun r σ' H1 locs1 hq ho hrr hP1 hS1 => ?_)
  have k0 := kk r σ' hq hrr ol (by
    cases r with
    | none => exact okst
    | some x => exact okL_i (hrr x rfl) okst) ho Γ A p l e s m args below meth c fx H1 locs1 lsA hP1 hS1 hL
  cases r with
  | none => exact k0
  | some x => exact k0
theorem v_cvI0 {M : MD} {d : Nat} {Q : Option Int → Mem → Prop} {pc : Nat} {ls st : List AV} {σ : Mem} {cR ci idx : Nat} {fl : List (Option Nat)} {T : u_T} {N : Nat} (M' : MD) (pc' : Nat) (hdg : decode M.2.1 pc = .ok (.invokevirtual idx, 3)) (hq : pc + 3 = pc') (hc : CV M.1.cls idx M' 0) (hs : shapes[cR]? = some (3, ci, fl)) (hcl : vwCl[ci]? = some (M'.1.cls, T, N)) (hd : 1 ≤ d) (hst : st.length ≤ 8) (hrun : Run M' (d - 1) (.inr (some cR) :: []) σ (RI fun x σ' => V M d Q pc' ls (.inl x :: st) σ')) : V M d Q pc ls (.inr (some cR) :: st) σ :=
  v_callVg M' [] _ rfl hdg hc rfl hs hcl hd hst hrun (fun r σ' ⟨x, hx, h⟩ _ => by subst hx; subst hq; exact h)
theorem v_csI0 {M : MD} {d : Nat} {Q : Option Int → Mem → Prop} {pc : Nat} {ls st : List AV} {σ : Mem} {idx : Nat} (M' : MD) (pc' : Nat) (hdg : decode M.2.1 pc = .ok (.invokestatic idx, 3)) (hq : pc + 3 = pc') (hc : CS M.1.cls idx M' 0) (hd : 1 ≤ d) (hst : st.length ≤ 8) (hrun : Run M' (d - 1) [] σ (RI fun x σ' => V M d Q pc' ls (.inl x :: st) σ')) : V M d Q pc ls (st) σ :=
  v_callSg M' [] _ rfl hdg hc rfl hd hst hrun (fun r σ' ⟨x, hx, h⟩ _ => by subst hx; subst hq; exact h)
theorem v_cvV0 {M : MD} {d : Nat} {Q : Option Int → Mem → Prop} {pc : Nat} {ls st : List AV} {σ : Mem} {cR ci idx : Nat} {fl : List (Option Nat)} {T : u_T} {N : Nat} (M' : MD) (pc' : Nat) (hdg : decode M.2.1 pc = .ok (.invokevirtual idx, 3)) (hq : pc + 3 = pc') (hc : CV M.1.cls idx M' 0) (hs : shapes[cR]? = some (3, ci, fl)) (hcl : vwCl[ci]? = some (M'.1.cls, T, N)) (hd : 1 ≤ d) (hst : st.length ≤ 8) (hrun : Run M' (d - 1) (.inr (some cR) :: []) σ (RV fun σ' => V M d Q pc' ls st σ')) : V M d Q pc ls (.inr (some cR) :: st) σ :=
  v_callVg M' [] _ rfl hdg hc rfl hs hcl hd hst hrun (fun r σ' ⟨hx, h⟩ _ => by subst hx; subst hq; exact h)
theorem v_csV0 {M : MD} {d : Nat} {Q : Option Int → Mem → Prop} {pc : Nat} {ls st : List AV} {σ : Mem} {idx : Nat} (M' : MD) (pc' : Nat) (hdg : decode M.2.1 pc = .ok (.invokestatic idx, 3)) (hq : pc + 3 = pc') (hc : CS M.1.cls idx M' 0) (hd : 1 ≤ d) (hst : st.length ≤ 8) (hrun : Run M' (d - 1) [] σ (RV fun σ' => V M d Q pc' ls st σ')) : V M d Q pc ls (st) σ :=
  v_callSg M' [] _ rfl hdg hc rfl hd hst hrun (fun r σ' ⟨hx, h⟩ _ => by subst hx; subst hq; exact h)
theorem v_cvI1 {M : MD} {d : Nat} {Q : Option Int → Mem → Prop} {pc : Nat} {ls st : List AV} {σ : Mem} {a1 : AV} {cR ci idx : Nat} {fl : List (Option Nat)} {T : u_T} {N : Nat} (M' : MD) (pc' : Nat) (hdg : decode M.2.1 pc = .ok (.invokevirtual idx, 3)) (hq : pc + 3 = pc') (hc : CV M.1.cls idx M' 1) (hs : shapes[cR]? = some (3, ci, fl)) (hcl : vwCl[ci]? = some (M'.1.cls, T, N)) (hd : 1 ≤ d) (hst : st.length ≤ 8) (hrun : Run M' (d - 1) (.inr (some cR) :: [a1]) σ (RI fun x σ' => V M d Q pc' ls (.inl x :: st) σ')) : V M d Q pc ls (a1 :: .inr (some cR) :: st) σ :=
  v_callVg M' [a1] _ rfl hdg hc rfl hs hcl hd hst hrun (fun r σ' ⟨x, hx, h⟩ _ => by subst hx; subst hq; exact h)
theorem v_csI1 {M : MD} {d : Nat} {Q : Option Int → Mem → Prop} {pc : Nat} {ls st : List AV} {σ : Mem} {a1 : AV} {idx : Nat} (M' : MD) (pc' : Nat) (hdg : decode M.2.1 pc = .ok (.invokestatic idx, 3)) (hq : pc + 3 = pc') (hc : CS M.1.cls idx M' 1) (hd : 1 ≤ d) (hst : st.length ≤ 8) (hrun : Run M' (d - 1) [a1] σ (RI fun x σ' => V M d Q pc' ls (.inl x :: st) σ')) : V M d Q pc ls (a1 :: st) σ :=
  v_callSg M' [a1] _ rfl hdg hc rfl hd hst hrun (fun r σ' ⟨x, hx, h⟩ _ => by subst hx; subst hq; exact h)
theorem v_cvV1 {M : MD} {d : Nat} {Q : Option Int → Mem → Prop} {pc : Nat} {ls st : List AV} {σ : Mem} {a1 : AV} {cR ci idx : Nat} {fl : List (Option Nat)} {T : u_T} {N : Nat} (M' : MD) (pc' : Nat) (hdg : decode M.2.1 pc = .ok (.invokevirtual idx, 3)) (hq : pc + 3 = pc') (hc : CV M.1.cls idx M' 1) (hs : shapes[cR]? = some (3, ci, fl)) (hcl : vwCl[ci]? = some (M'.1.cls, T, N)) (hd : 1 ≤ d) (hst : st.length ≤ 8) (hrun : Run M' (d - 1) (.inr (some cR) :: [a1]) σ (RV fun σ' => V M d Q pc' ls st σ')) : V M d Q pc ls (a1 :: .inr (some cR) :: st) σ :=
  v_callVg M' [a1] _ rfl hdg hc rfl hs hcl hd hst hrun (fun r σ' ⟨hx, h⟩ _ => by subst hx; subst hq; exact h)
theorem v_csV1 {M : MD} {d : Nat} {Q : Option Int → Mem → Prop} {pc : Nat} {ls st : List AV} {σ : Mem} {a1 : AV} {idx : Nat} (M' : MD) (pc' : Nat) (hdg : decode M.2.1 pc = .ok (.invokestatic idx, 3)) (hq : pc + 3 = pc') (hc : CS M.1.cls idx M' 1) (hd : 1 ≤ d) (hst : st.length ≤ 8) (hrun : Run M' (d - 1) [a1] σ (RV fun σ' => V M d Q pc' ls st σ')) : V M d Q pc ls (a1 :: st) σ :=
  v_callSg M' [a1] _ rfl hdg hc rfl hd hst hrun (fun r σ' ⟨hx, h⟩ _ => by subst hx; subst hq; exact h)
theorem v_cvI2 {M : MD} {d : Nat} {Q : Option Int → Mem → Prop} {pc : Nat} {ls st : List AV} {σ : Mem} {a1 a2 : AV} {cR ci idx : Nat} {fl : List (Option Nat)} {T : u_T} {N : Nat} (M' : MD) (pc' : Nat) (hdg : decode M.2.1 pc = .ok (.invokevirtual idx, 3)) (hq : pc + 3 = pc') (hc : CV M.1.cls idx M' 2) (hs : shapes[cR]? = some (3, ci, fl)) (hcl : vwCl[ci]? = some (M'.1.cls, T, N)) (hd : 1 ≤ d) (hst : st.length ≤ 8) (hrun : Run M' (d - 1) (.inr (some cR) :: [a1, a2]) σ (RI fun x σ' => V M d Q pc' ls (.inl x :: st) σ')) : V M d Q pc ls (a2 :: a1 :: .inr (some cR) :: st) σ :=
  v_callVg M' [a1, a2] _ rfl hdg hc rfl hs hcl hd hst hrun (fun r σ' ⟨x, hx, h⟩ _ => by subst hx; subst hq; exact h)
theorem v_csI2 {M : MD} {d : Nat} {Q : Option Int → Mem → Prop} {pc : Nat} {ls st : List AV} {σ : Mem} {a1 a2 : AV} {idx : Nat} (M' : MD) (pc' : Nat) (hdg : decode M.2.1 pc = .ok (.invokestatic idx, 3)) (hq : pc + 3 = pc') (hc : CS M.1.cls idx M' 2) (hd : 1 ≤ d) (hst : st.length ≤ 8) (hrun : Run M' (d - 1) [a1, a2] σ (RI fun x σ' => V M d Q pc' ls (.inl x :: st) σ')) : V M d Q pc ls (a2 :: a1 :: st) σ :=
  v_callSg M' [a1, a2] _ rfl hdg hc rfl hd hst hrun (fun r σ' ⟨x, hx, h⟩ _ => by subst hx; subst hq; exact h)
theorem v_cvV2 {M : MD} {d : Nat} {Q : Option Int → Mem → Prop} {pc : Nat} {ls st : List AV} {σ : Mem} {a1 a2 : AV} {cR ci idx : Nat} {fl : List (Option Nat)} {T : u_T} {N : Nat} (M' : MD) (pc' : Nat) (hdg : decode M.2.1 pc = .ok (.invokevirtual idx, 3)) (hq : pc + 3 = pc') (hc : CV M.1.cls idx M' 2) (hs : shapes[cR]? = some (3, ci, fl)) (hcl : vwCl[ci]? = some (M'.1.cls, T, N)) (hd : 1 ≤ d) (hst : st.length ≤ 8) (hrun : Run M' (d - 1) (.inr (some cR) :: [a1, a2]) σ (RV fun σ' => V M d Q pc' ls st σ')) : V M d Q pc ls (a2 :: a1 :: .inr (some cR) :: st) σ :=
  v_callVg M' [a1, a2] _ rfl hdg hc rfl hs hcl hd hst hrun (fun r σ' ⟨hx, h⟩ _ => by subst hx; subst hq; exact h)
theorem v_csV2 {M : MD} {d : Nat} {Q : Option Int → Mem → Prop} {pc : Nat} {ls st : List AV} {σ : Mem} {a1 a2 : AV} {idx : Nat} (M' : MD) (pc' : Nat) (hdg : decode M.2.1 pc = .ok (.invokestatic idx, 3)) (hq : pc + 3 = pc') (hc : CS M.1.cls idx M' 2) (hd : 1 ≤ d) (hst : st.length ≤ 8) (hrun : Run M' (d - 1) [a1, a2] σ (RV fun σ' => V M d Q pc' ls st σ')) : V M d Q pc ls (a2 :: a1 :: st) σ :=
  v_callSg M' [a1, a2] _ rfl hdg hc rfl hd hst hrun (fun r σ' ⟨hx, h⟩ _ => by subst hx; subst hq; exact h)
theorem v_cvI3 {M : MD} {d : Nat} {Q : Option Int → Mem → Prop} {pc : Nat} {ls st : List AV} {σ : Mem} {a1 a2 a3 : AV} {cR ci idx : Nat} {fl : List (Option Nat)} {T : u_T} {N : Nat} (M' : MD) (pc' : Nat) (hdg : decode M.2.1 pc = .ok (.invokevirtual idx, 3)) (hq : pc + 3 = pc') (hc : CV M.1.cls idx M' 3) (hs : shapes[cR]? = some (3, ci, fl)) (hcl : vwCl[ci]? = some (M'.1.cls, T, N)) (hd : 1 ≤ d) (hst : st.length ≤ 8) (hrun : Run M' (d - 1) (.inr (some cR) :: [a1, a2, a3]) σ (RI fun x σ' => V M d Q pc' ls (.inl x :: st) σ')) : V M d Q pc ls (a3 :: a2 :: a1 :: .inr (some cR) :: st) σ :=
  v_callVg M' [a1, a2, a3] _ rfl hdg hc rfl hs hcl hd hst hrun (fun r σ' ⟨x, hx, h⟩ _ => by subst hx; subst hq; exact h)
theorem v_csI3 {M : MD} {d : Nat} {Q : Option Int → Mem → Prop} {pc : Nat} {ls st : List AV} {σ : Mem} {a1 a2 a3 : AV} {idx : Nat} (M' : MD) (pc' : Nat) (hdg : decode M.2.1 pc = .ok (.invokestatic idx, 3)) (hq : pc + 3 = pc') (hc : CS M.1.cls idx M' 3) (hd : 1 ≤ d) (hst : st.length ≤ 8) (hrun : Run M' (d - 1) [a1, a2, a3] σ (RI fun x σ' => V M d Q pc' ls (.inl x :: st) σ')) : V M d Q pc ls (a3 :: a2 :: a1 :: st) σ :=
  v_callSg M' [a1, a2, a3] _ rfl hdg hc rfl hd hst hrun (fun r σ' ⟨x, hx, h⟩ _ => by subst hx; subst hq; exact h)
theorem v_caI3 {M : MD} {d : Nat} {Q : Option Int → Mem → Prop} {pc : Nat} {ls st : List AV} {σ : Mem} {a1 a2 a3 : AV} {cR ci idx : Nat} {fl : List (Option Nat)} {T : u_T} {N : Nat} (x0 : MethodName) (M' : MD) (pc' : Nat) (hx0 : x0 = nGoalH ∨ x0 = nGoalR) (hdg : decode M.2.1 pc = .ok (.invokevirtual idx, 3)) (hq : pc + 3 = pc') (hc : CA M.1.cls idx x0 M' 3) (hs : shapes[cR]? = some (3, ci, fl)) (hcl : vwCl[ci]? = some (M'.1.cls, T, N)) (hd : 1 ≤ d) (hst : st.length ≤ 8) (hrun : Run M' (d - 1) (.inr (some cR) :: [a1, a2, a3]) σ (RI fun x σ' => V M d Q pc' ls (.inl x :: st) σ')) : V M d Q pc ls (a3 :: a2 :: a1 :: .inr (some cR) :: st) σ :=
  v_callAg x0 M' [a1, a2, a3] _ hx0 rfl hdg hc rfl hs hcl hd hst hrun (fun r σ' ⟨x, hx, h⟩ _ => by subst hx; subst hq; exact h)
theorem v_cvV3 {M : MD} {d : Nat} {Q : Option Int → Mem → Prop} {pc : Nat} {ls st : List AV} {σ : Mem} {a1 a2 a3 : AV} {cR ci idx : Nat} {fl : List (Option Nat)} {T : u_T} {N : Nat} (M' : MD) (pc' : Nat) (hdg : decode M.2.1 pc = .ok (.invokevirtual idx, 3)) (hq : pc + 3 = pc') (hc : CV M.1.cls idx M' 3) (hs : shapes[cR]? = some (3, ci, fl)) (hcl : vwCl[ci]? = some (M'.1.cls, T, N)) (hd : 1 ≤ d) (hst : st.length ≤ 8) (hrun : Run M' (d - 1) (.inr (some cR) :: [a1, a2, a3]) σ (RV fun σ' => V M d Q pc' ls st σ')) : V M d Q pc ls (a3 :: a2 :: a1 :: .inr (some cR) :: st) σ :=
  v_callVg M' [a1, a2, a3] _ rfl hdg hc rfl hs hcl hd hst hrun (fun r σ' ⟨hx, h⟩ _ => by subst hx; subst hq; exact h)
theorem v_csV3 {M : MD} {d : Nat} {Q : Option Int → Mem → Prop} {pc : Nat} {ls st : List AV} {σ : Mem} {a1 a2 a3 : AV} {idx : Nat} (M' : MD) (pc' : Nat) (hdg : decode M.2.1 pc = .ok (.invokestatic idx, 3)) (hq : pc + 3 = pc') (hc : CS M.1.cls idx M' 3) (hd : 1 ≤ d) (hst : st.length ≤ 8) (hrun : Run M' (d - 1) [a1, a2, a3] σ (RV fun σ' => V M d Q pc' ls st σ')) : V M d Q pc ls (a3 :: a2 :: a1 :: st) σ :=
  v_callSg M' [a1, a2, a3] _ rfl hdg hc rfl hd hst hrun (fun r σ' ⟨hx, h⟩ _ => by subst hx; subst hq; exact h)
theorem v_caV3 {M : MD} {d : Nat} {Q : Option Int → Mem → Prop} {pc : Nat} {ls st : List AV} {σ : Mem} {a1 a2 a3 : AV} {cR ci idx : Nat} {fl : List (Option Nat)} {T : u_T} {N : Nat} (x0 : MethodName) (M' : MD) (pc' : Nat) (hx0 : x0 = nGoalH ∨ x0 = nGoalR) (hdg : decode M.2.1 pc = .ok (.invokevirtual idx, 3)) (hq : pc + 3 = pc') (hc : CA M.1.cls idx x0 M' 3) (hs : shapes[cR]? = some (3, ci, fl)) (hcl : vwCl[ci]? = some (M'.1.cls, T, N)) (hd : 1 ≤ d) (hst : st.length ≤ 8) (hrun : Run M' (d - 1) (.inr (some cR) :: [a1, a2, a3]) σ (RV fun σ' => V M d Q pc' ls st σ')) : V M d Q pc ls (a3 :: a2 :: a1 :: .inr (some cR) :: st) σ :=
  v_callAg x0 M' [a1, a2, a3] _ hx0 rfl hdg hc rfl hs hcl hd hst hrun (fun r σ' ⟨hx, h⟩ _ => by subst hx; subst hq; exact h)
theorem v_cvI4 {M : MD} {d : Nat} {Q : Option Int → Mem → Prop} {pc : Nat} {ls st : List AV} {σ : Mem} {a1 a2 a3 a4 : AV} {cR ci idx : Nat} {fl : List (Option Nat)} {T : u_T} {N : Nat} (M' : MD) (pc' : Nat) (hdg : decode M.2.1 pc = .ok (.invokevirtual idx, 3)) (hq : pc + 3 = pc') (hc : CV M.1.cls idx M' 4) (hs : shapes[cR]? = some (3, ci, fl)) (hcl : vwCl[ci]? = some (M'.1.cls, T, N)) (hd : 1 ≤ d) (hst : st.length ≤ 8) (hrun : Run M' (d - 1) (.inr (some cR) :: [a1, a2, a3, a4]) σ (RI fun x σ' => V M d Q pc' ls (.inl x :: st) σ')) : V M d Q pc ls (a4 :: a3 :: a2 :: a1 :: .inr (some cR) :: st) σ :=
  v_callVg M' [a1, a2, a3, a4] _ rfl hdg hc rfl hs hcl hd hst hrun (fun r σ' ⟨x, hx, h⟩ _ => by subst hx; subst hq; exact h)
theorem v_csI4 {M : MD} {d : Nat} {Q : Option Int → Mem → Prop} {pc : Nat} {ls st : List AV} {σ : Mem} {a1 a2 a3 a4 : AV} {idx : Nat} (M' : MD) (pc' : Nat) (hdg : decode M.2.1 pc = .ok (.invokestatic idx, 3)) (hq : pc + 3 = pc') (hc : CS M.1.cls idx M' 4) (hd : 1 ≤ d) (hst : st.length ≤ 8) (hrun : Run M' (d - 1) [a1, a2, a3, a4] σ (RI fun x σ' => V M d Q pc' ls (.inl x :: st) σ')) : V M d Q pc ls (a4 :: a3 :: a2 :: a1 :: st) σ :=
  v_callSg M' [a1, a2, a3, a4] _ rfl hdg hc rfl hd hst hrun (fun r σ' ⟨x, hx, h⟩ _ => by subst hx; subst hq; exact h)
theorem v_caI4 {M : MD} {d : Nat} {Q : Option Int → Mem → Prop} {pc : Nat} {ls st : List AV} {σ : Mem} {a1 a2 a3 a4 : AV} {cR ci idx : Nat} {fl : List (Option Nat)} {T : u_T} {N : Nat} (x0 : MethodName) (M' : MD) (pc' : Nat) (hx0 : x0 = nGoalH ∨ x0 = nGoalR) (hdg : decode M.2.1 pc = .ok (.invokevirtual idx, 3)) (hq : pc + 3 = pc') (hc : CA M.1.cls idx x0 M' 4) (hs : shapes[cR]? = some (3, ci, fl)) (hcl : vwCl[ci]? = some (M'.1.cls, T, N)) (hd : 1 ≤ d) (hst : st.length ≤ 8) (hrun : Run M' (d - 1) (.inr (some cR) :: [a1, a2, a3, a4]) σ (RI fun x σ' => V M d Q pc' ls (.inl x :: st) σ')) : V M d Q pc ls (a4 :: a3 :: a2 :: a1 :: .inr (some cR) :: st) σ :=
  v_callAg x0 M' [a1, a2, a3, a4] _ hx0 rfl hdg hc rfl hs hcl hd hst hrun (fun r σ' ⟨x, hx, h⟩ _ => by subst hx; subst hq; exact h)
theorem v_cvV4 {M : MD} {d : Nat} {Q : Option Int → Mem → Prop} {pc : Nat} {ls st : List AV} {σ : Mem} {a1 a2 a3 a4 : AV} {cR ci idx : Nat} {fl : List (Option Nat)} {T : u_T} {N : Nat} (M' : MD) (pc' : Nat) (hdg : decode M.2.1 pc = .ok (.invokevirtual idx, 3)) (hq : pc + 3 = pc') (hc : CV M.1.cls idx M' 4) (hs : shapes[cR]? = some (3, ci, fl)) (hcl : vwCl[ci]? = some (M'.1.cls, T, N)) (hd : 1 ≤ d) (hst : st.length ≤ 8) (hrun : Run M' (d - 1) (.inr (some cR) :: [a1, a2, a3, a4]) σ (RV fun σ' => V M d Q pc' ls st σ')) : V M d Q pc ls (a4 :: a3 :: a2 :: a1 :: .inr (some cR) :: st) σ :=
  v_callVg M' [a1, a2, a3, a4] _ rfl hdg hc rfl hs hcl hd hst hrun (fun r σ' ⟨hx, h⟩ _ => by subst hx; subst hq; exact h)
theorem v_csV4 {M : MD} {d : Nat} {Q : Option Int → Mem → Prop} {pc : Nat} {ls st : List AV} {σ : Mem} {a1 a2 a3 a4 : AV} {idx : Nat} (M' : MD) (pc' : Nat) (hdg : decode M.2.1 pc = .ok (.invokestatic idx, 3)) (hq : pc + 3 = pc') (hc : CS M.1.cls idx M' 4) (hd : 1 ≤ d) (hst : st.length ≤ 8) (hrun : Run M' (d - 1) [a1, a2, a3, a4] σ (RV fun σ' => V M d Q pc' ls st σ')) : V M d Q pc ls (a4 :: a3 :: a2 :: a1 :: st) σ :=
  v_callSg M' [a1, a2, a3, a4] _ rfl hdg hc rfl hd hst hrun (fun r σ' ⟨hx, h⟩ _ => by subst hx; subst hq; exact h)
theorem v_caV4 {M : MD} {d : Nat} {Q : Option Int → Mem → Prop} {pc : Nat} {ls st : List AV} {σ : Mem} {a1 a2 a3 a4 : AV} {cR ci idx : Nat} {fl : List (Option Nat)} {T : u_T} {N : Nat} (x0 : MethodName) (M' : MD) (pc' : Nat) (hx0 : x0 = nGoalH ∨ x0 = nGoalR) (hdg : decode M.2.1 pc = .ok (.invokevirtual idx, 3)) (hq : pc + 3 = pc') (hc : CA M.1.cls idx x0 M' 4) (hs : shapes[cR]? = some (3, ci, fl)) (hcl : vwCl[ci]? = some (M'.1.cls, T, N)) (hd : 1 ≤ d) (hst : st.length ≤ 8) (hrun : Run M' (d - 1) (.inr (some cR) :: [a1, a2, a3, a4]) σ (RV fun σ' => V M d Q pc' ls st σ')) : V M d Q pc ls (a4 :: a3 :: a2 :: a1 :: .inr (some cR) :: st) σ :=
  v_callAg x0 M' [a1, a2, a3, a4] _ hx0 rfl hdg hc rfl hs hcl hd hst hrun (fun r σ' ⟨hx, h⟩ _ => by subst hx; subst hq; exact h)
theorem v_cvI5 {M : MD} {d : Nat} {Q : Option Int → Mem → Prop} {pc : Nat} {ls st : List AV} {σ : Mem} {a1 a2 a3 a4 a5 : AV} {cR ci idx : Nat} {fl : List (Option Nat)} {T : u_T} {N : Nat} (M' : MD) (pc' : Nat) (hdg : decode M.2.1 pc = .ok (.invokevirtual idx, 3)) (hq : pc + 3 = pc') (hc : CV M.1.cls idx M' 5) (hs : shapes[cR]? = some (3, ci, fl)) (hcl : vwCl[ci]? = some (M'.1.cls, T, N)) (hd : 1 ≤ d) (hst : st.length ≤ 8) (hrun : Run M' (d - 1) (.inr (some cR) :: [a1, a2, a3, a4, a5]) σ (RI fun x σ' => V M d Q pc' ls (.inl x :: st) σ')) : V M d Q pc ls (a5 :: a4 :: a3 :: a2 :: a1 :: .inr (some cR) :: st) σ :=
  v_callVg M' [a1, a2, a3, a4, a5] _ rfl hdg hc rfl hs hcl hd hst hrun (fun r σ' ⟨x, hx, h⟩ _ => by subst hx; subst hq; exact h)
theorem v_csI5 {M : MD} {d : Nat} {Q : Option Int → Mem → Prop} {pc : Nat} {ls st : List AV} {σ : Mem} {a1 a2 a3 a4 a5 : AV} {idx : Nat} (M' : MD) (pc' : Nat) (hdg : decode M.2.1 pc = .ok (.invokestatic idx, 3)) (hq : pc + 3 = pc') (hc : CS M.1.cls idx M' 5) (hd : 1 ≤ d) (hst : st.length ≤ 8) (hrun : Run M' (d - 1) [a1, a2, a3, a4, a5] σ (RI fun x σ' => V M d Q pc' ls (.inl x :: st) σ')) : V M d Q pc ls (a5 :: a4 :: a3 :: a2 :: a1 :: st) σ :=
  v_callSg M' [a1, a2, a3, a4, a5] _ rfl hdg hc rfl hd hst hrun (fun r σ' ⟨x, hx, h⟩ _ => by subst hx; subst hq; exact h)
theorem v_cvV5 {M : MD} {d : Nat} {Q : Option Int → Mem → Prop} {pc : Nat} {ls st : List AV} {σ : Mem} {a1 a2 a3 a4 a5 : AV} {cR ci idx : Nat} {fl : List (Option Nat)} {T : u_T} {N : Nat} (M' : MD) (pc' : Nat) (hdg : decode M.2.1 pc = .ok (.invokevirtual idx, 3)) (hq : pc + 3 = pc') (hc : CV M.1.cls idx M' 5) (hs : shapes[cR]? = some (3, ci, fl)) (hcl : vwCl[ci]? = some (M'.1.cls, T, N)) (hd : 1 ≤ d) (hst : st.length ≤ 8) (hrun : Run M' (d - 1) (.inr (some cR) :: [a1, a2, a3, a4, a5]) σ (RV fun σ' => V M d Q pc' ls st σ')) : V M d Q pc ls (a5 :: a4 :: a3 :: a2 :: a1 :: .inr (some cR) :: st) σ :=
  v_callVg M' [a1, a2, a3, a4, a5] _ rfl hdg hc rfl hs hcl hd hst hrun (fun r σ' ⟨hx, h⟩ _ => by subst hx; subst hq; exact h)
theorem v_csV5 {M : MD} {d : Nat} {Q : Option Int → Mem → Prop} {pc : Nat} {ls st : List AV} {σ : Mem} {a1 a2 a3 a4 a5 : AV} {idx : Nat} (M' : MD) (pc' : Nat) (hdg : decode M.2.1 pc = .ok (.invokestatic idx, 3)) (hq : pc + 3 = pc') (hc : CS M.1.cls idx M' 5) (hd : 1 ≤ d) (hst : st.length ≤ 8) (hrun : Run M' (d - 1) [a1, a2, a3, a4, a5] σ (RV fun σ' => V M d Q pc' ls st σ')) : V M d Q pc ls (a5 :: a4 :: a3 :: a2 :: a1 :: st) σ :=
  v_callSg M' [a1, a2, a3, a4, a5] _ rfl hdg hc rfl hd hst hrun (fun r σ' ⟨hx, h⟩ _ => by subst hx; subst hq; exact h)
theorem v_getIe {M : MD} {d : Nat} {Q : Option Int → Mem → Prop} {pc : Nat} {ls st : List AV} {σ : Mem} {cx ci k idx : Nat} {fl : List (Option Nat)} (pc' : Nat) (kI val : Int) (hdg : decode M.2.1 pc = .ok (.getfield idx, 3)) (hq : pc + 3 = pc') (hf : FL M.1.cls idx ci k) (hs : shapes[cx]? = some (3, ci, fl)) (hk : fl[k]? = some none) (hkI : (k : Int) = kI) (hval : σ cx kI = val) (kk : V M d Q pc' ls (.inl val :: st) σ) : V M d Q pc ls (.inr (some cx) :: st) σ := by
  subst hval
  exact v_getI pc' kI hdg hq hf hs hk hkI kk
theorem v_ialde {M : MD} {d : Nat} {Q : Option Int → Mem → Prop} {pc : Nat} {ls st : List AV} {σ : Mem} {cx n : Nat} {i : Int} (pc' : Nat) (val : Int) (hdg : decode M.2.1 pc = .ok (.iaload, 1)) (hq : pc + 1 = pc') (hs : shapes[cx]? = some (0, n, [])) (hi : 0 ≤ i ∧ i < (n : Int)) (hval : σ cx i = val) (kk : V M d Q pc' ls (.inl val :: st) σ) : V M d Q pc ls (.inl i :: .inr (some cx) :: st) σ := by
  subst hval
  exact v_iald pc' hdg hq hs hi kk
theorem v_zalde {M : MD} {d : Nat} {Q : Option Int → Mem → Prop} {pc : Nat} {ls st : List AV} {σ : Mem} {cx n : Nat} {i : Int} (pc' : Nat) (val : Int) (hdg : decode M.2.1 pc = .ok (.baload, 1)) (hq : pc + 1 = pc') (hs : shapes[cx]? = some (1, n, [])) (hi : 0 ≤ i ∧ i < (n : Int)) (hval : σ cx i = val) (kk : V M d Q pc' ls (.inl val :: st) σ) : V M d Q pc ls (.inl i :: .inr (some cx) :: st) σ := by
  subst hval
  exact v_zald pc' hdg hq hs hi kk
theorem V_mem {M : MD} {d : Nat} {Q : Option Int → Mem → Prop} {pc : Nat} {ls st : List AV} {σ : Mem} {τ : Mem} (h : σ = τ) (k : V M d Q pc ls st τ) : V M d Q pc ls st σ := h ▸ k
theorem V_top {M : MD} {d : Nat} {Q : Option Int → Mem → Prop} {pc : Nat} {ls st : List AV} {σ : Mem} {x y : Int} (h : x = y) (k : V M d Q pc ls (.inl y :: st) σ) : V M d Q pc ls (.inl x :: st) σ := h ▸ k
