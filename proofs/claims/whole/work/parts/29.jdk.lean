def wadd (a b : Int) : Int := (Int32.ofInt a + Int32.ofInt b).toInt
def wsub (a b : Int) : Int := (Int32.ofInt a - Int32.ofInt b).toInt
def bushr (a b : Int) : Int := ((Int32.ofInt a).toUInt32 >>> ((Int32.ofInt b).toUInt32 &&& Int32.toUInt32 31)).toInt32.toInt
theorem v_iaddw {M : MD} {d : Nat} {Q : Option Int → Mem → Prop} {pc : Nat} {ls st : List AV} {σ : Mem} {a b : Int} (pc' : Nat) (hdg : decode M.2.1 pc = .ok (.iadd, 1)) (hq : pc + 1 = pc') (k : V M d Q pc' ls (.inl (wadd a b) :: st) σ) : V M d Q pc ls (.inl b :: .inl a :: st) σ := by
  intro ol os om Γ A p l e s m args below meth c fx H locs lsA hP hS hL
  have fx0 := fx
  obtain ⟨hx, hb, hml, hr, hown, hts, hlk, hK, hD, hA⟩ := fx0
  subst hq
  have k0 := k ol (okL_i (r_of _) (okL_t (okL_t os))) om Γ A p l e s m args below meth c fx H locs lsA hP hS hL
  refine lv_iadd hx hb hdg ?_
  have ee : av Γ (.inl (wadd a b)) = _ := congrArg Value.int (Int32.ofInt_toInt _)
  rw [List.map_cons, ee] at k0
  exact k0
theorem v_isubw {M : MD} {d : Nat} {Q : Option Int → Mem → Prop} {pc : Nat} {ls st : List AV} {σ : Mem} {a b : Int} (pc' : Nat) (hdg : decode M.2.1 pc = .ok (.isub, 1)) (hq : pc + 1 = pc') (k : V M d Q pc' ls (.inl (wsub a b) :: st) σ) : V M d Q pc ls (.inl b :: .inl a :: st) σ := by
  intro ol os om Γ A p l e s m args below meth c fx H locs lsA hP hS hL
  have fx0 := fx
  obtain ⟨hx, hb, hml, hr, hown, hts, hlk, hK, hD, hA⟩ := fx0
  subst hq
  have k0 := k ol (okL_i (r_of _) (okL_t (okL_t os))) om Γ A p l e s m args below meth c fx H locs lsA hP hS hL
  refine lv_isub hx hb hdg ?_
  have ee : av Γ (.inl (wsub a b)) = _ := congrArg Value.int (Int32.ofInt_toInt _)
  rw [List.map_cons, ee] at k0
  exact k0
theorem v_iushr {M : MD} {d : Nat} {Q : Option Int → Mem → Prop} {pc : Nat} {ls st : List AV} {σ : Mem} {a b : Int} (pc' : Nat) (hdg : decode M.2.1 pc = .ok (.iushr, 1)) (hq : pc + 1 = pc') (k : V M d Q pc' ls (.inl (bushr a b) :: st) σ) : V M d Q pc ls (.inl b :: .inl a :: st) σ := by
  intro ol os om Γ A p l e s m args below meth c fx H locs lsA hP hS hL
  have fx0 := fx
  obtain ⟨hx, hb, hml, hr, hown, hts, hlk, hK, hD, hA⟩ := fx0
  subst hq
  have k0 := k ol (okL_i (r_of _) (okL_t (okL_t os))) om Γ A p l e s m args below meth c fx H locs lsA hP hS hL
  have ee : av Γ (.inl (bushr a b)) = _ := congrArg Value.int (Int32.ofInt_toInt _)
  rw [List.map_cons, ee] at k0
  exact lv_iushr hx hb hdg rfl k0
theorem v_ldcw {M : MD} {d : Nat} {Q : Option Int → Mem → Prop} {pc : Nat} {ls st : List AV} {σ : Mem} {idx : Nat} {x : Int} (pc' : Nat) (hdg : decode M.2.1 pc = .ok (.ldc_w idx, 3)) (hq : pc + 3 = pc') (hc : Cond.constant M.1.cls idx (Int32.ofInt x) ∈ ALL ∧ inR x) (k : V M d Q pc' ls (.inl x :: st) σ) : V M d Q pc ls st σ := by
  intro ol os om Γ A p l e s m args below meth c fx H locs lsA hP hS hL
  have fx0 := fx
  obtain ⟨hx, hb, hml, hr, hown, hts, hlk, hK, hD, hA⟩ := fx0
  subst hq
  exact lv_ldcw hx hb hown (hts _ hc.1) hdg (k ol (okL_i hc.2 os) om Γ A p l e s m args below meth c fx H locs lsA hP hS hL)
theorem csJ6_265 : Cond.constant RJ6 265 (Int32.ofInt 1431655765) ∈ ALL ∧ inR 1431655765 := ⟨all_in 608 (by decide +kernel) (by decide +kernel), by decide⟩
theorem csJ6_266 : Cond.constant RJ6 266 (Int32.ofInt 858993459) ∈ ALL ∧ inR 858993459 := ⟨all_in 609 (by decide +kernel) (by decide +kernel), by decide⟩
theorem csJ6_267 : Cond.constant RJ6 267 (Int32.ofInt 252645135) ∈ ALL ∧ inR 252645135 := ⟨all_in 610 (by decide +kernel) (by decide +kernel), by decide⟩
def bc1 (x : Int) : Int := wsub x (band (bushr x 1) 1431655765)
def bc2 (x : Int) : Int := wadd (band x 858993459) (band (bushr x 2) 858993459)
def bc3 (x : Int) : Int := band (wadd x (bushr x 4)) 252645135
def bc4 (x : Int) : Int := wadd x (bushr x 8)
def bc5 (x : Int) : Int := wadd x (bushr x 16)
def bcF (x : Int) : Int := band (bc5 (bc4 (bc3 (bc2 (bc1 x))))) 63
theorem bcF0 : (List.range 4096).all (fun x => decide (bcF (x : Int) = pop x 12)) = true := by decide +kernel
theorem bcF_pop {x : Nat} (h : x < 4096) : bcF (x : Int) = pop x 12 := of_decide_eq_true (List.all_eq_true.mp bcF0 x (List.mem_range.mpr h))
set_option maxRecDepth 100000 in
set_option maxHeartbeats 4000000 in
theorem J6_bitCount_0f7a4 {d : Nat} {x : Nat} {σ : Mem} {K : Int → Mem → Prop} (hx : x < 4096) (hk0 : K (pop x 12) σ) : Run mJ6_bitCount_0f7a4 d [.inl (x : Int)] σ (RI K) := by
  refine Run_of (ls := [.inl (x : Int)]) (by decide) (Nat.le_of_ble_eq_true rfl) rfl ?_
  refine v_iload0 1 dJ6_bitCount_0f7a4_0 rfl ?_
  refine v_iload0 2 dJ6_bitCount_0f7a4_1 rfl ?_
  refine v_iconst 3 dJ6_bitCount_0f7a4_2 rfl ⟨by decide +kernel, by decide⟩ ?_
  refine v_iushr 4 dJ6_bitCount_0f7a4_3 rfl ?_
  refine v_ldcw 7 dJ6_bitCount_0f7a4_4 rfl csJ6_265 ?_
  refine v_iand 8 dJ6_bitCount_0f7a4_7 rfl ?_
  refine v_isubw 9 dJ6_bitCount_0f7a4_8 rfl ?_
  refine v_istore0 10 dJ6_bitCount_0f7a4_9 rfl (by decide) ?_
  refine v_iload0 11 dJ6_bitCount_0f7a4_10 rfl ?_
  refine v_ldcw 14 dJ6_bitCount_0f7a4_11 rfl csJ6_266 ?_
  refine v_iand 15 dJ6_bitCount_0f7a4_14 rfl ?_
  refine v_iload0 16 dJ6_bitCount_0f7a4_15 rfl ?_
  refine v_iconst 17 dJ6_bitCount_0f7a4_16 rfl ⟨by decide +kernel, by decide⟩ ?_
  refine v_iushr 18 dJ6_bitCount_0f7a4_17 rfl ?_
  refine v_ldcw 21 dJ6_bitCount_0f7a4_18 rfl csJ6_266 ?_
  refine v_iand 22 dJ6_bitCount_0f7a4_21 rfl ?_
  refine v_iaddw 23 dJ6_bitCount_0f7a4_22 rfl ?_
  refine v_istore0 24 dJ6_bitCount_0f7a4_23 rfl (by decide) ?_
  refine v_iload0 25 dJ6_bitCount_0f7a4_24 rfl ?_
  refine v_iload0 26 dJ6_bitCount_0f7a4_25 rfl ?_
  refine v_iconst 27 dJ6_bitCount_0f7a4_26 rfl ⟨by decide +kernel, by decide⟩ ?_
  refine v_iushr 28 dJ6_bitCount_0f7a4_27 rfl ?_
  refine v_iaddw 29 dJ6_bitCount_0f7a4_28 rfl ?_
  refine v_ldcw 32 dJ6_bitCount_0f7a4_29 rfl csJ6_267 ?_
  refine v_iand 33 dJ6_bitCount_0f7a4_32 rfl ?_
  refine v_istore0 34 dJ6_bitCount_0f7a4_33 rfl (by decide) ?_
  refine v_iload0 35 dJ6_bitCount_0f7a4_34 rfl ?_
  refine v_iload0 36 dJ6_bitCount_0f7a4_35 rfl ?_
  refine v_bipush 38 dJ6_bitCount_0f7a4_36 rfl ⟨by decide +kernel, by decide⟩ ?_
  refine v_iushr 39 dJ6_bitCount_0f7a4_38 rfl ?_
  refine v_iaddw 40 dJ6_bitCount_0f7a4_39 rfl ?_
  refine v_istore0 41 dJ6_bitCount_0f7a4_40 rfl (by decide) ?_
  refine v_iload0 42 dJ6_bitCount_0f7a4_41 rfl ?_
  refine v_iload0 43 dJ6_bitCount_0f7a4_42 rfl ?_
  refine v_bipush 45 dJ6_bitCount_0f7a4_43 rfl ⟨by decide +kernel, by decide⟩ ?_
  refine v_iushr 46 dJ6_bitCount_0f7a4_45 rfl ?_
  refine v_iaddw 47 dJ6_bitCount_0f7a4_46 rfl ?_
  refine v_istore0 48 dJ6_bitCount_0f7a4_47 rfl (by decide) ?_
  refine v_iload0 49 dJ6_bitCount_0f7a4_48 rfl ?_
  refine v_bipush 51 dJ6_bitCount_0f7a4_49 rfl ⟨by decide +kernel, by decide⟩ ?_
  refine v_iand 52 dJ6_bitCount_0f7a4_51 rfl ?_
  refine v_iretI dJ6_bitCount_0f7a4_52 rfl ?_
  rw [← bcF_pop hx] at hk0
  exact hk0
set_option maxRecDepth 100000 in
set_option maxHeartbeats 4000000 in
theorem J6_compare_7cf53 {d : Nat} {a b : Int} {σ : Mem} {K : Int → Mem → Prop} (o1 : a < b → K (-1) σ) (o2 : a = b → K 0 σ) (o3 : b < a → K 1 σ) : Run mJ6_compare_7cf53 d [.inl a, .inl b] σ (RI K) := by
  refine Run_of (ls := [.inl a, .inl b]) (by decide) (Nat.le_of_ble_eq_true rfl) rfl ?_
  refine v_iload0 1 dJ6_compare_7cf53_0 rfl ?_
  refine v_iload1 2 dJ6_compare_7cf53_1 rfl ?_
  refine v_icmp_ge 9 5 dJ6_compare_7cf53_2 rfl rfl (fun h2 => ?_) (fun h2 => ?_)
  · skip
    refine v_iload0 10 dJ6_compare_7cf53_9 rfl ?_
    refine v_iload1 11 dJ6_compare_7cf53_10 rfl ?_
    refine v_icmp_ne 18 14 dJ6_compare_7cf53_11 rfl rfl (fun h11 => ?_) (fun h11 => ?_)
    · skip
      refine v_iconst 19 dJ6_compare_7cf53_18 rfl ⟨by decide +kernel, by decide⟩ ?_
      refine v_iretI dJ6_compare_7cf53_19 rfl ?_
      first | exact o1 (by omega) | exact o2 (by omega) | exact o3 (by omega)
    · skip
      refine v_iconst 15 dJ6_compare_7cf53_14 rfl ⟨by decide +kernel, by decide⟩ ?_
      refine v_goto 19 dJ6_compare_7cf53_15 rfl ?_
      refine v_iretI dJ6_compare_7cf53_19 rfl ?_
      first | exact o1 (by omega) | exact o2 (by omega) | exact o3 (by omega)
  · skip
    refine v_iconst 6 dJ6_compare_7cf53_5 rfl ⟨by decide +kernel, by decide⟩ ?_
    refine v_goto 19 dJ6_compare_7cf53_6 rfl ?_
    refine v_iretI dJ6_compare_7cf53_19 rfl ?_
    first | exact o1 (by omega) | exact o2 (by omega) | exact o3 (by omega)
