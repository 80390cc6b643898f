theorem σ0z (c : Nat) (j : Int) (h : ¬ (c = 3 ∨ c = 25 ∨ c = 64 ∨ c = 73)) : σ0 c j = 0 := by
  unfold σ0
  rw [if_neg (by omega), if_neg (by omega), if_neg (by omega), if_neg (by omega)]
theorem σ0l (c : Nat) (j : Int) (h : c = 25 ∨ c = 73) (h0 : 0 ≤ j) (h1 : j < 4) : σ0 c j = 6 := by
  have hs : σ0 c j = if 0 ≤ j ∧ j < 4 then 6 else 0 := by rcases h with rfl | rfl <;> rfl
  rw [hs, if_pos ⟨h0, h1⟩]
theorem ok0 : okM σ0 := by
  intro c k
  unfold σ0
  repeat' split
  all_goals exact ⟨by decide, by decide⟩
theorem inv0 : Inv σ0 := by
  have z : ∀ (c : Nat) (j : Int), ¬ (c = 3 ∨ c = 25 ∨ c = 64 ∨ c = 73) → σ0 c j = 0 := σ0z
  refine ⟨0, 0, 0, ?_, ?_, ?_, ?_, ?_, ?_, ?_, ?_, ?_, ?_, ?_, ?_, ?_, ?_, ?_, ?_⟩
  · refine ⟨⟨rfl, by decide, rfl, by decide, rfl, by decide⟩, fun r a b => absurd b (by omega), fun r a b => absurd b (by omega), fun d v a b c e => ?_, fun p a b => ?_, Or.inl rfl, Or.inl rfl, fun d a b => ?_, fun v a b => ?_⟩
    · rw [z _ _ (by omega)]
      exact ⟨by decide, by decide⟩
    · rw [σ0l 25 p (Or.inl rfl) a b]
      exact ⟨by decide, by decide⟩
    · rw [z _ _ (by omega)]
      rfl
    · rw [z _ _ (by omega)]
      rfl
  · refine ⟨⟨rfl, by decide, rfl, by decide, rfl, by decide⟩, fun r a b => absurd b (by omega), fun r a b => absurd b (by omega), fun i a b => ?_, fun p a b => ?_, Or.inl rfl, Or.inl rfl⟩
    · rw [z _ _ (by omega)]
      exact ⟨by decide, by decide⟩
    · rw [σ0l 73 p (Or.inr rfl) a b]
      exact ⟨by decide, by decide⟩
  · exact fun d a b => absurd b (by omega)
  · exact fun d a b => z _ _ (by omega)
  · exact fun d v a b c e => by rw [z _ _ (by omega), z _ _ (by omega)]
  · exact fun d a b => by rw [z _ _ (by omega), z _ _ (by omega)]
  · exact fun d a b => absurd b (by omega)
  · exact fun p a b => by rw [σ0l 25 p (Or.inl rfl) a b, σ0l 73 p (Or.inr rfl) a b]
  · exact fun f a b => by rw [z _ _ (by omega), z _ _ (by omega)]
  · exact fun r a b => absurd b (by omega)
  · exact ⟨rfl, rfl, rfl, rfl⟩
  · exact ⟨by decide, by decide, Or.inl rfl⟩
  · exact fun k a => absurd a (by have e : σ0 3 0 = 0 := rfl; omega)
  · exact ⟨by decide, by decide⟩
  · exact fun k a => absurd a (by have e : σ0 4 0 = 0 := rfl; omega)
  · exact fun k a => absurd a (by have e : σ0 4 0 = 0 := rfl; omega)
abbrev adrJ (a1 a2 : Nat → Nat) : Nat → Nat := fun c => if c < 64 then a1 c else a2 c
theorem rowJ (G : Gd) (a1 a2 : Nat → Nat) (n b : Nat) (h : b + n ≤ 64) : rowF (adrJ a1 a2, G) n b = rowF (a1, G) n b := by
  funext j
  unfold rowF
  by_cases hj : j < n
  · rw [if_pos hj, if_pos hj]
    show some (if b + j < 64 then a1 (b + j) else a2 (b + j)) = some (a1 (b + j))
    rw [if_pos (by omega)]
  · rw [if_neg hj, if_neg hj]
theorem wlC_J (G : Gd) (a1 a2 : Nat → Nat) : wlC G (adrJ a1 a2) = wlC G a1 := by
  rw [wlC_eq, wlC_eq, rowJ G a1 a2 6 19 (by decide), rowJ G a1 a2 3 34 (by decide), rowJ G a1 a2 3 38 (by decide), rowJ G a1 a2 8 42 (by decide)]
  rfl
theorem wlR_J (G : Gd) (a1 a2 : Nat → Nat) : wlR G (adrJ a1 a2) = wlR G a2 := by
  rw [wlR_eq, wlR_eq]
  rfl
theorem wl_join (G : Gd) (a1 a2 : Nat → Nat) : wl (adrJ a1 a2, G) σ0 = wlC G a1 ++ wlR G a2 := by
  rw [← wlC_J G a1 a2, ← wlR_J G a1 a2]
  generalize adrJ a1 a2 = a
  have e0 : (fun (c : Nat) (q : Shp) => (a c, cellE (a, G) σ0 c q)) = (fun (i : Nat) (q : Shp) => (fun (c : Nat) (q : Shp) => (a c, cellM (a, G) σ0 c q)) (0 + i) q) := by
    funext c q
    show (a c, cellE (a, G) σ0 c q) = (a (0 + c), cellM (a, G) σ0 (0 + c) q)
    rw [Nat.zero_add, cellE_M]
  show shapes.mapIdx (fun (c : Nat) (q : Shp) => (a c, cellE (a, G) σ0 c q)) = _
  rw [e0]
  refine (mpI_map (fun (c : Nat) (q : Shp) => (a c, cellM (a, G) σ0 c q)) shapes 0).trans ?_
  rw [shapes_eq, mpI_app]
  rfl
theorem kc_start {s : State} {b : Nat} (hts : ∀ w ∈ lw_tbl, w.before #[Value.ref b] s = true) : ∃ G : Gd, KC G s := by
  have hA := all_hts hts
  have hcl : ∀ c : Nat, ∃ (cC : ClassId) (iS : Nat → Nat), ∀ q, vwCl[c]? = some q → u_Kn s q.1 q.2.1 q.2.2 cC iS := by
    intro c
    match c with
    | 0 =>
      obtain ⟨cC, iS, h⟩ := u_known (n := 5) hA inlX0 (hA (.instantiable RX0 5) (all_in 244 (by decide +kernel) (by decide +kernel)))
      refine ⟨cC, iS, fun q hq => ?_⟩
      have e : (RX0, TX0, 5) = q := Option.some.inj hq
      rw [← e]
      exact h
    | 1 =>
      obtain ⟨cC, iS, h⟩ := u_known (n := 2) hA inlX1 (hA (.instantiable RX1 2) (all_in 286 (by decide +kernel) (by decide +kernel)))
      refine ⟨cC, iS, fun q hq => ?_⟩
      have e : (RX1, TX1, 2) = q := Option.some.inj hq
      rw [← e]
      exact h
    | 2 =>
      obtain ⟨cC, iS, h⟩ := u_known (n := 2) hA inlX2 (hA (.instantiable RX2 2) (all_in 272 (by decide +kernel) (by decide +kernel)))
      refine ⟨cC, iS, fun q hq => ?_⟩
      have e : (RX2, TX2, 2) = q := Option.some.inj hq
      rw [← e]
      exact h
    | 3 =>
      obtain ⟨cC, iS, h⟩ := u_known (n := 9) hA inlX3 (hA (.instantiable RX3 9) (all_in 56 (by decide +kernel) (by decide +kernel)))
      refine ⟨cC, iS, fun q hq => ?_⟩
      have e : (RX3, TX3, 9) = q := Option.some.inj hq
      rw [← e]
      exact h
    | 4 =>
      obtain ⟨cC, iS, h⟩ := u_known (n := 4) hA inlX5 (hA (.instantiable RX5 4) (all_in 153 (by decide +kernel) (by decide +kernel)))
      refine ⟨cC, iS, fun q hq => ?_⟩
      have e : (RX5, TX5, 4) = q := Option.some.inj hq
      rw [← e]
      exact h
    | 5 =>
      obtain ⟨cC, iS, h⟩ := u_known (n := 3) hA inlX6 (hA (.instantiable RX6 3) (all_in 176 (by decide +kernel) (by decide +kernel)))
      refine ⟨cC, iS, fun q hq => ?_⟩
      have e : (RX6, TX6, 3) = q := Option.some.inj hq
      rw [← e]
      exact h
    | 6 =>
      obtain ⟨cC, iS, h⟩ := u_known (n := 10) hA inlX7 (hA (.instantiable RX7 10) (all_in 300 (by decide +kernel) (by decide +kernel)))
      refine ⟨cC, iS, fun q hq => ?_⟩
      have e : (RX7, TX7, 10) = q := Option.some.inj hq
      rw [← e]
      exact h
    | 7 =>
      obtain ⟨cC, iS, h⟩ := u_known (n := 9) hA inlX8 (hA (.instantiable RX8 9) (all_in 113 (by decide +kernel) (by decide +kernel)))
      refine ⟨cC, iS, fun q hq => ?_⟩
      have e : (RX8, TX8, 9) = q := Option.some.inj hq
      rw [← e]
      exact h
    | 8 =>
      obtain ⟨cC, iS, h⟩ := u_known (n := 2) hA inlX9 (hA (.instantiable RX9 2) (all_in 194 (by decide +kernel) (by decide +kernel)))
      refine ⟨cC, iS, fun q hq => ?_⟩
      have e : (RX9, TX9, 2) = q := Option.some.inj hq
      rw [← e]
      exact h
    | 9 =>
      obtain ⟨cC, iS, h⟩ := u_known (n := 10) hA inlX10 (hA (.instantiable RX10 10) (all_in 207 (by decide +kernel) (by decide +kernel)))
      refine ⟨cC, iS, fun q hq => ?_⟩
      have e : (RX10, TX10, 10) = q := Option.some.inj hq
      rw [← e]
      exact h
    | 10 =>
      obtain ⟨cC, iS, h⟩ := u_known (n := 12) hA inlX11 (hA (.instantiable RX11 12) (all_in 48 (by decide +kernel) (by decide +kernel)))
      refine ⟨cC, iS, fun q hq => ?_⟩
      have e : (RX11, TX11, 12) = q := Option.some.inj hq
      rw [← e]
      exact h
    | 11 =>
      obtain ⟨cC, iS, h⟩ := u_known (n := 35) hA inlX12 (hA (.instantiable RX12 35) (all_in 750 (by decide +kernel) (by decide +kernel)))
      refine ⟨cC, iS, fun q hq => ?_⟩
      have e : (RX12, TX12, 35) = q := Option.some.inj hq
      rw [← e]
      exact h
    | c + 12 =>
      refine ⟨0, fun _ => 0, fun q hq => ?_⟩
      have hn : vwCl[c + 12]? = none := List.getElem?_eq_none (by show 12 ≤ c + 12; omega)
      rw [hn] at hq
      cases hq
  obtain ⟨cI, kI, cmpI, i1, i2, i3⟩ := Cond.arrayClass_spec (hA (.arrayClass .int) (all_in 111 (by decide +kernel) (by decide +kernel)))
  obtain ⟨cZ, kZ, cmpZ, z1, z2, z3⟩ := Cond.arrayClass_spec (hA (.arrayClass .boolean) (all_in 298 (by decide +kernel) (by decide +kernel)))
  have hov := hts (.arrayOver (.array .int)) (List.mem_of_getElem? (i := 62) (by decide +kernel))
  obtain ⟨cmpA, cA, kA, a0, a1, a2, a3, a4⟩ := arrayOverA_spec hov
  refine ⟨((fun c => (hcl c).choose, fun c => (hcl c).choose_spec.choose), cI, cZ, cA), ⟨⟨fun c q hq => (hcl c).choose_spec.choose_spec q hq, fun k q hq => ?_⟩, va_Nw.of rfl (hts _ (List.mem_of_getElem? (i := 512) (by decide +kernel))), va_Nw.of rfl (hts _ (List.mem_of_getElem? (i := 524) (by decide +kernel)))⟩, ?_, hov⟩
  · match k with
    | 0 =>
      have e : (cI, FieldType.int) = q := Option.some.inj hq
      rw [← e]
      exact ⟨fun n z => ⟨fun k h => (by cases h), kI, i2, cmpI, i3⟩, i1⟩
    | 1 =>
      have e : (cZ, FieldType.boolean) = q := Option.some.inj hq
      rw [← e]
      exact ⟨fun n z => ⟨fun k h => (by cases h), kZ, z2, cmpZ, z3⟩, z1⟩
    | 2 =>
      have e : (cA, FieldType.array .int) = q := Option.some.inj hq
      rw [← e]
      exact ⟨fun n z => ⟨fun k h => (by cases h), kA, a2, cmpA, a3⟩, a4⟩
    | k + 3 => cases hq
  · intro q hq
    unfold nestQ at hq
    simp only [List.mem_cons, List.not_mem_nil, or_false] at hq
    rcases hq with rfl | rfl | rfl | rfl | rfl | rfl | rfl | rfl | rfl
    · exact va_Nw.of rfl (hts _ (List.mem_of_getElem? (i := 114) (by decide +kernel)))
    · exact va_Nw.of rfl (hts _ (List.mem_of_getElem? (i := 154) (by decide +kernel)))
    · exact va_Nw.of rfl (hts _ (List.mem_of_getElem? (i := 177) (by decide +kernel)))
    · exact va_Nw.of rfl (hts _ (List.mem_of_getElem? (i := 245) (by decide +kernel)))
    · exact va_Nw.of rfl (hts _ (List.mem_of_getElem? (i := 248) (by decide +kernel)))
    · exact va_Nw.of rfl (hts _ (List.mem_of_getElem? (i := 273) (by decide +kernel)))
    · exact va_Nw.of rfl (hts _ (List.mem_of_getElem? (i := 276) (by decide +kernel)))
    · exact va_Nw.of rfl (hts _ (List.mem_of_getElem? (i := 287) (by decide +kernel)))
    · exact va_Nw.of rfl (hts _ (List.mem_of_getElem? (i := 290) (by decide +kernel)))
