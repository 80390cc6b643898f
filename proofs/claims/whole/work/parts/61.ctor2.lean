def σ0 : Mem := fun c j => if c = 3 then (if j = 1 then -5 else 0) else if c = 64 then (if j = 21 then -5 else 0) else if c = 25 then (if 0 ≤ j ∧ j < 4 then 6 else 0) else if c = 73 then (if 0 ≤ j ∧ j < 4 then 6 else 0) else 0
def limF (i : Nat) : Nat → Int32 := fun j => Int32.ofInt (if j < i then 6 else 0)
theorem z0 (c : Nat) (h : ¬ (c = 3 ∨ c = 25 ∨ c = 64 ∨ c = 73)) : intF σ0 c = fun _ => 0 := by
  funext j
  unfold intF σ0
  rw [if_neg (by omega), if_neg (by omega), if_neg (by omega), if_neg (by omega)]
  rfl
theorem limF0 : limF 0 = fun _ => 0 := by
  funext j
  unfold limF
  rw [if_neg (by omega)]
  rfl
theorem limF_upd (i : Nat) (h : i < 4) : upd (limF i) (Int32.ofInt (i : Int)).toNatClampNeg (Int32.ofInt 6) = limF (i + 1) := by
  have e : (Int32.ofInt (i : Int)).toNatClampNeg = i := by rw [r_cl ⟨by omega, by omega⟩]; exact Int.toNat_natCast i
  rw [e]
  funext j
  unfold upd limF
  by_cases e1 : j = i
  · rw [if_pos e1, if_pos (by omega)]
  · rw [if_neg e1]
    by_cases e2 : j < i
    · rw [if_pos e2, if_pos (by omega)]
    · rw [if_neg e2, if_neg (by omega)]
theorem lim4 (c : Nat) (h : c = 25 ∨ c = 73) : limF 4 = intF σ0 c := by
  funext j
  have hs : σ0 c (j : Int) = if 0 ≤ (j : Int) ∧ (j : Int) < 4 then 6 else 0 := by rcases h with rfl | rfl <;> rfl
  unfold limF intF
  rw [hs]
  by_cases e : j < 4
  · rw [if_pos e, if_pos (by omega)]
  · rw [if_neg e, if_neg (by omega)]
def mpI {α β : Type} (f : Nat → α → β) : Nat → List α → List β
  | _, [] => []
  | k, q :: l => f k q :: mpI f (k + 1) l
theorem mpI_map {α β : Type} (f : Nat → α → β) : ∀ (l : List α) (k : Nat), l.mapIdx (fun i q => f (k + i) q) = mpI f k l
  | [], _ => rfl
  | q :: l, k => by
    rw [List.mapIdx_cons]
    show f (k + 0) q :: _ = f k q :: mpI f (k + 1) l
    rw [← mpI_map f l (k + 1)]
    have e : (fun i q => f (k + (i + 1)) q) = (fun i q => f (k + 1 + i) q) := by
      funext i q
      rw [show k + (i + 1) = k + 1 + i by omega]
    rw [e]
    rfl
theorem mpI_app {α β : Type} (f : Nat → α → β) : ∀ (l1 l2 : List α) (k : Nat), mpI f k (l1 ++ l2) = mpI f k l1 ++ mpI f (k + l1.length) l2
  | [], _, _ => rfl
  | q :: l1, l2, k => by
    show f k q :: mpI f (k + 1) (l1 ++ l2) = f k q :: (mpI f (k + 1) l1 ++ mpI f (k + (l1.length + 1)) l2)
    rw [mpI_app f l1 l2 (k + 1), show k + 1 + l1.length = k + (l1.length + 1) by omega]
def cellM (Γ : Wd) (σ : Mem) (c : Nat) : Shp → va_E
  | (0, n, _) => .inl (Γ.2.2.1, n, .inl (intF σ c))
  | (1, n, _) => .inl (Γ.2.2.2.1, n, .inl (intF σ c))
  | (2, n, fl) => .inl (Γ.2.2.2.2, n, .inr (.inr (.inr (.inr (rowF Γ n ((fl.headD none).getD 0))))))
  | (_, n, fl) => .inr (n, mpI (objF Γ σ c) 0 fl)
theorem cellE_M (Γ : Wd) (σ : Mem) (c : Nat) (q : Shp) : cellE Γ σ c q = cellM Γ σ c q := by
  obtain ⟨k, n, fl⟩ := q
  have e : fl.mapIdx (objF Γ σ c) = mpI (objF Γ σ c) 0 fl := by
    rw [← mpI_map (objF Γ σ c) fl 0]
    have e : (fun i q => objF Γ σ c (0 + i) q) = objF Γ σ c := by
      funext i q
      rw [Nat.zero_add]
    rw [e]
  match k with
  | 0 => rfl
  | 1 => rfl
  | 2 => rfl
  | k + 3 =>
    show Sum.inr (n, fl.mapIdx (objF Γ σ c)) = Sum.inr (n, mpI (objF Γ σ c) 0 fl)
    rw [e]
def shC : List Shp := [(3, 10, [some 1, some 2, some 3, some 4, some 5, some 6, some 7, some 8, some 9, some 10, some 11, none]), (3, 3, [none, some 12, some 13, some 14, some 15, some 16, some 17, some 18, some 25]), (3, 7, [none, some 26, none, some 27, some 28, some 29, some 30, some 31, some 32]), (3, 4, [none, none, some 33, some 37]), (3, 5, [none, some 41, some 50]), (3, 8, [some 1, some 3]), (3, 9, [some 1, some 2, some 3, some 5, some 51, some 52, none, some 53, some 54, some 55]), (3, 0, [none, none, none, none, some 56]), (3, 2, [none, none]), (3, 1, [none, some 57]), (3, 6, [none, some 58, some 59, some 1, some 2, some 3, some 60, some 61, some 62, some 63]), (0, 6, []), (0, 6, []), (0, 6, []), (0, 6, []), (0, 6, []), (0, 6, []), (0, 6, []), (2, 6, [some 19]), (0, 6, []), (0, 6, []), (0, 6, []), (0, 6, []), (0, 6, []), (0, 6, []), (0, 4, []), (0, 6, []), (0, 12, []), (0, 12, []), (0, 12, []), (0, 12, []), (0, 6, []), (0, 6, []), (2, 3, [some 34]), (0, 6, []), (0, 6, []), (0, 6, []), (2, 3, [some 38]), (0, 6, []), (0, 6, []), (0, 6, []), (2, 8, [some 42]), (0, 6, []), (0, 6, []), (0, 6, []), (0, 6, []), (0, 6, []), (0, 6, []), (0, 6, []), (0, 6, []), (0, 8, []), (0, 6, []), (0, 4, []), (0, 4, []), (0, 6, []), (0, 7, []), (0, 6, []), (1, 4096, []), (0, 6, []), (0, 6, []), (0, 6, []), (0, 64, []), (0, 64, []), (0, 64, [])]
def shR : List Shp := [(3, 11, [none, some 65, some 66, some 67, some 68, some 69, some 70, some 71, some 72, some 73, none, some 74, none, some 75, some 76, some 77, some 78, none, none, some 79, some 80, none, none, some 81, some 82, some 83, some 84, some 85, some 86, some 87, some 88, some 89, none, none, some 90]), (0, 6, []), (0, 6, []), (0, 6, []), (0, 6, []), (0, 6, []), (0, 6, []), (0, 36, []), (0, 6, []), (0, 4, []), (0, 6, []), (0, 12, []), (0, 12, []), (0, 12, []), (0, 12, []), (0, 18, []), (0, 18, []), (0, 8, []), (0, 48, []), (0, 6, []), (0, 6, []), (0, 6, []), (0, 6, []), (0, 6, []), (0, 6, []), (0, 6, []), (1, 4096, [])]
theorem shapes_eq : shapes = shC ++ shR := rfl
def wlC (G : Gd) (adr : Nat → Nat) : va_W := mpI (fun c q => (adr c, cellM (adr, G) σ0 c q)) 0 shC
def wlR (G : Gd) (adr : Nat → Nat) : va_W := mpI (fun c q => (adr c, cellM (adr, G) σ0 c q)) 64 shR
theorem wlC_eq (G : Gd) (adr : Nat → Nat) : wlC G adr = [(adr 0, .inr (10, [.ref (adr 1), .ref (adr 2), .ref (adr 3), .ref (adr 4), .ref (adr 5), .ref (adr 6), .ref (adr 7), .ref (adr 8), .ref (adr 9), .ref (adr 10), .ref (adr 11), vI 0])), (adr 1, .inr (3, [vI 0, .ref (adr 12), .ref (adr 13), .ref (adr 14), .ref (adr 15), .ref (adr 16), .ref (adr 17), .ref (adr 18), .ref (adr 25)])), (adr 2, .inr (7, [vI 0, .ref (adr 26), vI 0, .ref (adr 27), .ref (adr 28), .ref (adr 29), .ref (adr 30), .ref (adr 31), .ref (adr 32)])), (adr 3, .inr (4, [vI 0, vI (-5), .ref (adr 33), .ref (adr 37)])), (adr 4, .inr (5, [vI 0, .ref (adr 41), .ref (adr 50)])), (adr 5, .inr (8, [.ref (adr 1), .ref (adr 3)])), (adr 6, .inr (9, [.ref (adr 1), .ref (adr 2), .ref (adr 3), .ref (adr 5), .ref (adr 51), .ref (adr 52), vI 0, .ref (adr 53), .ref (adr 54), .ref (adr 55)])), (adr 7, .inr (0, [vI 0, vI 0, vI 0, vI 0, .ref (adr 56)])), (adr 8, .inr (2, [vI 0, vI 0])), (adr 9, .inr (1, [vI 0, .ref (adr 57)])), (adr 10, .inr (6, [vI 0, .ref (adr 58), .ref (adr 59), .ref (adr 1), .ref (adr 2), .ref (adr 3), .ref (adr 60), .ref (adr 61), .ref (adr 62), .ref (adr 63)])), (adr 11, .inl (G.2.1, 6, .inl (intF σ0 11))), (adr 12, .inl (G.2.1, 6, .inl (intF σ0 12))), (adr 13, .inl (G.2.1, 6, .inl (intF σ0 13))), (adr 14, .inl (G.2.1, 6, .inl (intF σ0 14))), (adr 15, .inl (G.2.1, 6, .inl (intF σ0 15))), (adr 16, .inl (G.2.1, 6, .inl (intF σ0 16))), (adr 17, .inl (G.2.1, 6, .inl (intF σ0 17))), (adr 18, .inl (G.2.2.2, 6, .inr (.inr (.inr (.inr (rowF (adr, G) 6 19)))))), (adr 19, .inl (G.2.1, 6, .inl (intF σ0 19))), (adr 20, .inl (G.2.1, 6, .inl (intF σ0 20))), (adr 21, .inl (G.2.1, 6, .inl (intF σ0 21))), (adr 22, .inl (G.2.1, 6, .inl (intF σ0 22))), (adr 23, .inl (G.2.1, 6, .inl (intF σ0 23))), (adr 24, .inl (G.2.1, 6, .inl (intF σ0 24))), (adr 25, .inl (G.2.1, 4, .inl (intF σ0 25))), (adr 26, .inl (G.2.1, 6, .inl (intF σ0 26))), (adr 27, .inl (G.2.1, 12, .inl (intF σ0 27))), (adr 28, .inl (G.2.1, 12, .inl (intF σ0 28))), (adr 29, .inl (G.2.1, 12, .inl (intF σ0 29))), (adr 30, .inl (G.2.1, 12, .inl (intF σ0 30))), (adr 31, .inl (G.2.1, 6, .inl (intF σ0 31))), (adr 32, .inl (G.2.1, 6, .inl (intF σ0 32))), (adr 33, .inl (G.2.2.2, 3, .inr (.inr (.inr (.inr (rowF (adr, G) 3 34)))))), (adr 34, .inl (G.2.1, 6, .inl (intF σ0 34))), (adr 35, .inl (G.2.1, 6, .inl (intF σ0 35))), (adr 36, .inl (G.2.1, 6, .inl (intF σ0 36))), (adr 37, .inl (G.2.2.2, 3, .inr (.inr (.inr (.inr (rowF (adr, G) 3 38)))))), (adr 38, .inl (G.2.1, 6, .inl (intF σ0 38))), (adr 39, .inl (G.2.1, 6, .inl (intF σ0 39))), (adr 40, .inl (G.2.1, 6, .inl (intF σ0 40))), (adr 41, .inl (G.2.2.2, 8, .inr (.inr (.inr (.inr (rowF (adr, G) 8 42)))))), (adr 42, .inl (G.2.1, 6, .inl (intF σ0 42))), (adr 43, .inl (G.2.1, 6, .inl (intF σ0 43))), (adr 44, .inl (G.2.1, 6, .inl (intF σ0 44))), (adr 45, .inl (G.2.1, 6, .inl (intF σ0 45))), (adr 46, .inl (G.2.1, 6, .inl (intF σ0 46))), (adr 47, .inl (G.2.1, 6, .inl (intF σ0 47))), (adr 48, .inl (G.2.1, 6, .inl (intF σ0 48))), (adr 49, .inl (G.2.1, 6, .inl (intF σ0 49))), (adr 50, .inl (G.2.1, 8, .inl (intF σ0 50))), (adr 51, .inl (G.2.1, 6, .inl (intF σ0 51))), (adr 52, .inl (G.2.1, 4, .inl (intF σ0 52))), (adr 53, .inl (G.2.1, 4, .inl (intF σ0 53))), (adr 54, .inl (G.2.1, 6, .inl (intF σ0 54))), (adr 55, .inl (G.2.1, 7, .inl (intF σ0 55))), (adr 56, .inl (G.2.1, 6, .inl (intF σ0 56))), (adr 57, .inl (G.2.2.1, 4096, .inl (intF σ0 57))), (adr 58, .inl (G.2.1, 6, .inl (intF σ0 58))), (adr 59, .inl (G.2.1, 6, .inl (intF σ0 59))), (adr 60, .inl (G.2.1, 6, .inl (intF σ0 60))), (adr 61, .inl (G.2.1, 64, .inl (intF σ0 61))), (adr 62, .inl (G.2.1, 64, .inl (intF σ0 62))), (adr 63, .inl (G.2.1, 64, .inl (intF σ0 63)))] := rfl
theorem wlR_eq (G : Gd) (adr : Nat → Nat) : wlR G adr = [(adr 64, .inr (11, [vI 0, .ref (adr 65), .ref (adr 66), .ref (adr 67), .ref (adr 68), .ref (adr 69), .ref (adr 70), .ref (adr 71), .ref (adr 72), .ref (adr 73), vI 0, .ref (adr 74), vI 0, .ref (adr 75), .ref (adr 76), .ref (adr 77), .ref (adr 78), vI 0, vI 0, .ref (adr 79), .ref (adr 80), vI (-5), vI 0, .ref (adr 81), .ref (adr 82), .ref (adr 83), .ref (adr 84), .ref (adr 85), .ref (adr 86), .ref (adr 87), .ref (adr 88), .ref (adr 89), vI 0, vI 0, .ref (adr 90)])), (adr 65, .inl (G.2.1, 6, .inl (intF σ0 65))), (adr 66, .inl (G.2.1, 6, .inl (intF σ0 66))), (adr 67, .inl (G.2.1, 6, .inl (intF σ0 67))), (adr 68, .inl (G.2.1, 6, .inl (intF σ0 68))), (adr 69, .inl (G.2.1, 6, .inl (intF σ0 69))), (adr 70, .inl (G.2.1, 6, .inl (intF σ0 70))), (adr 71, .inl (G.2.1, 36, .inl (intF σ0 71))), (adr 72, .inl (G.2.1, 6, .inl (intF σ0 72))), (adr 73, .inl (G.2.1, 4, .inl (intF σ0 73))), (adr 74, .inl (G.2.1, 6, .inl (intF σ0 74))), (adr 75, .inl (G.2.1, 12, .inl (intF σ0 75))), (adr 76, .inl (G.2.1, 12, .inl (intF σ0 76))), (adr 77, .inl (G.2.1, 12, .inl (intF σ0 77))), (adr 78, .inl (G.2.1, 12, .inl (intF σ0 78))), (adr 79, .inl (G.2.1, 18, .inl (intF σ0 79))), (adr 80, .inl (G.2.1, 18, .inl (intF σ0 80))), (adr 81, .inl (G.2.1, 8, .inl (intF σ0 81))), (adr 82, .inl (G.2.1, 48, .inl (intF σ0 82))), (adr 83, .inl (G.2.1, 6, .inl (intF σ0 83))), (adr 84, .inl (G.2.1, 6, .inl (intF σ0 84))), (adr 85, .inl (G.2.1, 6, .inl (intF σ0 85))), (adr 86, .inl (G.2.1, 6, .inl (intF σ0 86))), (adr 87, .inl (G.2.1, 6, .inl (intF σ0 87))), (adr 88, .inl (G.2.1, 6, .inl (intF σ0 88))), (adr 89, .inl (G.2.1, 6, .inl (intF σ0 89))), (adr 90, .inl (G.2.2.1, 4096, .inl (intF σ0 90)))] := rfl
theorem vaP_nil (D : va_G) (cl : List vw_C) (H : Heap) : va_P D cl [] H := fun k q h => by cases h
theorem vaP_cons {D : va_G} {cl : List vw_C} {H : Heap} {x : Nat × va_E} {ws : va_W} (h : va_at D cl x H) (hw : va_P D cl ws H) : va_P D cl (x :: ws) H := fun k q hq => by
  cases k with
  | zero => cases hq; exact h
  | succ k => exact hw k q hq
theorem wobj : Cond.code objectInit ⟨#[0xb1]⟩ 1 none ∈ ALL := all_in 54 (by decide +kernel) (by decide +kernel)
abbrev mX0_init : MD := (yX0_init, cX0_init, 1, none)
theorem wc_X0_init : Cond.code yX0_init cX0_init 1 none ∈ ALL := all_in 247 (by decide +kernel) (by decide +kernel)
abbrev mX1_init : MD := (yX1_init, cX1_init, 1, none)
theorem wc_X1_init : Cond.code yX1_init cX1_init 1 none ∈ ALL := all_in 289 (by decide +kernel) (by decide +kernel)
abbrev mX2_init : MD := (yX2_init, cX2_init, 1, none)
theorem wc_X2_init : Cond.code yX2_init cX2_init 1 none ∈ ALL := all_in 275 (by decide +kernel) (by decide +kernel)
abbrev mX3_init : MD := (yX3_init, cX3_init, 2, none)
theorem wc_X3_init : Cond.code yX3_init cX3_init 2 none ∈ ALL := all_in 59 (by decide +kernel) (by decide +kernel)
abbrev mX4_init : MD := (yX4_init, cX4_init, 1, none)
theorem wc_X4_init : Cond.code yX4_init cX4_init 1 none ∈ ALL := all_in 250 (by decide +kernel) (by decide +kernel)
abbrev mX5_init : MD := (yX5_init, cX5_init, 1, none)
theorem wc_X5_init : Cond.code yX5_init cX5_init 1 none ∈ ALL := all_in 156 (by decide +kernel) (by decide +kernel)
abbrev mX6_init : MD := (yX6_init, cX6_init, 1, none)
theorem wc_X6_init : Cond.code yX6_init cX6_init 1 none ∈ ALL := all_in 179 (by decide +kernel) (by decide +kernel)
abbrev mX7_init : MD := (yX7_init, cX7_init, 4, none)
theorem wc_X7_init : Cond.code yX7_init cX7_init 4 none ∈ ALL := all_in 303 (by decide +kernel) (by decide +kernel)
abbrev mX8_init : MD := (yX8_init, cX8_init, 1, none)
theorem wc_X8_init : Cond.code yX8_init cX8_init 1 none ∈ ALL := all_in 116 (by decide +kernel) (by decide +kernel)
abbrev mX9_init : MD := (yX9_init, cX9_init, 3, none)
theorem wc_X9_init : Cond.code yX9_init cX9_init 3 none ∈ ALL := all_in 197 (by decide +kernel) (by decide +kernel)
abbrev mX10_init : MD := (yX10_init, cX10_init, 5, none)
theorem wc_X10_init : Cond.code yX10_init cX10_init 5 none ∈ ALL := all_in 210 (by decide +kernel) (by decide +kernel)
abbrev mX11_init : MD := (yX11_init, cX11_init, 1, none)
theorem wc_X11_init : Cond.code yX11_init cX11_init 1 none ∈ ALL := all_in 51 (by decide +kernel) (by decide +kernel)
abbrev mX12_init : MD := (yX12_init, cX12_init, 2, none)
theorem wc_X12_init : Cond.code yX12_init cX12_init 2 none ∈ ALL := all_in 753 (by decide +kernel) (by decide +kernel)
theorem piX0_9 : FP RX0 9 0 0 .boolean := ⟨RX0, TX0, 5, tyX0, rfl, by decide, inlX0, all_in 252 (by decide +kernel) (by decide +kernel), tyX0_ok, nmX0, by decide +kernel, by decide +kernel⟩
theorem piX0_15 : FP RX0 15 0 1 .int := ⟨RX0, TX0, 5, tyX0, rfl, by decide, inlX0, all_in 254 (by decide +kernel) (by decide +kernel), tyX0_ok, nmX0, by decide +kernel, by decide +kernel⟩
theorem piX0_19 : FP RX0 19 0 2 .int := ⟨RX0, TX0, 5, tyX0, rfl, by decide, inlX0, all_in 256 (by decide +kernel) (by decide +kernel), tyX0_ok, nmX0, by decide +kernel, by decide +kernel⟩
theorem piX0_22 : FP RX0 22 0 3 .boolean := ⟨RX0, TX0, 5, tyX0, rfl, by decide, inlX0, all_in 257 (by decide +kernel) (by decide +kernel), tyX0_ok, nmX0, by decide +kernel, by decide +kernel⟩
theorem pfX0_25 : FPF RX0 25 0 4 (.array .int) := ⟨RX0, TX0, 5, tyX0, rfl, by decide, inlX0, all_in 258 (by decide +kernel) (by decide +kernel), tyX0_ok, nmX0, by decide +kernel, by decide +kernel, by decide +kernel⟩
theorem piX1_9 : FP RX1 9 1 0 .int := ⟨RX1, TX1, 2, tyX1, rfl, by decide, inlX1, all_in 291 (by decide +kernel) (by decide +kernel), tyX1_ok, nmX1, by decide +kernel, by decide +kernel⟩
theorem pfX1_15 : FPF RX1 15 1 1 (.array .boolean) := ⟨RX1, TX1, 2, tyX1, rfl, by decide, inlX1, all_in 292 (by decide +kernel) (by decide +kernel), tyX1_ok, nmX1, by decide +kernel, by decide +kernel, by decide +kernel⟩
theorem piX2_7 : FP RX2 7 2 0 .int := ⟨RX2, TX2, 2, tyX2, rfl, by decide, inlX2, all_in 277 (by decide +kernel) (by decide +kernel), tyX2_ok, nmX2, by decide +kernel, by decide +kernel⟩
theorem piX2_13 : FP RX2 13 2 1 .int := ⟨RX2, TX2, 2, tyX2, rfl, by decide, inlX2, all_in 279 (by decide +kernel) (by decide +kernel), tyX2_ok, nmX2, by decide +kernel, by decide +kernel⟩
theorem piX3_9 : FP RX3 9 3 0 .int := ⟨RX3, TX3, 9, tyX3, rfl, by decide, inlX3, all_in 63 (by decide +kernel) (by decide +kernel), tyX3_ok, nmX3, by decide +kernel, by decide +kernel⟩
theorem pfX3_15 : FPF RX3 15 3 1 (.array .int) := ⟨RX3, TX3, 9, tyX3, rfl, by decide, inlX3, all_in 68 (by decide +kernel) (by decide +kernel), tyX3_ok, nmX3, by decide +kernel, by decide +kernel, by decide +kernel⟩
theorem pfX3_19 : FPF RX3 19 3 2 (.array .int) := ⟨RX3, TX3, 9, tyX3, rfl, by decide, inlX3, all_in 71 (by decide +kernel) (by decide +kernel), tyX3_ok, nmX3, by decide +kernel, by decide +kernel, by decide +kernel⟩
theorem pfX3_22 : FPF RX3 22 3 3 (.array .int) := ⟨RX3, TX3, 9, tyX3, rfl, by decide, inlX3, all_in 74 (by decide +kernel) (by decide +kernel), tyX3_ok, nmX3, by decide +kernel, by decide +kernel, by decide +kernel⟩
theorem pfX3_25 : FPF RX3 25 3 4 (.array .int) := ⟨RX3, TX3, 9, tyX3, rfl, by decide, inlX3, all_in 77 (by decide +kernel) (by decide +kernel), tyX3_ok, nmX3, by decide +kernel, by decide +kernel, by decide +kernel⟩
theorem pfX3_28 : FPF RX3 28 3 5 (.array .int) := ⟨RX3, TX3, 9, tyX3, rfl, by decide, inlX3, all_in 80 (by decide +kernel) (by decide +kernel), tyX3_ok, nmX3, by decide +kernel, by decide +kernel, by decide +kernel⟩
theorem pfX3_31 : FPF RX3 31 3 6 (.array .int) := ⟨RX3, TX3, 9, tyX3, rfl, by decide, inlX3, all_in 83 (by decide +kernel) (by decide +kernel), tyX3_ok, nmX3, by decide +kernel, by decide +kernel, by decide +kernel⟩
theorem pfX3_36 : FPF RX3 36 3 7 (.array (.array .int)) := ⟨RX3, TX3, 9, tyX3, rfl, by decide, inlX3, all_in 85 (by decide +kernel) (by decide +kernel), tyX3_ok, nmX3, by decide +kernel, by decide +kernel, by decide +kernel⟩
theorem pfX3_39 : FPF RX3 39 3 8 (.array .int) := ⟨RX3, TX3, 9, tyX3, rfl, by decide, inlX3, all_in 88 (by decide +kernel) (by decide +kernel), tyX3_ok, nmX3, by decide +kernel, by decide +kernel, by decide +kernel⟩
theorem piX5_9 : FP RX5 9 4 0 .int := ⟨RX5, TX5, 4, tyX5, rfl, by decide, inlX5, all_in 159 (by decide +kernel) (by decide +kernel), tyX5_ok, nmX5, by decide +kernel, by decide +kernel⟩
theorem piX5_15 : FP RX5 15 4 1 .int := ⟨RX5, TX5, 4, tyX5, rfl, by decide, inlX5, all_in 161 (by decide +kernel) (by decide +kernel), tyX5_ok, nmX5, by decide +kernel, by decide +kernel⟩
theorem pfX5_20 : FPF RX5 20 4 2 (.array (.array .int)) := ⟨RX5, TX5, 4, tyX5, rfl, by decide, inlX5, all_in 163 (by decide +kernel) (by decide +kernel), tyX5_ok, nmX5, by decide +kernel, by decide +kernel, by decide +kernel⟩
theorem pfX5_23 : FPF RX5 23 4 3 (.array (.array .int)) := ⟨RX5, TX5, 4, tyX5, rfl, by decide, inlX5, all_in 165 (by decide +kernel) (by decide +kernel), tyX5_ok, nmX5, by decide +kernel, by decide +kernel, by decide +kernel⟩
theorem piX6_9 : FP RX6 9 5 0 .int := ⟨RX6, TX6, 3, tyX6, rfl, by decide, inlX6, all_in 182 (by decide +kernel) (by decide +kernel), tyX6_ok, nmX6, by decide +kernel, by decide +kernel⟩
theorem pfX6_17 : FPF RX6 17 5 1 (.array (.array .int)) := ⟨RX6, TX6, 3, tyX6, rfl, by decide, inlX6, all_in 184 (by decide +kernel) (by decide +kernel), tyX6_ok, nmX6, by decide +kernel, by decide +kernel, by decide +kernel⟩
theorem pfX6_20 : FPF RX6 20 5 2 (.array .int) := ⟨RX6, TX6, 3, tyX6, rfl, by decide, inlX6, all_in 185 (by decide +kernel) (by decide +kernel), tyX6_ok, nmX6, by decide +kernel, by decide +kernel, by decide +kernel⟩
theorem piX7_9 : FP RX7 9 6 0 .int := ⟨RX7, TX7, 10, tyX7, rfl, by decide, inlX7, all_in 305 (by decide +kernel) (by decide +kernel), tyX7_ok, nmX7, by decide +kernel, by decide +kernel⟩
theorem pfX7_15 : FPF RX7 15 6 1 (.array .int) := ⟨RX7, TX7, 10, tyX7, rfl, by decide, inlX7, all_in 307 (by decide +kernel) (by decide +kernel), tyX7_ok, nmX7, by decide +kernel, by decide +kernel, by decide +kernel⟩
theorem pfX7_19 : FPF RX7 19 6 2 (.array .int) := ⟨RX7, TX7, 10, tyX7, rfl, by decide, inlX7, all_in 309 (by decide +kernel) (by decide +kernel), tyX7_ok, nmX7, by decide +kernel, by decide +kernel, by decide +kernel⟩
theorem pfX7_22 : FPF RX7 22 6 6 (.array .int) := ⟨RX7, TX7, 10, tyX7, rfl, by decide, inlX7, all_in 314 (by decide +kernel) (by decide +kernel), tyX7_ok, nmX7, by decide +kernel, by decide +kernel, by decide +kernel⟩
theorem pfX7_25 : FPF RX7 25 6 7 (.array .int) := ⟨RX7, TX7, 10, tyX7, rfl, by decide, inlX7, all_in 315 (by decide +kernel) (by decide +kernel), tyX7_ok, nmX7, by decide +kernel, by decide +kernel, by decide +kernel⟩
theorem pfX7_28 : FPF RX7 28 6 8 (.array .int) := ⟨RX7, TX7, 10, tyX7, rfl, by decide, inlX7, all_in 316 (by decide +kernel) (by decide +kernel), tyX7_ok, nmX7, by decide +kernel, by decide +kernel, by decide +kernel⟩
theorem pfX7_31 : FPF RX7 31 6 9 (.array .int) := ⟨RX7, TX7, 10, tyX7, rfl, by decide, inlX7, all_in 317 (by decide +kernel) (by decide +kernel), tyX7_ok, nmX7, by decide +kernel, by decide +kernel, by decide +kernel⟩
theorem pfX7_34 : FPF RX7 34 6 3 (.object "NearPlans$Decisions") := ⟨RX7, TX7, 10, tyX7, rfl, by decide, inlX7, all_in 311 (by decide +kernel) (by decide +kernel), tyX7_ok, nmX7, by decide +kernel, by decide +kernel, by decide +kernel⟩
theorem pfX7_38 : FPF RX7 38 6 4 (.object "NearPlans$Rules") := ⟨RX7, TX7, 10, tyX7, rfl, by decide, inlX7, all_in 312 (by decide +kernel) (by decide +kernel), tyX7_ok, nmX7, by decide +kernel, by decide +kernel, by decide +kernel⟩
theorem pfX7_42 : FPF RX7 42 6 5 (.object "NearPlans$Kept") := ⟨RX7, TX7, 10, tyX7, rfl, by decide, inlX7, all_in 313 (by decide +kernel) (by decide +kernel), tyX7_ok, nmX7, by decide +kernel, by decide +kernel, by decide +kernel⟩
theorem piX8_9 : FP RX8 9 7 0 .int := ⟨RX8, TX8, 9, tyX8, rfl, by decide, inlX8, all_in 118 (by decide +kernel) (by decide +kernel), tyX8_ok, nmX8, by decide +kernel, by decide +kernel⟩
theorem pfX8_15 : FPF RX8 15 7 1 (.array .int) := ⟨RX8, TX8, 9, tyX8, rfl, by decide, inlX8, all_in 120 (by decide +kernel) (by decide +kernel), tyX8_ok, nmX8, by decide +kernel, by decide +kernel, by decide +kernel⟩
theorem piX8_19 : FP RX8 19 7 2 .int := ⟨RX8, TX8, 9, tyX8, rfl, by decide, inlX8, all_in 124 (by decide +kernel) (by decide +kernel), tyX8_ok, nmX8, by decide +kernel, by decide +kernel⟩
theorem pfX8_22 : FPF RX8 22 7 3 (.array .int) := ⟨RX8, TX8, 9, tyX8, rfl, by decide, inlX8, all_in 127 (by decide +kernel) (by decide +kernel), tyX8_ok, nmX8, by decide +kernel, by decide +kernel, by decide +kernel⟩
theorem pfX8_25 : FPF RX8 25 7 4 (.array .int) := ⟨RX8, TX8, 9, tyX8, rfl, by decide, inlX8, all_in 128 (by decide +kernel) (by decide +kernel), tyX8_ok, nmX8, by decide +kernel, by decide +kernel, by decide +kernel⟩
theorem pfX8_28 : FPF RX8 28 7 5 (.array .int) := ⟨RX8, TX8, 9, tyX8, rfl, by decide, inlX8, all_in 129 (by decide +kernel) (by decide +kernel), tyX8_ok, nmX8, by decide +kernel, by decide +kernel, by decide +kernel⟩
theorem pfX8_31 : FPF RX8 31 7 6 (.array .int) := ⟨RX8, TX8, 9, tyX8, rfl, by decide, inlX8, all_in 130 (by decide +kernel) (by decide +kernel), tyX8_ok, nmX8, by decide +kernel, by decide +kernel, by decide +kernel⟩
theorem pfX8_34 : FPF RX8 34 7 7 (.array .int) := ⟨RX8, TX8, 9, tyX8, rfl, by decide, inlX8, all_in 131 (by decide +kernel) (by decide +kernel), tyX8_ok, nmX8, by decide +kernel, by decide +kernel, by decide +kernel⟩
theorem pfX8_37 : FPF RX8 37 7 8 (.array .int) := ⟨RX8, TX8, 9, tyX8, rfl, by decide, inlX8, all_in 132 (by decide +kernel) (by decide +kernel), tyX8_ok, nmX8, by decide +kernel, by decide +kernel, by decide +kernel⟩
theorem pfX9_9 : FPF RX9 9 8 0 (.object "NearPlans$Decisions") := ⟨RX9, TX9, 2, tyX9, rfl, by decide, inlX9, all_in 199 (by decide +kernel) (by decide +kernel), tyX9_ok, nmX9, by decide +kernel, by decide +kernel, by decide +kernel⟩
theorem pfX9_15 : FPF RX9 15 8 1 (.object "NearPlans$Kept") := ⟨RX9, TX9, 2, tyX9, rfl, by decide, inlX9, all_in 200 (by decide +kernel) (by decide +kernel), tyX9_ok, nmX9, by decide +kernel, by decide +kernel, by decide +kernel⟩
theorem pfX10_9 : FPF RX10 9 9 4 (.array .int) := ⟨RX10, TX10, 10, tyX10, rfl, by decide, inlX10, all_in 216 (by decide +kernel) (by decide +kernel), tyX10_ok, nmX10, by decide +kernel, by decide +kernel, by decide +kernel⟩
theorem pfX10_15 : FPF RX10 15 9 5 (.array .int) := ⟨RX10, TX10, 10, tyX10, rfl, by decide, inlX10, all_in 217 (by decide +kernel) (by decide +kernel), tyX10_ok, nmX10, by decide +kernel, by decide +kernel, by decide +kernel⟩
theorem piX10_18 : FP RX10 18 9 6 .int := ⟨RX10, TX10, 10, tyX10, rfl, by decide, inlX10, all_in 218 (by decide +kernel) (by decide +kernel), tyX10_ok, nmX10, by decide +kernel, by decide +kernel⟩
theorem pfX10_22 : FPF RX10 22 9 7 (.array .int) := ⟨RX10, TX10, 10, tyX10, rfl, by decide, inlX10, all_in 219 (by decide +kernel) (by decide +kernel), tyX10_ok, nmX10, by decide +kernel, by decide +kernel, by decide +kernel⟩
theorem pfX10_25 : FPF RX10 25 9 8 (.array .int) := ⟨RX10, TX10, 10, tyX10, rfl, by decide, inlX10, all_in 220 (by decide +kernel) (by decide +kernel), tyX10_ok, nmX10, by decide +kernel, by decide +kernel, by decide +kernel⟩
theorem pfX10_28 : FPF RX10 28 9 9 (.array .int) := ⟨RX10, TX10, 10, tyX10, rfl, by decide, inlX10, all_in 221 (by decide +kernel) (by decide +kernel), tyX10_ok, nmX10, by decide +kernel, by decide +kernel, by decide +kernel⟩
theorem pfX10_31 : FPF RX10 31 9 0 (.object "NearPlans$Decisions") := ⟨RX10, TX10, 10, tyX10, rfl, by decide, inlX10, all_in 212 (by decide +kernel) (by decide +kernel), tyX10_ok, nmX10, by decide +kernel, by decide +kernel, by decide +kernel⟩
theorem pfX10_35 : FPF RX10 35 9 1 (.object "NearPlans$Rules") := ⟨RX10, TX10, 10, tyX10, rfl, by decide, inlX10, all_in 213 (by decide +kernel) (by decide +kernel), tyX10_ok, nmX10, by decide +kernel, by decide +kernel, by decide +kernel⟩
theorem pfX10_39 : FPF RX10 39 9 2 (.object "NearPlans$Kept") := ⟨RX10, TX10, 10, tyX10, rfl, by decide, inlX10, all_in 214 (by decide +kernel) (by decide +kernel), tyX10_ok, nmX10, by decide +kernel, by decide +kernel, by decide +kernel⟩
theorem pfX10_43 : FPF RX10 43 9 3 (.object "NearPlans$Scale") := ⟨RX10, TX10, 10, tyX10, rfl, by decide, inlX10, all_in 215 (by decide +kernel) (by decide +kernel), tyX10_ok, nmX10, by decide +kernel, by decide +kernel, by decide +kernel⟩
theorem pfX11_12 : FPF RX11 12 10 0 (.object "NearPlans$Decisions") := ⟨RX11, TX11, 12, tyX11, rfl, by decide, inlX11, all_in 339 (by decide +kernel) (by decide +kernel), tyX11_ok, nmX11, by decide +kernel, by decide +kernel, by decide +kernel⟩
theorem pfX11_19 : FPF RX11 19 10 1 (.object "NearPlans$Rules") := ⟨RX11, TX11, 12, tyX11, rfl, by decide, inlX11, all_in 340 (by decide +kernel) (by decide +kernel), tyX11_ok, nmX11, by decide +kernel, by decide +kernel, by decide +kernel⟩
theorem pfX11_26 : FPF RX11 26 10 2 (.object "NearPlans$Kept") := ⟨RX11, TX11, 12, tyX11, rfl, by decide, inlX11, all_in 341 (by decide +kernel) (by decide +kernel), tyX11_ok, nmX11, by decide +kernel, by decide +kernel, by decide +kernel⟩
theorem pfX11_33 : FPF RX11 33 10 3 (.object "NearPlans$Past") := ⟨RX11, TX11, 12, tyX11, rfl, by decide, inlX11, all_in 342 (by decide +kernel) (by decide +kernel), tyX11_ok, nmX11, by decide +kernel, by decide +kernel, by decide +kernel⟩
theorem pfX11_42 : FPF RX11 42 10 4 (.object "NearPlans$Scale") := ⟨RX11, TX11, 12, tyX11, rfl, by decide, inlX11, all_in 343 (by decide +kernel) (by decide +kernel), tyX11_ok, nmX11, by decide +kernel, by decide +kernel, by decide +kernel⟩
theorem pfX11_51 : FPF RX11 51 10 5 (.object "NearPlans$Search") := ⟨RX11, TX11, 12, tyX11, rfl, by decide, inlX11, all_in 344 (by decide +kernel) (by decide +kernel), tyX11_ok, nmX11, by decide +kernel, by decide +kernel, by decide +kernel⟩
theorem pfX11_58 : FPF RX11 58 10 6 (.object "NearPlans$Best") := ⟨RX11, TX11, 12, tyX11, rfl, by decide, inlX11, all_in 345 (by decide +kernel) (by decide +kernel), tyX11_ok, nmX11, by decide +kernel, by decide +kernel, by decide +kernel⟩
theorem pfX11_65 : FPF RX11 65 10 7 (.object "NearPlans$Count") := ⟨RX11, TX11, 12, tyX11, rfl, by decide, inlX11, all_in 346 (by decide +kernel) (by decide +kernel), tyX11_ok, nmX11, by decide +kernel, by decide +kernel, by decide +kernel⟩
theorem pfX11_72 : FPF RX11 72 10 8 (.object "NearPlans$Clash") := ⟨RX11, TX11, 12, tyX11, rfl, by decide, inlX11, all_in 347 (by decide +kernel) (by decide +kernel), tyX11_ok, nmX11, by decide +kernel, by decide +kernel, by decide +kernel⟩
theorem pfX11_81 : FPF RX11 81 10 9 (.object "NearPlans$Route") := ⟨RX11, TX11, 12, tyX11, rfl, by decide, inlX11, all_in 348 (by decide +kernel) (by decide +kernel), tyX11_ok, nmX11, by decide +kernel, by decide +kernel, by decide +kernel⟩
theorem pfX11_85 : FPF RX11 85 10 10 (.array .int) := ⟨RX11, TX11, 12, tyX11, rfl, by decide, inlX11, all_in 349 (by decide +kernel) (by decide +kernel), tyX11_ok, nmX11, by decide +kernel, by decide +kernel, by decide +kernel⟩
theorem piX11_89 : FP RX11 89 10 11 .boolean := ⟨RX11, TX11, 12, tyX11, rfl, by decide, inlX11, all_in 350 (by decide +kernel) (by decide +kernel), tyX11_ok, nmX11, by decide +kernel, by decide +kernel⟩
theorem pfX12_7 : FPF RX12 7 11 1 (.array .int) := ⟨RX12, TX12, 35, tyX12, rfl, by decide, inlX12, all_in 756 (by decide +kernel) (by decide +kernel), tyX12_ok, nmX12, by decide +kernel, by decide +kernel, by decide +kernel⟩
theorem pfX12_13 : FPF RX12 13 11 2 (.array .int) := ⟨RX12, TX12, 35, tyX12, rfl, by decide, inlX12, all_in 757 (by decide +kernel) (by decide +kernel), tyX12_ok, nmX12, by decide +kernel, by decide +kernel, by decide +kernel⟩
theorem pfX12_16 : FPF RX12 16 11 3 (.array .int) := ⟨RX12, TX12, 35, tyX12, rfl, by decide, inlX12, all_in 758 (by decide +kernel) (by decide +kernel), tyX12_ok, nmX12, by decide +kernel, by decide +kernel, by decide +kernel⟩
theorem pfX12_19 : FPF RX12 19 11 4 (.array .int) := ⟨RX12, TX12, 35, tyX12, rfl, by decide, inlX12, all_in 759 (by decide +kernel) (by decide +kernel), tyX12_ok, nmX12, by decide +kernel, by decide +kernel, by decide +kernel⟩
theorem pfX12_22 : FPF RX12 22 11 5 (.array .int) := ⟨RX12, TX12, 35, tyX12, rfl, by decide, inlX12, all_in 760 (by decide +kernel) (by decide +kernel), tyX12_ok, nmX12, by decide +kernel, by decide +kernel, by decide +kernel⟩
theorem pfX12_25 : FPF RX12 25 11 6 (.array .int) := ⟨RX12, TX12, 35, tyX12, rfl, by decide, inlX12, all_in 761 (by decide +kernel) (by decide +kernel), tyX12_ok, nmX12, by decide +kernel, by decide +kernel, by decide +kernel⟩
theorem pfX12_28 : FPF RX12 28 11 7 (.array .int) := ⟨RX12, TX12, 35, tyX12, rfl, by decide, inlX12, all_in 762 (by decide +kernel) (by decide +kernel), tyX12_ok, nmX12, by decide +kernel, by decide +kernel, by decide +kernel⟩
theorem pfX12_31 : FPF RX12 31 11 8 (.array .int) := ⟨RX12, TX12, 35, tyX12, rfl, by decide, inlX12, all_in 763 (by decide +kernel) (by decide +kernel), tyX12_ok, nmX12, by decide +kernel, by decide +kernel, by decide +kernel⟩
theorem pfX12_34 : FPF RX12 34 11 9 (.array .int) := ⟨RX12, TX12, 35, tyX12, rfl, by decide, inlX12, all_in 764 (by decide +kernel) (by decide +kernel), tyX12_ok, nmX12, by decide +kernel, by decide +kernel, by decide +kernel⟩
theorem pfX12_37 : FPF RX12 37 11 11 (.array .int) := ⟨RX12, TX12, 35, tyX12, rfl, by decide, inlX12, all_in 766 (by decide +kernel) (by decide +kernel), tyX12_ok, nmX12, by decide +kernel, by decide +kernel, by decide +kernel⟩
theorem pfX12_40 : FPF RX12 40 11 13 (.array .int) := ⟨RX12, TX12, 35, tyX12, rfl, by decide, inlX12, all_in 768 (by decide +kernel) (by decide +kernel), tyX12_ok, nmX12, by decide +kernel, by decide +kernel, by decide +kernel⟩
theorem pfX12_43 : FPF RX12 43 11 14 (.array .int) := ⟨RX12, TX12, 35, tyX12, rfl, by decide, inlX12, all_in 769 (by decide +kernel) (by decide +kernel), tyX12_ok, nmX12, by decide +kernel, by decide +kernel, by decide +kernel⟩
theorem pfX12_46 : FPF RX12 46 11 15 (.array .int) := ⟨RX12, TX12, 35, tyX12, rfl, by decide, inlX12, all_in 770 (by decide +kernel) (by decide +kernel), tyX12_ok, nmX12, by decide +kernel, by decide +kernel, by decide +kernel⟩
theorem pfX12_49 : FPF RX12 49 11 16 (.array .int) := ⟨RX12, TX12, 35, tyX12, rfl, by decide, inlX12, all_in 771 (by decide +kernel) (by decide +kernel), tyX12_ok, nmX12, by decide +kernel, by decide +kernel, by decide +kernel⟩
theorem pfX12_52 : FPF RX12 52 11 19 (.array .int) := ⟨RX12, TX12, 35, tyX12, rfl, by decide, inlX12, all_in 774 (by decide +kernel) (by decide +kernel), tyX12_ok, nmX12, by decide +kernel, by decide +kernel, by decide +kernel⟩
theorem pfX12_55 : FPF RX12 55 11 20 (.array .int) := ⟨RX12, TX12, 35, tyX12, rfl, by decide, inlX12, all_in 775 (by decide +kernel) (by decide +kernel), tyX12_ok, nmX12, by decide +kernel, by decide +kernel, by decide +kernel⟩
theorem piX12_58 : FP RX12 58 11 21 .int := ⟨RX12, TX12, 35, tyX12, rfl, by decide, inlX12, all_in 776 (by decide +kernel) (by decide +kernel), tyX12_ok, nmX12, by decide +kernel, by decide +kernel⟩
theorem pfX12_62 : FPF RX12 62 11 23 (.array .int) := ⟨RX12, TX12, 35, tyX12, rfl, by decide, inlX12, all_in 778 (by decide +kernel) (by decide +kernel), tyX12_ok, nmX12, by decide +kernel, by decide +kernel, by decide +kernel⟩
theorem pfX12_65 : FPF RX12 65 11 24 (.array .int) := ⟨RX12, TX12, 35, tyX12, rfl, by decide, inlX12, all_in 779 (by decide +kernel) (by decide +kernel), tyX12_ok, nmX12, by decide +kernel, by decide +kernel, by decide +kernel⟩
theorem pfX12_68 : FPF RX12 68 11 25 (.array .int) := ⟨RX12, TX12, 35, tyX12, rfl, by decide, inlX12, all_in 780 (by decide +kernel) (by decide +kernel), tyX12_ok, nmX12, by decide +kernel, by decide +kernel, by decide +kernel⟩
theorem pfX12_71 : FPF RX12 71 11 26 (.array .int) := ⟨RX12, TX12, 35, tyX12, rfl, by decide, inlX12, all_in 781 (by decide +kernel) (by decide +kernel), tyX12_ok, nmX12, by decide +kernel, by decide +kernel, by decide +kernel⟩
theorem pfX12_74 : FPF RX12 74 11 27 (.array .int) := ⟨RX12, TX12, 35, tyX12, rfl, by decide, inlX12, all_in 782 (by decide +kernel) (by decide +kernel), tyX12_ok, nmX12, by decide +kernel, by decide +kernel, by decide +kernel⟩
theorem pfX12_77 : FPF RX12 77 11 28 (.array .int) := ⟨RX12, TX12, 35, tyX12, rfl, by decide, inlX12, all_in 783 (by decide +kernel) (by decide +kernel), tyX12_ok, nmX12, by decide +kernel, by decide +kernel, by decide +kernel⟩
theorem pfX12_80 : FPF RX12 80 11 29 (.array .int) := ⟨RX12, TX12, 35, tyX12, rfl, by decide, inlX12, all_in 784 (by decide +kernel) (by decide +kernel), tyX12_ok, nmX12, by decide +kernel, by decide +kernel, by decide +kernel⟩
theorem pfX12_83 : FPF RX12 83 11 30 (.array .int) := ⟨RX12, TX12, 35, tyX12, rfl, by decide, inlX12, all_in 785 (by decide +kernel) (by decide +kernel), tyX12_ok, nmX12, by decide +kernel, by decide +kernel, by decide +kernel⟩
theorem pfX12_86 : FPF RX12 86 11 31 (.array .int) := ⟨RX12, TX12, 35, tyX12, rfl, by decide, inlX12, all_in 786 (by decide +kernel) (by decide +kernel), tyX12_ok, nmX12, by decide +kernel, by decide +kernel, by decide +kernel⟩
theorem pfX12_89 : FPF RX12 89 11 34 (.array .boolean) := ⟨RX12, TX12, 35, tyX12, rfl, by decide, inlX12, all_in 789 (by decide +kernel) (by decide +kernel), tyX12_ok, nmX12, by decide +kernel, by decide +kernel, by decide +kernel⟩
theorem fX3_39 : FL RX3 39 3 8 := ⟨RX3, TX3, 9, rfl, by decide, inlX3, all_in 88 (by decide +kernel) (by decide +kernel)⟩
theorem X4_init {G : Gd} {h0 ci : Nat} {fs : List Value} : CRun G mX4_init 1 0 0 [] ci fs h0 (fun w => w = [(h0, .inr (ci, fs))]) := by
  refine CRun_of [(0, .ref h0)] (by decide) rfl (Nat.le_of_ble_eq_true rfl) rfl ?_
  refine u_aload (k := 0) dX4_init_0 rfl ?_
  refine u_obj dX4_init_1 (all_in 251 (by decide +kernel) (by decide +kernel)) (all_in 53 (by decide +kernel) (by decide +kernel)) wobj (by decide) (by decide) ?_
  exact u_vret dX4_init_4 rfl rfl rfl [(h0, .inr (ci, fs))] (fun _ _ h1 h2 => ⟨h1, h2⟩) rfl
