/-! the words that all methods share: the good ones of the tables -/
def ALL : List Cond := lw_tbl.filter goodWord
theorem all_in {w : Cond} (i : Nat) (h : lw_tbl[i]? = some w) (hg : goodWord w = true) : w ∈ ALL := List.mem_filter.mpr ⟨List.mem_of_getElem? h, hg⟩
theorem all_hts {args : Array Value} {s : State} (h : ∀ w ∈ lw_tbl, w.before args s = true) : ∀ w ∈ ALL, w.before args s = true := fun w hw => h w (List.mem_filter.mp hw).1
theorem good_sub {ws : List Cond} (h : ∀ w ∈ ws, w ∈ ALL) : GoodIn ALL ws := fun w hw => ⟨h w hw, good_of_word (List.mem_filter.mp (h w hw)).2⟩
theorem sys_words : (Cond.native arraycopyName ∈ ALL ∧ Cond.static arraycopyName ∈ ALL) ∧ Cond.initialized "java/lang/System" ∈ ALL := ⟨⟨(all_in 460 (by decide +kernel) (by decide +kernel)), (all_in 459 (by decide +kernel) (by decide +kernel))⟩, (all_in 45 (by decide +kernel) (by decide +kernel))⟩
theorem math_words : ((Cond.static Lib.Math.max.name ∈ ALL ∧ Cond.code Lib.Math.max.name Lib.Math.max.code 2 (some .int) ∈ ALL) ∧ (Cond.static Lib.Math.min.name ∈ ALL ∧ Cond.code Lib.Math.min.name Lib.Math.min.code 2 (some .int) ∈ ALL)) ∧ (Cond.static Lib.Math.abs.name ∈ ALL ∧ Cond.code Lib.Math.abs.name Lib.Math.abs.code 1 (some .int) ∈ ALL) ∧ Cond.initialized "java/lang/Math" ∈ ALL := ⟨⟨⟨(all_in 436 (by decide +kernel) (by decide +kernel)), (all_in 437 (by decide +kernel) (by decide +kernel))⟩, (all_in 705 (by decide +kernel) (by decide +kernel)), (all_in 706 (by decide +kernel) (by decide +kernel))⟩, ⟨(all_in 557 (by decide +kernel) (by decide +kernel)), (all_in 558 (by decide +kernel) (by decide +kernel))⟩, (all_in 44 (by decide +kernel) (by decide +kernel))⟩
/-! the flat memory: a cell has a place (a number), an int field or element an index; references are places -/
abbrev AV : Type := Int ⊕ Option Nat
abbrev Mem : Type := Nat → Int → Int
abbrev Shp : Type := Nat × Nat × List (Option Nat)
abbrev MD : Type := MethodName × ByteArray × Nat × Option FieldType
abbrev Wd : Type := (Nat → Nat) × va_G × ClassId × ClassId × ClassId
def vI (x : Int) : Value := .int (Int32.ofInt x)
abbrev inR (x : Int) : Prop := -2147483648 ≤ x ∧ x ≤ 2147483647
def okL (l : List AV) : Prop := ∀ x : Int, (Sum.inl x : AV) ∈ l → inR x
def okM (σ : Mem) : Prop := ∀ (c : Nat) (k : Int), inR (σ c k)
def av (Γ : Wd) : AV → Value
  | .inl x => vI x
  | .inr (some c) => .ref (Γ.1 c)
  | .inr none => .null
def shapes : List Shp := [(3, 10, [some 1, some 2, some 3, some 4, some 5, some 6, some 7, some 8, some 9, some 10, some 11, none]), (3, 3, [none, some 12, some 13, some 14, some 15, some 16, some 17, some 18, some 25]), (3, 7, [none, some 26, none, some 27, some 28, some 29, some 30, some 31, some 32]), (3, 4, [none, none, some 33, some 37]), (3, 5, [none, some 41, some 50]), (3, 8, [some 1, some 3]), (3, 9, [some 1, some 2, some 3, some 5, some 51, some 52, none, some 53, some 54, some 55]), (3, 0, [none, none, none, none, some 56]), (3, 2, [none, none]), (3, 1, [none, some 57]), (3, 6, [none, some 58, some 59, some 1, some 2, some 3, some 60, some 61, some 62, some 63]), (0, 6, []), (0, 6, []), (0, 6, []), (0, 6, []), (0, 6, []), (0, 6, []), (0, 6, []), (2, 6, [some 19]), (0, 6, []), (0, 6, []), (0, 6, []), (0, 6, []), (0, 6, []), (0, 6, []), (0, 4, []), (0, 6, []), (0, 12, []), (0, 12, []), (0, 12, []), (0, 12, []), (0, 6, []), (0, 6, []), (2, 3, [some 34]), (0, 6, []), (0, 6, []), (0, 6, []), (2, 3, [some 38]), (0, 6, []), (0, 6, []), (0, 6, []), (2, 8, [some 42]), (0, 6, []), (0, 6, []), (0, 6, []), (0, 6, []), (0, 6, []), (0, 6, []), (0, 6, []), (0, 6, []), (0, 8, []), (0, 6, []), (0, 4, []), (0, 4, []), (0, 6, []), (0, 7, []), (0, 6, []), (1, 4096, []), (0, 6, []), (0, 6, []), (0, 6, []), (0, 64, []), (0, 64, []), (0, 64, []), (3, 11, [none, some 65, some 66, some 67, some 68, some 69, some 70, some 71, some 72, some 73, none, some 74, none, some 75, some 76, some 77, some 78, none, none, some 79, some 80, none, none, some 81, some 82, some 83, some 84, some 85, some 86, some 87, some 88, some 89, none, none, some 90]), (0, 6, []), (0, 6, []), (0, 6, []), (0, 6, []), (0, 6, []), (0, 6, []), (0, 36, []), (0, 6, []), (0, 4, []), (0, 6, []), (0, 12, []), (0, 12, []), (0, 12, []), (0, 12, []), (0, 18, []), (0, 18, []), (0, 8, []), (0, 48, []), (0, 6, []), (0, 6, []), (0, 6, []), (0, 6, []), (0, 6, []), (0, 6, []), (0, 6, []), (1, 4096, [])]
def objF (Γ : Wd) (σ : Mem) (c : Nat) (k : Nat) (q : Option Nat) : Value := match q with | none => vI (σ c (k : Int)) | some r => .ref (Γ.1 r)
def intF (σ : Mem) (c : Nat) : Nat → Int32 := fun j => Int32.ofInt (σ c (j : Int))
def rowF (Γ : Wd) (n b : Nat) : Nat → Option Nat := fun j => if j < n then some (Γ.1 (b + j)) else none
def cellE (Γ : Wd) (σ : Mem) (c : Nat) : Shp → va_E
  | (0, n, _) => .inl (Γ.2.2.1, n, .inl (intF σ c))
  | (1, n, _) => .inl (Γ.2.2.2.1, n, .inl (intF σ c))
  | (2, n, fl) => .inl (Γ.2.2.2.2, n, .inr (.inr (.inr (.inr (rowF Γ n ((fl.headD none).getD 0))))))
  | (_, n, fl) => .inr (n, fl.mapIdx (objF Γ σ c))
def wl (Γ : Wd) (σ : Mem) : va_W := shapes.mapIdx (fun c q => (Γ.1 c, cellE Γ σ c q))
def wr (σ : Mem) (c : Nat) (i v : Int) : Mem := fun c' => if c' = c then (fun j => if j = i then v else σ c j) else σ c'
def cp (σ : Mem) (a : Nat) (sp : Int) (b : Nat) (dp n : Int) : Mem := fun c' => if c' = b then (fun j => if dp ≤ j ∧ j < dp + n then σ a (sp + (j - dp)) else σ b j) else σ c'
theorem wr_ne {σ : Mem} {c c' : Nat} {i v : Int} (h : c' ≠ c) : wr σ c i v c' = σ c' := by simp [wr, h]
theorem wr_eq {σ : Mem} {c : Nat} {i v : Int} : wr σ c i v c i = v := by simp [wr]
theorem wr_at {σ : Mem} {c : Nat} {i v j : Int} : wr σ c i v c j = if j = i then v else σ c j := by simp [wr]
theorem cp_ne {σ : Mem} {a b c' : Nat} {sp dp n : Int} (h : c' ≠ b) : cp σ a sp b dp n c' = σ c' := by simp [cp, h]
theorem cp_at {σ : Mem} {a b : Nat} {sp dp n j : Int} : cp σ a sp b dp n b j = if dp ≤ j ∧ j < dp + n then σ a (sp + (j - dp)) else σ b j := by simp [cp]
theorem wl_at {Γ : Wd} {σ : Mem} {c : Nat} {q : Shp} (h : shapes[c]? = some q) : (wl Γ σ)[c]? = some (Γ.1 c, cellE Γ σ c q) := by
  simp [wl, List.getElem?_mapIdx, h]
theorem wl_obj {Γ : Wd} {σ : Mem} {c ci : Nat} {fl : List (Option Nat)} (h : shapes[c]? = some (3, ci, fl)) : (wl Γ σ)[c]? = some (Γ.1 c, .inr (ci, fl.mapIdx (objF Γ σ c))) := wl_at h
theorem wl_int {Γ : Wd} {σ : Mem} {c n : Nat} (h : shapes[c]? = some (0, n, [])) : (wl Γ σ)[c]? = some (Γ.1 c, .inl (Γ.2.2.1, n, .inl (intF σ c))) := wl_at h
theorem wl_boo {Γ : Wd} {σ : Mem} {c n : Nat} (h : shapes[c]? = some (1, n, [])) : (wl Γ σ)[c]? = some (Γ.1 c, .inl (Γ.2.2.2.1, n, .inl (intF σ c))) := wl_at h
theorem wl_row {Γ : Wd} {σ : Mem} {c n b : Nat} (h : shapes[c]? = some (2, n, [some b])) : (wl Γ σ)[c]? = some (Γ.1 c, .inl (Γ.2.2.2.2, n, .inr (.inr (.inr (.inr (rowF Γ n b)))))) := wl_at h
theorem cellE_congr {Γ : Wd} {σ σ' : Mem} {c : Nat} (q : Shp) (h : σ' c = σ c) : cellE Γ σ' c q = cellE Γ σ c q := by
  obtain ⟨k, n, fl⟩ := q
  match k with
  | 0 =>
    have e : intF σ' c = intF σ c := by funext j; simp only [intF, h]
    simp only [cellE, e]
  | 1 =>
    have e : intF σ' c = intF σ c := by funext j; simp only [intF, h]
    simp only [cellE, e]
  | 2 => simp only [cellE]
  | k + 3 =>
    have e : objF Γ σ' c = objF Γ σ c := by funext k q; simp only [objF, h]
    simp only [cellE, e]
theorem wl_set {Γ : Wd} {σ σ' : Mem} {c : Nat} {q : Shp} {e : va_E} (h : shapes[c]? = some q) (hc : cellE Γ σ' c q = e) (ho : ∀ c', c' ≠ c → σ' c' = σ c') : (wl Γ σ).set c (Γ.1 c, e) = wl Γ σ' := by
  have hlt : c < shapes.length := (List.getElem?_eq_some_iff.mp h).1
  apply List.ext_getElem?
  intro i
  rw [List.getElem?_set]
  by_cases hi : c = i
  · subst hi
    have hl2 : c < (wl Γ σ).length := by simp [wl, hlt]
    rw [if_pos rfl, if_pos hl2, wl_at h, hc]
  · rw [if_neg hi]
    have hne : i ≠ c := fun q => hi q.symm
    simp only [wl, List.getElem?_mapIdx]
    cases hs : shapes[i]? with
    | none => rfl
    | some q' => simp only [Option.map_some, cellE_congr q' (ho i hne)]
theorem wl_D {Γ : Wd} {A : Nat → Prop} {σ : Mem} (h : va_D A (wl Γ σ)) (σ' : Mem) : va_D A (wl Γ σ') := by
  have key : ∀ (i : Nat) (p : Nat × va_E), (wl Γ σ')[i]? = some p → ∃ p', (wl Γ σ)[i]? = some p' ∧ p'.1 = p.1 := by
    intro i p hp
    simp only [wl, List.getElem?_mapIdx] at hp ⊢
    cases hs : shapes[i]? with
    | none => rw [hs] at hp; cases hp
    | some q =>
      rw [hs] at hp
      simp only [Option.map_some, Option.some.injEq] at hp
      exact ⟨_, rfl, by rw [← hp]⟩
  refine ⟨fun i j p q hp hq hpq => ?_, fun k q hq => ?_⟩
  · obtain ⟨p', h1, e1⟩ := key i p hp
    obtain ⟨q', h2, e2⟩ := key j q hq
    exact h.1 i j p' q' h1 h2 (by rw [e1, e2]; exact hpq)
  · obtain ⟨q', h2, e2⟩ := key k q hq
    rw [← e2]
    exact h.2 k q' h2
theorem wl_A {Γ : Wd} {σ : Mem} (σ' : Mem) {sz q : Nat} (h : va_A (wl Γ σ) sz q) : va_A (wl Γ σ') sz q := by
  rcases h with ⟨k, e, hk⟩ | h
  · refine Or.inl ?_
    simp only [wl, List.getElem?_mapIdx] at hk ⊢
    cases hs : shapes[k]? with
    | none => rw [hs] at hk; cases hk
    | some r =>
      rw [hs] at hk
      simp only [Option.map_some, Option.some.injEq, Prod.mk.injEq] at hk
      exact ⟨k, cellE Γ σ' k r, by rw [hs]; simp [hk.1]⟩
  · exact Or.inr h
/-! numbers -/
theorem r_to {x : Int} (h : inR x) : (Int32.ofInt x).toInt = x := Int32.toInt_ofInt_of_le h.1 (by have := h.2; omega)
theorem r_of (x : Int32) : inR x.toInt := ⟨Int32.le_toInt x, by have := Int32.toInt_lt x; omega⟩
theorem r_lt {a b : Int} (ha : inR a) (hb : inR b) : Int32.ofInt a < Int32.ofInt b ↔ a < b := by rw [Int32.lt_iff_toInt_lt, r_to ha, r_to hb]
theorem r_le {a b : Int} (ha : inR a) (hb : inR b) : Int32.ofInt a ≤ Int32.ofInt b ↔ a ≤ b := by rw [Int32.le_iff_toInt_le, r_to ha, r_to hb]
theorem r_eq {a b : Int} (ha : inR a) (hb : inR b) : Int32.ofInt a = Int32.ofInt b ↔ a = b := by rw [← Int32.toInt_inj, r_to ha, r_to hb]
theorem r_0 : inR 0 := ⟨by decide, by decide⟩
theorem r_in {i : Int} {n : Nat} (h0 : 0 ≤ i) (h1 : i < n) (hr : inR i) : vp_in (Int32.ofInt i) n := by rw [vp_in_iff, r_to hr]; exact ⟨h0, h1⟩
theorem r_cl {i : Int} (hr : inR i) : (Int32.ofInt i).toNatClampNeg = i.toNat := by rw [← Int32.toNat_toInt, r_to hr]
def band (a b : Int) : Int := (Int32.ofInt a &&& Int32.ofInt b).toInt
def bor (a b : Int) : Int := (Int32.ofInt a ||| Int32.ofInt b).toInt
def bxor (a b : Int) : Int := (Int32.ofInt a ^^^ Int32.ofInt b).toInt
def bshl (a b : Int) : Int := (Int32.ofInt a <<< (Int32.ofInt b &&& 31)).toInt
def bshr (a b : Int) : Int := (Int32.ofInt a >>> (Int32.ofInt b &&& 31)).toInt
theorem okL_cons {x : AV} {l : List AV} (h : ∀ z : Int, x = .inl z → inR z) (hl : okL l) : okL (x :: l) := fun z hz => (List.mem_cons.mp hz).elim (fun e => h z e.symm) (fun e => hl z e)
theorem okL_i {x : Int} {l : List AV} (h : inR x) (hl : okL l) : okL (.inl x :: l) := okL_cons (fun z e => by cases e; exact h) hl
theorem okL_r {c : Option Nat} {l : List AV} (hl : okL l) : okL (.inr c :: l) := okL_cons (fun z e => by cases e) hl
theorem okL_t {x : AV} {l : List AV} (h : okL (x :: l)) : okL l := fun z hz => h z (List.mem_cons_of_mem _ hz)
theorem okL_h {x : Int} {l : List AV} (h : okL (.inl x :: l)) : inR x := h x List.mem_cons_self
theorem okL_set {l : List AV} {x : AV} (i : Nat) (h : ∀ z : Int, x = .inl z → inR z) (hl : okL l) : okL (l.set i x) := fun z hz => (List.mem_or_eq_of_mem_set hz).elim (fun e => hl z e) (fun e => h z e.symm)
theorem okL_get {l : List AV} {x : Int} {i : Nat} (hl : okL l) (h : l[i]? = some (.inl x)) : inR x := hl x (List.mem_of_getElem? h)
theorem okM_wr {σ : Mem} {c : Nat} {i v : Int} (h : okM σ) (hv : inR v) : okM (wr σ c i v) := fun c' k => by
  unfold wr
  by_cases h1 : c' = c
  · rw [if_pos h1]
    by_cases h2 : k = i
    · simp only [h2, if_true]; exact hv
    · simp only [h2, if_false]; exact h c k
  · rw [if_neg h1]; exact h c' k
theorem okM_cp {σ : Mem} {a b : Nat} {sp dp n : Int} (h : okM σ) : okM (cp σ a sp b dp n) := fun c' k => by
  unfold cp
  by_cases h1 : c' = b
  · rw [if_pos h1]
    by_cases h2 : dp ≤ k ∧ k < dp + n
    · simp only [h2, and_self, if_true]; exact h _ _
    · simp only [h2, if_false]; exact h _ _
  · rw [if_neg h1]; exact h c' k
/-! locals -/
def Lh (Γ : Wd) (lsA : Array Slot) (nL : Nat) (ls : List AV) : Prop := lsA.size = nL ∧ lv_wf lsA ∧ ∀ (i : Nat) (v : AV), ls[i]? = some v → v ≠ .inr none → lsA[i]? = some (.val (av Γ v))
theorem Lh.get {Γ : Wd} {lsA : Array Slot} {nL : Nat} {ls : List AV} (h : Lh Γ lsA nL ls) {i : Nat} {v : AV} (hv : ls[i]? = some v) (hn : v ≠ .inr none) : lsA[i]? = some (.val (av Γ v)) := h.2.2 i v hv hn
def lvl (Γ : Wd) (ls : List AV) : List (Nat × Value) := (List.range ls.length).filterMap (fun i => match (ls[i]? : Option AV) with | some (Sum.inl x) => some (i, vI x) | some (Sum.inr (some c)) => some (i, Value.ref (Γ.1 c)) | _ => none)
theorem lvl_mem {Γ : Wd} {ls : List AV} {i : Nat} {v : AV} (hv : ls[i]? = some v) (hn : v ≠ .inr none) : (i, av Γ v) ∈ lvl Γ ls := by
  have hlt : i < ls.length := (List.getElem?_eq_some_iff.mp hv).1
  refine List.mem_filterMap.mpr ⟨i, List.mem_range.mpr hlt, ?_⟩
  rw [hv]
  match v, hn with
  | .inl x, _ => rfl
  | .inr (some c), _ => rfl
  | .inr none, hn => exact absurd rfl hn
theorem lvl_of {Γ : Wd} {ls : List AV} {q : Nat × Value} (h : q ∈ lvl Γ ls) : ∃ v, ls[q.1]? = some v ∧ v ≠ .inr none ∧ av Γ v = q.2 := by
  obtain ⟨i, -, hi⟩ := List.mem_filterMap.mp h
  match hls : ls[i]? with
  | some (.inl x) => rw [hls] at hi; simp only [Option.some.injEq] at hi; subst hi; exact ⟨_, hls, by simp, rfl⟩
  | some (.inr (some c)) => rw [hls] at hi; simp only [Option.some.injEq] at hi; subst hi; exact ⟨_, hls, by simp, rfl⟩
  | some (.inr none) => rw [hls] at hi; cases hi
  | none => rw [hls] at hi; cases hi
theorem Lh.has {Γ : Wd} {lsA : Array Slot} {nL : Nat} {ls : List AV} (h : Lh Γ lsA nL ls) : lv_has lsA nL (lvl Γ ls) := ⟨h.1, h.2.1, fun q hq => by
  obtain ⟨v, h1, h2, h3⟩ := lvl_of hq
  rw [← h3]
  exact h.2.2 q.1 v h1 h2⟩
theorem av_cat (Γ : Wd) (v : AV) : (av Γ v).category = 1 := by
  match v with
  | .inl x => rfl
  | .inr (some c) => rfl
  | .inr none => rfl
theorem Lh.set {Γ : Wd} {lsA' : Array Slot} {nL : Nat} {ls : List AV} {i : Nat} {x : AV} (hh : lv_has lsA' nL ((i, av Γ x) :: (lvl Γ ls).filter (fun q => !(q.1 == i) && !(q.1 + 1 == i && q.2.category == 2)))) : Lh Γ lsA' nL (ls.set i x) := by
  refine ⟨hh.1, hh.2.1, fun j v hv hn => ?_⟩
  by_cases hj : j = i
  · subst hj
    have hlt : j < ls.length := by
      have := (List.getElem?_eq_some_iff.mp hv).1
      simpa using this
    rw [List.getElem?_set_self hlt] at hv
    cases hv
    exact hh.2.2 (j, av Γ x) List.mem_cons_self
  · rw [List.getElem?_set_ne (fun q => hj q.symm)] at hv
    refine hh.2.2 (j, av Γ v) (List.mem_cons_of_mem _ (List.mem_filter.mpr ⟨lvl_mem hv hn, ?_⟩))
    simp [hj, av_cat]
/-! the judgement -/
abbrev nGoalH : MethodName := ⟨"NearPlans$Goal", "isHopeless", "(III)Z"⟩
abbrev nGoalR : MethodName := ⟨"NearPlans$Goal", "reach", "([IIII)V"⟩
abbrev tysG (Γ : Wd) : List (ClassId × FieldType) := [(Γ.2.2.1, .int), (Γ.2.2.2.1, .boolean), (Γ.2.2.2.2, .array .int)]
def KK (Γ : Wd) (U : State) : Prop := va_K Γ.2.1 vwCl (tysG Γ) U ∧ va_Nw (.declares nGoalH) U ∧ va_Nw (.declares nGoalR) U
abbrev rmOf (d : Nat) : Room := { frames := d, cells := 0, slots := 0, locals := 64 * d }
def Fx (Γ : Wd) (M : MD) (A : Nat → Prop) (p : Program) (s : State) (m : MethodId) (args : Array Value) (meth : Method) (c : Code) : Prop :=
  p.tables.exec = Jvm.exec ∧ c.code = M.2.1 ∧ c.maxLocals = M.2.2.1 ∧ meth.sig.returnType = M.2.2.2 ∧ s.vm.findClass M.1.cls = some m.cls ∧ (∀ w ∈ ALL, w.before args s = true) ∧ meth.locks = false ∧ KK Γ s ∧ (∀ σ, va_D A (wl Γ σ)) ∧ (∀ q, s.heap.size ≤ q → A q)
def Qc (Γ : Wd) (A : Nat → Prop) (Q : Option Int → Mem → Prop) : Array Value → State → Outcome → State → Prop := fun _ st oc t =>
  (∃ (r : Option Int) (σ' : Mem), oc = .returned (r.map vI) ∧ Q r σ' ∧ okM σ' ∧ (∀ x, r = some x → inR x) ∧ va_P Γ.2.1 vwCl (wl Γ σ') t.heap) ∧ va_F A st t
def V (M : MD) (d : Nat) (Q : Option Int → Mem → Prop) (pc : Nat) (ls st : List AV) (σ : Mem) : Prop :=
  okL ls → okL st → okM σ → ∀ (Γ : Wd) (A : Nat → Prop) (p : Program) (l : Launch) (e : Env) (s : State) (m : MethodId) (args : Array Value) (below : List Frame) (meth : Method) (c : Code), Fx Γ M A p s m args meth c → ∀ (H : Heap) (locs : List Loc) (lsA : Array Slot), va_P Γ.2.1 vwCl (wl Γ σ) H → va_S A s.heap H locs → Lh Γ lsA M.2.2.1 ls →
    W p l e (rmOf d) s m args below meth c H locs 0 0 (MQ below (Qc Γ A Q) args s 0 0 A) (F0 m pc lsA (st.map (av Γ)))
def wsM (M : MD) : List Cond := .code M.1 M.2.1 M.2.2.1 M.2.2.2 :: ALL
def Pcc (Γ : Wd) (vs : List AV) (sz : Nat) (σ : Mem) : Array Value → State → Prop := va_Pc (vs.map (av Γ)) (fun U => U.heap.size = sz ∧ va_P Γ.2.1 vwCl (wl Γ σ) U.heap ∧ KK Γ U ∧ va_D (fun _ => True) (wl Γ σ))
def Run (M : MD) (d : Nat) (vs : List AV) (σ : Mem) (Q : Option Int → Mem → Prop) : Prop :=
  okL vs → okM σ → ∀ (l : Launch) (Γ : Wd) (sz : Nat), Met l M.1 (wsM M) (rmOf d) (Pcc Γ vs sz σ) (Qc Γ (va_A (wl Γ σ) sz) Q) 0 0 (va_A (wl Γ σ) sz)
def RI (K : Int → Mem → Prop) : Option Int → Mem → Prop := fun r σ => ∃ x, r = some x ∧ K x σ
def RV (K : Mem → Prop) : Option Int → Mem → Prop := fun r σ => r = none ∧ K σ
theorem Lh.entry (Γ : Wd) (vs : List AV) (n : Nat) (ls : List AV) (hn : vs.length ≤ n) (hs : ls = vs ++ List.replicate (n - vs.length) (.inr none)) : Lh Γ ((lg_sl (vs.map (av Γ)) ++ List.replicate (n - (lg_sl (vs.map (av Γ))).length) Slot.unset).toArray) n ls := by
  have e : ∀ l : List AV, lg_sl (l.map (av Γ)) = l.map (fun v => Slot.val (av Γ v)) := by
    intro l
    induction l with
    | nil => rfl
    | cons a l ih =>
      show (if (av Γ a).category = 2 then _ else _) ++ lg_sl (l.map (av Γ)) = _
      rw [ih, av_cat]
      rfl
  have hlen : (lg_sl (vs.map (av Γ))).length = vs.length := by rw [e]; simp
  have h0 := lv_entry (vs.map (av Γ)) (n := n) (by rw [hlen]; exact hn)
  refine ⟨h0.1, h0.2.1, fun i v hv hne => ?_⟩
  subst hs
  have hlt : i < vs.length := by
    by_cases h : i < vs.length
    · exact h
    · rw [List.getElem?_append_right (by omega)] at hv
      rw [List.getElem?_replicate] at hv
      split at hv
      · cases hv; exact absurd rfl hne
      · cases hv
  rw [List.getElem?_append_left hlt] at hv
  simp only [List.getElem?_toArray]
  rw [List.getElem?_append_left (by rw [hlen]; exact hlt), e, List.getElem?_map, hv]
  rfl
theorem Run_of {M : MD} {d : Nat} {vs ls : List AV} {σ : Mem} {Q : Option Int → Mem → Prop} (hy : plainName M.1.cls = true) (hn : vs.length ≤ M.2.2.1) (hs : ls = vs ++ List.replicate (M.2.2.1 - vs.length) (.inr none)) (h : V M d Q 0 ls [] σ) : Run M d vs σ Q := by
  intro ov om l Γ sz
  refine Met.ofW (cc := M.2.1) (maxL := M.2.2.1) (ret := M.2.2.2) hy rfl ?_
  intro p e s m args below meth c s₁ B hml hv
  obtain ⟨rfl, hsz, hP, hK, hD0⟩ := hv
  have hts := atoms_spec (ws := wsM M) B.pre
  subst hsz
  have hD := hD0.self (sz := s.heap.size)
  rw [lg_entry_eq]
  have ols : okL ls := by
    rw [hs]
    intro z hz
    rcases List.mem_append.mp hz with h | h
    · exact ov z h
    · have := List.eq_of_mem_replicate h
      cases this
  refine h ols (fun z hz => by cases hz) om Γ (va_A (wl Γ σ) s.heap.size) p l e s m _ below meth c ⟨B.exec, B.bytes, hml, B.returns, findClass_of_methodNamed B.named, fun w hw => hts w (List.mem_cons_of_mem _ hw), B.notSynchronized, hK, fun σ' => wl_D hD σ', fun q h => Or.inr h⟩ s.heap [] _ hP va_S.rf (Lh.entry Γ vs _ ls hn hs)
theorem V_mono {M : MD} {d : Nat} {Q Q' : Option Int → Mem → Prop} {pc : Nat} {ls st : List AV} {σ : Mem} (hq : ∀ r σ', Q r σ' → Q' r σ') (h : V M d Q pc ls st σ) : V M d Q' pc ls st σ := by
  intro ol os om Γ A p l e s m args below meth c fx H locs lsA hP hS hL T hT X
  obtain ⟨t, h1, o, h2, h3, ⟨⟨r, σ', e1, e2, e3⟩, h4⟩, h5⟩ := h ol os om Γ A p l e s m args below meth c fx H locs lsA hP hS hL T hT X
  exact ⟨t, h1, o, h2, h3, ⟨⟨r, σ', e1, hq r σ' e2, e3⟩, h4⟩, h5⟩
/-- the numbers at hand are in range -/
theorem V_rng {M : MD} {d : Nat} {Q : Option Int → Mem → Prop} {pc : Nat} {ls st : List AV} {σ : Mem} (h : okL ls → okL st → okM σ → V M d Q pc ls st σ) : V M d Q pc ls st σ := fun ol os om => h ol os om ol os om
theorem Run_rng {M : MD} {d : Nat} {Q : Option Int → Mem → Prop} {vs : List AV} {σ : Mem} (h : okL vs → okM σ → Run M d vs σ Q) : Run M d vs σ Q := fun ol om => h ol om ol om
/-! the rows: constants and locals -/
theorem v_iconst {M : MD} {d : Nat} {Q : Option Int → Mem → Prop} {pc : Nat} {ls st : List AV} {σ : Mem} (pc' : Nat) {n : Int} (hdg : decode M.2.1 pc = .ok (.iconst n, 1)) (hq : pc + 1 = pc') (hv : Int32.ofInt n = Int32.ofInt n ∧ inR n) (k : V M d Q pc' ls (.inl n :: st) σ) : V M d Q pc ls st σ := by
  intro ol os om Γ A p l e s m args below meth c fx H locs lsA hP hS hL
  have fx0 := fx
  obtain ⟨hx, hb, hml, hr, hown, hts, hlk, hK, hD, hA⟩ := fx0
  subst hq
  exact lv_iconst hx hb hdg hv.1 (k ol (okL_i hv.2 os) om Γ A p l e s m args below meth c fx H locs lsA hP hS hL)
theorem v_bipush {M : MD} {d : Nat} {Q : Option Int → Mem → Prop} {pc : Nat} {ls st : List AV} {σ : Mem} (pc' : Nat) {n : Int} (hdg : decode M.2.1 pc = .ok (.bipush n, 2)) (hq : pc + 2 = pc') (hv : (Int8.ofInt n).toInt32 = Int32.ofInt n ∧ inR n) (k : V M d Q pc' ls (.inl n :: st) σ) : V M d Q pc ls st σ := by
  intro ol os om Γ A p l e s m args below meth c fx H locs lsA hP hS hL
  have fx0 := fx
  obtain ⟨hx, hb, hml, hr, hown, hts, hlk, hK, hD, hA⟩ := fx0
  subst hq
  exact lv_bipush hx hb hdg hv.1 (k ol (okL_i hv.2 os) om Γ A p l e s m args below meth c fx H locs lsA hP hS hL)
theorem v_sipush {M : MD} {d : Nat} {Q : Option Int → Mem → Prop} {pc : Nat} {ls st : List AV} {σ : Mem} (pc' : Nat) {n : Int} (hdg : decode M.2.1 pc = .ok (.sipush n, 3)) (hq : pc + 3 = pc') (hv : (Int16.ofInt n).toInt32 = Int32.ofInt n ∧ inR n) (k : V M d Q pc' ls (.inl n :: st) σ) : V M d Q pc ls st σ := by
  intro ol os om Γ A p l e s m args below meth c fx H locs lsA hP hS hL
  have fx0 := fx
  obtain ⟨hx, hb, hml, hr, hown, hts, hlk, hK, hD, hA⟩ := fx0
  subst hq
  exact lv_sipush hx hb hdg hv.1 (k ol (okL_i hv.2 os) om Γ A p l e s m args below meth c fx H locs lsA hP hS hL)
theorem v_iload0 {M : MD} {d : Nat} {Q : Option Int → Mem → Prop} {pc : Nat} {r st : List AV} {σ : Mem} {x : Int} (pc' : Nat) (hdg : decode M.2.1 pc = .ok (.iload_n 0, 1)) (hq : pc + 1 = pc') (k : V M d Q pc' ((.inl x) :: r) (.inl x :: st) σ) : V M d Q pc ((.inl x) :: r) st σ := by
  intro ol os om Γ A p l e s m args below meth c fx H locs lsA hP hS hL
  have fx0 := fx
  obtain ⟨hx, hb, hml, hr, hown, hts, hlk, hK, hD, hA⟩ := fx0
  subst hq
  exact lv_iload_n hx hb hdg rfl (hL.get (i := 0) rfl (by simp)) (k ol (okL_i (okL_get ol (i := 0) rfl) os) om Γ A p l e s m args below meth c fx H locs lsA hP hS hL)
theorem v_istore0 {M : MD} {d : Nat} {Q : Option Int → Mem → Prop} {pc : Nat} {r st : List AV} {σ : Mem} {o0 : AV} {x : Int} (pc' : Nat) (hdg : decode M.2.1 pc = .ok (.istore_n 0, 1)) (hq : pc + 1 = pc') (hn : 0 < M.2.2.1) (k : V M d Q pc' ((.inl x) :: r) st σ) : V M d Q pc (o0 :: r) (.inl x :: st) σ := by
  intro ol os om Γ A p l e s m args below meth c fx H locs lsA hP hS hL
  have fx0 := fx
  obtain ⟨hx, hb, hml, hr, hown, hts, hlk, hK, hD, hA⟩ := fx0
  subst hq
  exact lv_istore_n hx hb hdg rfl hL.has hn rfl (fun ls' h' => k (okL_set (l := o0 :: r) (x := .inl x) 0 (fun z e => by cases e; exact okL_h os) ol) (okL_t os) om Γ A p l e s m args below meth c fx H locs ls' hP hS (Lh.set (x := .inl x) h'))
theorem v_aload0 {M : MD} {d : Nat} {Q : Option Int → Mem → Prop} {pc : Nat} {r st : List AV} {σ : Mem} {x : Nat} (pc' : Nat) (hdg : decode M.2.1 pc = .ok (.aload_n 0, 1)) (hq : pc + 1 = pc') (k : V M d Q pc' ((.inr (some x)) :: r) (.inr (some x) :: st) σ) : V M d Q pc ((.inr (some x)) :: r) st σ := by
  intro ol os om Γ A p l e s m args below meth c fx H locs lsA hP hS hL
  have fx0 := fx
  obtain ⟨hx, hb, hml, hr, hown, hts, hlk, hK, hD, hA⟩ := fx0
  subst hq
  exact lv_aload_n hx hb hdg rfl (hL.get (i := 0) rfl (by simp)) (k ol (okL_r os) om Γ A p l e s m args below meth c fx H locs lsA hP hS hL)
theorem v_astore0 {M : MD} {d : Nat} {Q : Option Int → Mem → Prop} {pc : Nat} {r st : List AV} {σ : Mem} {o0 : AV} {x : Nat} (pc' : Nat) (hdg : decode M.2.1 pc = .ok (.astore_n 0, 1)) (hq : pc + 1 = pc') (hn : 0 < M.2.2.1) (k : V M d Q pc' ((.inr (some x)) :: r) st σ) : V M d Q pc (o0 :: r) (.inr (some x) :: st) σ := by
  intro ol os om Γ A p l e s m args below meth c fx H locs lsA hP hS hL
  have fx0 := fx
  obtain ⟨hx, hb, hml, hr, hown, hts, hlk, hK, hD, hA⟩ := fx0
  subst hq
  exact lv_astore_n hx hb hdg rfl hL.has hn rfl (fun ls' h' => k (okL_set (l := o0 :: r) (x := .inr (some x)) 0 (fun z e => by cases e) ol) (okL_t os) om Γ A p l e s m args below meth c fx H locs ls' hP hS (Lh.set (x := .inr (some x)) h'))
theorem v_iinc0 {M : MD} {d : Nat} {Q : Option Int → Mem → Prop} {pc : Nat} {r st : List AV} {σ : Mem} {x v : Int} (pc' : Nat) {n : Int} (hdg : decode M.2.1 pc = .ok (.iinc 0 n, 3)) (hq : pc + 3 = pc') (hn : 0 < M.2.2.1) (hv : x + n = v) (hr0 : inR v) (k : V M d Q pc' ((.inl v) :: r) st σ) : V M d Q pc ((.inl x) :: r) st σ := by
  intro ol os om Γ A p l e s m args below meth c fx H locs lsA hP hS hL
  have fx0 := fx
  obtain ⟨hx, hb, hml, hr, hown, hts, hlk, hK, hD, hA⟩ := fx0
  subst hq
  obtain ⟨k0, hk0⟩ := List.getElem?_of_mem (lvl_mem (Γ := Γ) (ls := (.inl x) :: r) (i := 0) (v := .inl x) rfl (by simp))
  exact lv_iinc (v := Int32.ofInt v) hx hb hdg hL.has hk0 (by rw [← Int32.ofInt_add, hv]) hn rfl (fun ls' h' => k (okL_set (l := (.inl x) :: r) (x := .inl v) 0 (fun z e => by cases e; exact hr0) ol) os om Γ A p l e s m args below meth c fx H locs ls' hP hS (Lh.set (x := .inl v) h'))
theorem v_iload1 {M : MD} {d : Nat} {Q : Option Int → Mem → Prop} {pc : Nat} {r st : List AV} {σ : Mem} {x0 : AV} {x : Int} (pc' : Nat) (hdg : decode M.2.1 pc = .ok (.iload_n 1, 1)) (hq : pc + 1 = pc') (k : V M d Q pc' (x0 :: (.inl x) :: r) (.inl x :: st) σ) : V M d Q pc (x0 :: (.inl x) :: r) st σ := by
  intro ol os om Γ A p l e s m args below meth c fx H locs lsA hP hS hL
  have fx0 := fx
  obtain ⟨hx, hb, hml, hr, hown, hts, hlk, hK, hD, hA⟩ := fx0
  subst hq
  exact lv_iload_n hx hb hdg rfl (hL.get (i := 1) rfl (by simp)) (k ol (okL_i (okL_get ol (i := 1) rfl) os) om Γ A p l e s m args below meth c fx H locs lsA hP hS hL)
theorem v_istore1 {M : MD} {d : Nat} {Q : Option Int → Mem → Prop} {pc : Nat} {r st : List AV} {σ : Mem} {x0 : AV} {o0 : AV} {x : Int} (pc' : Nat) (hdg : decode M.2.1 pc = .ok (.istore_n 1, 1)) (hq : pc + 1 = pc') (hn : 1 < M.2.2.1) (k : V M d Q pc' (x0 :: (.inl x) :: r) st σ) : V M d Q pc (x0 :: o0 :: r) (.inl x :: st) σ := by
  intro ol os om Γ A p l e s m args below meth c fx H locs lsA hP hS hL
  have fx0 := fx
  obtain ⟨hx, hb, hml, hr, hown, hts, hlk, hK, hD, hA⟩ := fx0
  subst hq
  exact lv_istore_n hx hb hdg rfl hL.has hn rfl (fun ls' h' => k (okL_set (l := x0 :: o0 :: r) (x := .inl x) 1 (fun z e => by cases e; exact okL_h os) ol) (okL_t os) om Γ A p l e s m args below meth c fx H locs ls' hP hS (Lh.set (x := .inl x) h'))
theorem v_aload1 {M : MD} {d : Nat} {Q : Option Int → Mem → Prop} {pc : Nat} {r st : List AV} {σ : Mem} {x0 : AV} {x : Nat} (pc' : Nat) (hdg : decode M.2.1 pc = .ok (.aload_n 1, 1)) (hq : pc + 1 = pc') (k : V M d Q pc' (x0 :: (.inr (some x)) :: r) (.inr (some x) :: st) σ) : V M d Q pc (x0 :: (.inr (some x)) :: r) st σ := by
  intro ol os om Γ A p l e s m args below meth c fx H locs lsA hP hS hL
  have fx0 := fx
  obtain ⟨hx, hb, hml, hr, hown, hts, hlk, hK, hD, hA⟩ := fx0
  subst hq
  exact lv_aload_n hx hb hdg rfl (hL.get (i := 1) rfl (by simp)) (k ol (okL_r os) om Γ A p l e s m args below meth c fx H locs lsA hP hS hL)
theorem v_astore1 {M : MD} {d : Nat} {Q : Option Int → Mem → Prop} {pc : Nat} {r st : List AV} {σ : Mem} {x0 : AV} {o0 : AV} {x : Nat} (pc' : Nat) (hdg : decode M.2.1 pc = .ok (.astore_n 1, 1)) (hq : pc + 1 = pc') (hn : 1 < M.2.2.1) (k : V M d Q pc' (x0 :: (.inr (some x)) :: r) st σ) : V M d Q pc (x0 :: o0 :: r) (.inr (some x) :: st) σ := by
  intro ol os om Γ A p l e s m args below meth c fx H locs lsA hP hS hL
  have fx0 := fx
  obtain ⟨hx, hb, hml, hr, hown, hts, hlk, hK, hD, hA⟩ := fx0
  subst hq
  exact lv_astore_n hx hb hdg rfl hL.has hn rfl (fun ls' h' => k (okL_set (l := x0 :: o0 :: r) (x := .inr (some x)) 1 (fun z e => by cases e) ol) (okL_t os) om Γ A p l e s m args below meth c fx H locs ls' hP hS (Lh.set (x := .inr (some x)) h'))
theorem v_iinc1 {M : MD} {d : Nat} {Q : Option Int → Mem → Prop} {pc : Nat} {r st : List AV} {σ : Mem} {x0 : AV} {x v : Int} (pc' : Nat) {n : Int} (hdg : decode M.2.1 pc = .ok (.iinc 1 n, 3)) (hq : pc + 3 = pc') (hn : 1 < M.2.2.1) (hv : x + n = v) (hr0 : inR v) (k : V M d Q pc' (x0 :: (.inl v) :: r) st σ) : V M d Q pc (x0 :: (.inl x) :: r) st σ := by
  intro ol os om Γ A p l e s m args below meth c fx H locs lsA hP hS hL
  have fx0 := fx
  obtain ⟨hx, hb, hml, hr, hown, hts, hlk, hK, hD, hA⟩ := fx0
  subst hq
  obtain ⟨k0, hk0⟩ := List.getElem?_of_mem (lvl_mem (Γ := Γ) (ls := x0 :: (.inl x) :: r) (i := 1) (v := .inl x) rfl (by simp))
  exact lv_iinc (v := Int32.ofInt v) hx hb hdg hL.has hk0 (by rw [← Int32.ofInt_add, hv]) hn rfl (fun ls' h' => k (okL_set (l := x0 :: (.inl x) :: r) (x := .inl v) 1 (fun z e => by cases e; exact hr0) ol) os om Γ A p l e s m args below meth c fx H locs ls' hP hS (Lh.set (x := .inl v) h'))
theorem v_iload2 {M : MD} {d : Nat} {Q : Option Int → Mem → Prop} {pc : Nat} {r st : List AV} {σ : Mem} {x0 x1 : AV} {x : Int} (pc' : Nat) (hdg : decode M.2.1 pc = .ok (.iload_n 2, 1)) (hq : pc + 1 = pc') (k : V M d Q pc' (x0 :: x1 :: (.inl x) :: r) (.inl x :: st) σ) : V M d Q pc (x0 :: x1 :: (.inl x) :: r) st σ := by
  intro ol os om Γ A p l e s m args below meth c fx H locs lsA hP hS hL
  have fx0 := fx
  obtain ⟨hx, hb, hml, hr, hown, hts, hlk, hK, hD, hA⟩ := fx0
  subst hq
  exact lv_iload_n hx hb hdg rfl (hL.get (i := 2) rfl (by simp)) (k ol (okL_i (okL_get ol (i := 2) rfl) os) om Γ A p l e s m args below meth c fx H locs lsA hP hS hL)
theorem v_istore2 {M : MD} {d : Nat} {Q : Option Int → Mem → Prop} {pc : Nat} {r st : List AV} {σ : Mem} {x0 x1 : AV} {o0 : AV} {x : Int} (pc' : Nat) (hdg : decode M.2.1 pc = .ok (.istore_n 2, 1)) (hq : pc + 1 = pc') (hn : 2 < M.2.2.1) (k : V M d Q pc' (x0 :: x1 :: (.inl x) :: r) st σ) : V M d Q pc (x0 :: x1 :: o0 :: r) (.inl x :: st) σ := by
  intro ol os om Γ A p l e s m args below meth c fx H locs lsA hP hS hL
  have fx0 := fx
  obtain ⟨hx, hb, hml, hr, hown, hts, hlk, hK, hD, hA⟩ := fx0
  subst hq
  exact lv_istore_n hx hb hdg rfl hL.has hn rfl (fun ls' h' => k (okL_set (l := x0 :: x1 :: o0 :: r) (x := .inl x) 2 (fun z e => by cases e; exact okL_h os) ol) (okL_t os) om Γ A p l e s m args below meth c fx H locs ls' hP hS (Lh.set (x := .inl x) h'))
theorem v_aload2 {M : MD} {d : Nat} {Q : Option Int → Mem → Prop} {pc : Nat} {r st : List AV} {σ : Mem} {x0 x1 : AV} {x : Nat} (pc' : Nat) (hdg : decode M.2.1 pc = .ok (.aload_n 2, 1)) (hq : pc + 1 = pc') (k : V M d Q pc' (x0 :: x1 :: (.inr (some x)) :: r) (.inr (some x) :: st) σ) : V M d Q pc (x0 :: x1 :: (.inr (some x)) :: r) st σ := by
  intro ol os om Γ A p l e s m args below meth c fx H locs lsA hP hS hL
  have fx0 := fx
  obtain ⟨hx, hb, hml, hr, hown, hts, hlk, hK, hD, hA⟩ := fx0
  subst hq
  exact lv_aload_n hx hb hdg rfl (hL.get (i := 2) rfl (by simp)) (k ol (okL_r os) om Γ A p l e s m args below meth c fx H locs lsA hP hS hL)
theorem v_astore2 {M : MD} {d : Nat} {Q : Option Int → Mem → Prop} {pc : Nat} {r st : List AV} {σ : Mem} {x0 x1 : AV} {o0 : AV} {x : Nat} (pc' : Nat) (hdg : decode M.2.1 pc = .ok (.astore_n 2, 1)) (hq : pc + 1 = pc') (hn : 2 < M.2.2.1) (k : V M d Q pc' (x0 :: x1 :: (.inr (some x)) :: r) st σ) : V M d Q pc (x0 :: x1 :: o0 :: r) (.inr (some x) :: st) σ := by
  intro ol os om Γ A p l e s m args below meth c fx H locs lsA hP hS hL
  have fx0 := fx
  obtain ⟨hx, hb, hml, hr, hown, hts, hlk, hK, hD, hA⟩ := fx0
  subst hq
  exact lv_astore_n hx hb hdg rfl hL.has hn rfl (fun ls' h' => k (okL_set (l := x0 :: x1 :: o0 :: r) (x := .inr (some x)) 2 (fun z e => by cases e) ol) (okL_t os) om Γ A p l e s m args below meth c fx H locs ls' hP hS (Lh.set (x := .inr (some x)) h'))
theorem v_iinc2 {M : MD} {d : Nat} {Q : Option Int → Mem → Prop} {pc : Nat} {r st : List AV} {σ : Mem} {x0 x1 : AV} {x v : Int} (pc' : Nat) {n : Int} (hdg : decode M.2.1 pc = .ok (.iinc 2 n, 3)) (hq : pc + 3 = pc') (hn : 2 < M.2.2.1) (hv : x + n = v) (hr0 : inR v) (k : V M d Q pc' (x0 :: x1 :: (.inl v) :: r) st σ) : V M d Q pc (x0 :: x1 :: (.inl x) :: r) st σ := by
  intro ol os om Γ A p l e s m args below meth c fx H locs lsA hP hS hL
  have fx0 := fx
  obtain ⟨hx, hb, hml, hr, hown, hts, hlk, hK, hD, hA⟩ := fx0
  subst hq
  obtain ⟨k0, hk0⟩ := List.getElem?_of_mem (lvl_mem (Γ := Γ) (ls := x0 :: x1 :: (.inl x) :: r) (i := 2) (v := .inl x) rfl (by simp))
  exact lv_iinc (v := Int32.ofInt v) hx hb hdg hL.has hk0 (by rw [← Int32.ofInt_add, hv]) hn rfl (fun ls' h' => k (okL_set (l := x0 :: x1 :: (.inl x) :: r) (x := .inl v) 2 (fun z e => by cases e; exact hr0) ol) os om Γ A p l e s m args below meth c fx H locs ls' hP hS (Lh.set (x := .inl v) h'))
theorem v_iload3 {M : MD} {d : Nat} {Q : Option Int → Mem → Prop} {pc : Nat} {r st : List AV} {σ : Mem} {x0 x1 x2 : AV} {x : Int} (pc' : Nat) (hdg : decode M.2.1 pc = .ok (.iload_n 3, 1)) (hq : pc + 1 = pc') (k : V M d Q pc' (x0 :: x1 :: x2 :: (.inl x) :: r) (.inl x :: st) σ) : V M d Q pc (x0 :: x1 :: x2 :: (.inl x) :: r) st σ := by
  intro ol os om Γ A p l e s m args below meth c fx H locs lsA hP hS hL
  have fx0 := fx
  obtain ⟨hx, hb, hml, hr, hown, hts, hlk, hK, hD, hA⟩ := fx0
  subst hq
  exact lv_iload_n hx hb hdg rfl (hL.get (i := 3) rfl (by simp)) (k ol (okL_i (okL_get ol (i := 3) rfl) os) om Γ A p l e s m args below meth c fx H locs lsA hP hS hL)
theorem v_istore3 {M : MD} {d : Nat} {Q : Option Int → Mem → Prop} {pc : Nat} {r st : List AV} {σ : Mem} {x0 x1 x2 : AV} {o0 : AV} {x : Int} (pc' : Nat) (hdg : decode M.2.1 pc = .ok (.istore_n 3, 1)) (hq : pc + 1 = pc') (hn : 3 < M.2.2.1) (k : V M d Q pc' (x0 :: x1 :: x2 :: (.inl x) :: r) st σ) : V M d Q pc (x0 :: x1 :: x2 :: o0 :: r) (.inl x :: st) σ := by
  intro ol os om Γ A p l e s m args below meth c fx H locs lsA hP hS hL
  have fx0 := fx
  obtain ⟨hx, hb, hml, hr, hown, hts, hlk, hK, hD, hA⟩ := fx0
  subst hq
  exact lv_istore_n hx hb hdg rfl hL.has hn rfl (fun ls' h' => k (okL_set (l := x0 :: x1 :: x2 :: o0 :: r) (x := .inl x) 3 (fun z e => by cases e; exact okL_h os) ol) (okL_t os) om Γ A p l e s m args below meth c fx H locs ls' hP hS (Lh.set (x := .inl x) h'))
theorem v_aload3 {M : MD} {d : Nat} {Q : Option Int → Mem → Prop} {pc : Nat} {r st : List AV} {σ : Mem} {x0 x1 x2 : AV} {x : Nat} (pc' : Nat) (hdg : decode M.2.1 pc = .ok (.aload_n 3, 1)) (hq : pc + 1 = pc') (k : V M d Q pc' (x0 :: x1 :: x2 :: (.inr (some x)) :: r) (.inr (some x) :: st) σ) : V M d Q pc (x0 :: x1 :: x2 :: (.inr (some x)) :: r) st σ := by
  intro ol os om Γ A p l e s m args below meth c fx H locs lsA hP hS hL
  have fx0 := fx
  obtain ⟨hx, hb, hml, hr, hown, hts, hlk, hK, hD, hA⟩ := fx0
  subst hq
  exact lv_aload_n hx hb hdg rfl (hL.get (i := 3) rfl (by simp)) (k ol (okL_r os) om Γ A p l e s m args below meth c fx H locs lsA hP hS hL)
theorem v_astore3 {M : MD} {d : Nat} {Q : Option Int → Mem → Prop} {pc : Nat} {r st : List AV} {σ : Mem} {x0 x1 x2 : AV} {o0 : AV} {x : Nat} (pc' : Nat) (hdg : decode M.2.1 pc = .ok (.astore_n 3, 1)) (hq : pc + 1 = pc') (hn : 3 < M.2.2.1) (k : V M d Q pc' (x0 :: x1 :: x2 :: (.inr (some x)) :: r) st σ) : V M d Q pc (x0 :: x1 :: x2 :: o0 :: r) (.inr (some x) :: st) σ := by
  intro ol os om Γ A p l e s m args below meth c fx H locs lsA hP hS hL
  have fx0 := fx
  obtain ⟨hx, hb, hml, hr, hown, hts, hlk, hK, hD, hA⟩ := fx0
  subst hq
  exact lv_astore_n hx hb hdg rfl hL.has hn rfl (fun ls' h' => k (okL_set (l := x0 :: x1 :: x2 :: o0 :: r) (x := .inr (some x)) 3 (fun z e => by cases e) ol) (okL_t os) om Γ A p l e s m args below meth c fx H locs ls' hP hS (Lh.set (x := .inr (some x)) h'))
theorem v_iinc3 {M : MD} {d : Nat} {Q : Option Int → Mem → Prop} {pc : Nat} {r st : List AV} {σ : Mem} {x0 x1 x2 : AV} {x v : Int} (pc' : Nat) {n : Int} (hdg : decode M.2.1 pc = .ok (.iinc 3 n, 3)) (hq : pc + 3 = pc') (hn : 3 < M.2.2.1) (hv : x + n = v) (hr0 : inR v) (k : V M d Q pc' (x0 :: x1 :: x2 :: (.inl v) :: r) st σ) : V M d Q pc (x0 :: x1 :: x2 :: (.inl x) :: r) st σ := by
  intro ol os om Γ A p l e s m args below meth c fx H locs lsA hP hS hL
  have fx0 := fx
  obtain ⟨hx, hb, hml, hr, hown, hts, hlk, hK, hD, hA⟩ := fx0
  subst hq
  obtain ⟨k0, hk0⟩ := List.getElem?_of_mem (lvl_mem (Γ := Γ) (ls := x0 :: x1 :: x2 :: (.inl x) :: r) (i := 3) (v := .inl x) rfl (by simp))
  exact lv_iinc (v := Int32.ofInt v) hx hb hdg hL.has hk0 (by rw [← Int32.ofInt_add, hv]) hn rfl (fun ls' h' => k (okL_set (l := x0 :: x1 :: x2 :: (.inl x) :: r) (x := .inl v) 3 (fun z e => by cases e; exact hr0) ol) os om Γ A p l e s m args below meth c fx H locs ls' hP hS (Lh.set (x := .inl v) h'))
theorem v_iload4 {M : MD} {d : Nat} {Q : Option Int → Mem → Prop} {pc : Nat} {r st : List AV} {σ : Mem} {x0 x1 x2 x3 : AV} {x : Int} (pc' : Nat) (hdg : decode M.2.1 pc = .ok (.iload 4, 2)) (hq : pc + 2 = pc') (k : V M d Q pc' (x0 :: x1 :: x2 :: x3 :: (.inl x) :: r) (.inl x :: st) σ) : V M d Q pc (x0 :: x1 :: x2 :: x3 :: (.inl x) :: r) st σ := by
  intro ol os om Γ A p l e s m args below meth c fx H locs lsA hP hS hL
  have fx0 := fx
  obtain ⟨hx, hb, hml, hr, hown, hts, hlk, hK, hD, hA⟩ := fx0
  subst hq
  exact lv_iload hx hb hdg (hL.get (i := 4) rfl (by simp)) (k ol (okL_i (okL_get ol (i := 4) rfl) os) om Γ A p l e s m args below meth c fx H locs lsA hP hS hL)
theorem v_istore4 {M : MD} {d : Nat} {Q : Option Int → Mem → Prop} {pc : Nat} {r st : List AV} {σ : Mem} {x0 x1 x2 x3 : AV} {o0 : AV} {x : Int} (pc' : Nat) (hdg : decode M.2.1 pc = .ok (.istore 4, 2)) (hq : pc + 2 = pc') (hn : 4 < M.2.2.1) (k : V M d Q pc' (x0 :: x1 :: x2 :: x3 :: (.inl x) :: r) st σ) : V M d Q pc (x0 :: x1 :: x2 :: x3 :: o0 :: r) (.inl x :: st) σ := by
  intro ol os om Γ A p l e s m args below meth c fx H locs lsA hP hS hL
  have fx0 := fx
  obtain ⟨hx, hb, hml, hr, hown, hts, hlk, hK, hD, hA⟩ := fx0
  subst hq
  exact lv_istore hx hb hdg hL.has hn rfl (fun ls' h' => k (okL_set (l := x0 :: x1 :: x2 :: x3 :: o0 :: r) (x := .inl x) 4 (fun z e => by cases e; exact okL_h os) ol) (okL_t os) om Γ A p l e s m args below meth c fx H locs ls' hP hS (Lh.set (x := .inl x) h'))
theorem v_aload4 {M : MD} {d : Nat} {Q : Option Int → Mem → Prop} {pc : Nat} {r st : List AV} {σ : Mem} {x0 x1 x2 x3 : AV} {x : Nat} (pc' : Nat) (hdg : decode M.2.1 pc = .ok (.aload 4, 2)) (hq : pc + 2 = pc') (k : V M d Q pc' (x0 :: x1 :: x2 :: x3 :: (.inr (some x)) :: r) (.inr (some x) :: st) σ) : V M d Q pc (x0 :: x1 :: x2 :: x3 :: (.inr (some x)) :: r) st σ := by
  intro ol os om Γ A p l e s m args below meth c fx H locs lsA hP hS hL
  have fx0 := fx
  obtain ⟨hx, hb, hml, hr, hown, hts, hlk, hK, hD, hA⟩ := fx0
  subst hq
  exact lv_aload hx hb hdg (hL.get (i := 4) rfl (by simp)) (k ol (okL_r os) om Γ A p l e s m args below meth c fx H locs lsA hP hS hL)
theorem v_astore4 {M : MD} {d : Nat} {Q : Option Int → Mem → Prop} {pc : Nat} {r st : List AV} {σ : Mem} {x0 x1 x2 x3 : AV} {o0 : AV} {x : Nat} (pc' : Nat) (hdg : decode M.2.1 pc = .ok (.astore 4, 2)) (hq : pc + 2 = pc') (hn : 4 < M.2.2.1) (k : V M d Q pc' (x0 :: x1 :: x2 :: x3 :: (.inr (some x)) :: r) st σ) : V M d Q pc (x0 :: x1 :: x2 :: x3 :: o0 :: r) (.inr (some x) :: st) σ := by
  intro ol os om Γ A p l e s m args below meth c fx H locs lsA hP hS hL
  have fx0 := fx
  obtain ⟨hx, hb, hml, hr, hown, hts, hlk, hK, hD, hA⟩ := fx0
  subst hq
  exact lv_astore hx hb hdg hL.has hn rfl (fun ls' h' => k (okL_set (l := x0 :: x1 :: x2 :: x3 :: o0 :: r) (x := .inr (some x)) 4 (fun z e => by cases e) ol) (okL_t os) om Γ A p l e s m args below meth c fx H locs ls' hP hS (Lh.set (x := .inr (some x)) h'))
theorem v_iinc4 {M : MD} {d : Nat} {Q : Option Int → Mem → Prop} {pc : Nat} {r st : List AV} {σ : Mem} {x0 x1 x2 x3 : AV} {x v : Int} (pc' : Nat) {n : Int} (hdg : decode M.2.1 pc = .ok (.iinc 4 n, 3)) (hq : pc + 3 = pc') (hn : 4 < M.2.2.1) (hv : x + n = v) (hr0 : inR v) (k : V M d Q pc' (x0 :: x1 :: x2 :: x3 :: (.inl v) :: r) st σ) : V M d Q pc (x0 :: x1 :: x2 :: x3 :: (.inl x) :: r) st σ := by
  intro ol os om Γ A p l e s m args below meth c fx H locs lsA hP hS hL
  have fx0 := fx
  obtain ⟨hx, hb, hml, hr, hown, hts, hlk, hK, hD, hA⟩ := fx0
  subst hq
  obtain ⟨k0, hk0⟩ := List.getElem?_of_mem (lvl_mem (Γ := Γ) (ls := x0 :: x1 :: x2 :: x3 :: (.inl x) :: r) (i := 4) (v := .inl x) rfl (by simp))
  exact lv_iinc (v := Int32.ofInt v) hx hb hdg hL.has hk0 (by rw [← Int32.ofInt_add, hv]) hn rfl (fun ls' h' => k (okL_set (l := x0 :: x1 :: x2 :: x3 :: (.inl x) :: r) (x := .inl v) 4 (fun z e => by cases e; exact hr0) ol) os om Γ A p l e s m args below meth c fx H locs ls' hP hS (Lh.set (x := .inl v) h'))
theorem v_iload5 {M : MD} {d : Nat} {Q : Option Int → Mem → Prop} {pc : Nat} {r st : List AV} {σ : Mem} {x0 x1 x2 x3 x4 : AV} {x : Int} (pc' : Nat) (hdg : decode M.2.1 pc = .ok (.iload 5, 2)) (hq : pc + 2 = pc') (k : V M d Q pc' (x0 :: x1 :: x2 :: x3 :: x4 :: (.inl x) :: r) (.inl x :: st) σ) : V M d Q pc (x0 :: x1 :: x2 :: x3 :: x4 :: (.inl x) :: r) st σ := by
  intro ol os om Γ A p l e s m args below meth c fx H locs lsA hP hS hL
  have fx0 := fx
  obtain ⟨hx, hb, hml, hr, hown, hts, hlk, hK, hD, hA⟩ := fx0
  subst hq
  exact lv_iload hx hb hdg (hL.get (i := 5) rfl (by simp)) (k ol (okL_i (okL_get ol (i := 5) rfl) os) om Γ A p l e s m args below meth c fx H locs lsA hP hS hL)
theorem v_istore5 {M : MD} {d : Nat} {Q : Option Int → Mem → Prop} {pc : Nat} {r st : List AV} {σ : Mem} {x0 x1 x2 x3 x4 : AV} {o0 : AV} {x : Int} (pc' : Nat) (hdg : decode M.2.1 pc = .ok (.istore 5, 2)) (hq : pc + 2 = pc') (hn : 5 < M.2.2.1) (k : V M d Q pc' (x0 :: x1 :: x2 :: x3 :: x4 :: (.inl x) :: r) st σ) : V M d Q pc (x0 :: x1 :: x2 :: x3 :: x4 :: o0 :: r) (.inl x :: st) σ := by
  intro ol os om Γ A p l e s m args below meth c fx H locs lsA hP hS hL
  have fx0 := fx
  obtain ⟨hx, hb, hml, hr, hown, hts, hlk, hK, hD, hA⟩ := fx0
  subst hq
  exact lv_istore hx hb hdg hL.has hn rfl (fun ls' h' => k (okL_set (l := x0 :: x1 :: x2 :: x3 :: x4 :: o0 :: r) (x := .inl x) 5 (fun z e => by cases e; exact okL_h os) ol) (okL_t os) om Γ A p l e s m args below meth c fx H locs ls' hP hS (Lh.set (x := .inl x) h'))
theorem v_aload5 {M : MD} {d : Nat} {Q : Option Int → Mem → Prop} {pc : Nat} {r st : List AV} {σ : Mem} {x0 x1 x2 x3 x4 : AV} {x : Nat} (pc' : Nat) (hdg : decode M.2.1 pc = .ok (.aload 5, 2)) (hq : pc + 2 = pc') (k : V M d Q pc' (x0 :: x1 :: x2 :: x3 :: x4 :: (.inr (some x)) :: r) (.inr (some x) :: st) σ) : V M d Q pc (x0 :: x1 :: x2 :: x3 :: x4 :: (.inr (some x)) :: r) st σ := by
  intro ol os om Γ A p l e s m args below meth c fx H locs lsA hP hS hL
  have fx0 := fx
  obtain ⟨hx, hb, hml, hr, hown, hts, hlk, hK, hD, hA⟩ := fx0
  subst hq
  exact lv_aload hx hb hdg (hL.get (i := 5) rfl (by simp)) (k ol (okL_r os) om Γ A p l e s m args below meth c fx H locs lsA hP hS hL)
theorem v_astore5 {M : MD} {d : Nat} {Q : Option Int → Mem → Prop} {pc : Nat} {r st : List AV} {σ : Mem} {x0 x1 x2 x3 x4 : AV} {o0 : AV} {x : Nat} (pc' : Nat) (hdg : decode M.2.1 pc = .ok (.astore 5, 2)) (hq : pc + 2 = pc') (hn : 5 < M.2.2.1) (k : V M d Q pc' (x0 :: x1 :: x2 :: x3 :: x4 :: (.inr (some x)) :: r) st σ) : V M d Q pc (x0 :: x1 :: x2 :: x3 :: x4 :: o0 :: r) (.inr (some x) :: st) σ := by
  intro ol os om Γ A p l e s m args below meth c fx H locs lsA hP hS hL
  have fx0 := fx
  obtain ⟨hx, hb, hml, hr, hown, hts, hlk, hK, hD, hA⟩ := fx0
  subst hq
  exact lv_astore hx hb hdg hL.has hn rfl (fun ls' h' => k (okL_set (l := x0 :: x1 :: x2 :: x3 :: x4 :: o0 :: r) (x := .inr (some x)) 5 (fun z e => by cases e) ol) (okL_t os) om Γ A p l e s m args below meth c fx H locs ls' hP hS (Lh.set (x := .inr (some x)) h'))
theorem v_iinc5 {M : MD} {d : Nat} {Q : Option Int → Mem → Prop} {pc : Nat} {r st : List AV} {σ : Mem} {x0 x1 x2 x3 x4 : AV} {x v : Int} (pc' : Nat) {n : Int} (hdg : decode M.2.1 pc = .ok (.iinc 5 n, 3)) (hq : pc + 3 = pc') (hn : 5 < M.2.2.1) (hv : x + n = v) (hr0 : inR v) (k : V M d Q pc' (x0 :: x1 :: x2 :: x3 :: x4 :: (.inl v) :: r) st σ) : V M d Q pc (x0 :: x1 :: x2 :: x3 :: x4 :: (.inl x) :: r) st σ := by
  intro ol os om Γ A p l e s m args below meth c fx H locs lsA hP hS hL
  have fx0 := fx
  obtain ⟨hx, hb, hml, hr, hown, hts, hlk, hK, hD, hA⟩ := fx0
  subst hq
  obtain ⟨k0, hk0⟩ := List.getElem?_of_mem (lvl_mem (Γ := Γ) (ls := x0 :: x1 :: x2 :: x3 :: x4 :: (.inl x) :: r) (i := 5) (v := .inl x) rfl (by simp))
  exact lv_iinc (v := Int32.ofInt v) hx hb hdg hL.has hk0 (by rw [← Int32.ofInt_add, hv]) hn rfl (fun ls' h' => k (okL_set (l := x0 :: x1 :: x2 :: x3 :: x4 :: (.inl x) :: r) (x := .inl v) 5 (fun z e => by cases e; exact hr0) ol) os om Γ A p l e s m args below meth c fx H locs ls' hP hS (Lh.set (x := .inl v) h'))
theorem v_iload6 {M : MD} {d : Nat} {Q : Option Int → Mem → Prop} {pc : Nat} {r st : List AV} {σ : Mem} {x0 x1 x2 x3 x4 x5 : AV} {x : Int} (pc' : Nat) (hdg : decode M.2.1 pc = .ok (.iload 6, 2)) (hq : pc + 2 = pc') (k : V M d Q pc' (x0 :: x1 :: x2 :: x3 :: x4 :: x5 :: (.inl x) :: r) (.inl x :: st) σ) : V M d Q pc (x0 :: x1 :: x2 :: x3 :: x4 :: x5 :: (.inl x) :: r) st σ := by
  intro ol os om Γ A p l e s m args below meth c fx H locs lsA hP hS hL
  have fx0 := fx
  obtain ⟨hx, hb, hml, hr, hown, hts, hlk, hK, hD, hA⟩ := fx0
  subst hq
  exact lv_iload hx hb hdg (hL.get (i := 6) rfl (by simp)) (k ol (okL_i (okL_get ol (i := 6) rfl) os) om Γ A p l e s m args below meth c fx H locs lsA hP hS hL)
theorem v_istore6 {M : MD} {d : Nat} {Q : Option Int → Mem → Prop} {pc : Nat} {r st : List AV} {σ : Mem} {x0 x1 x2 x3 x4 x5 : AV} {o0 : AV} {x : Int} (pc' : Nat) (hdg : decode M.2.1 pc = .ok (.istore 6, 2)) (hq : pc + 2 = pc') (hn : 6 < M.2.2.1) (k : V M d Q pc' (x0 :: x1 :: x2 :: x3 :: x4 :: x5 :: (.inl x) :: r) st σ) : V M d Q pc (x0 :: x1 :: x2 :: x3 :: x4 :: x5 :: o0 :: r) (.inl x :: st) σ := by
  intro ol os om Γ A p l e s m args below meth c fx H locs lsA hP hS hL
  have fx0 := fx
  obtain ⟨hx, hb, hml, hr, hown, hts, hlk, hK, hD, hA⟩ := fx0
  subst hq
  exact lv_istore hx hb hdg hL.has hn rfl (fun ls' h' => k (okL_set (l := x0 :: x1 :: x2 :: x3 :: x4 :: x5 :: o0 :: r) (x := .inl x) 6 (fun z e => by cases e; exact okL_h os) ol) (okL_t os) om Γ A p l e s m args below meth c fx H locs ls' hP hS (Lh.set (x := .inl x) h'))
theorem v_aload6 {M : MD} {d : Nat} {Q : Option Int → Mem → Prop} {pc : Nat} {r st : List AV} {σ : Mem} {x0 x1 x2 x3 x4 x5 : AV} {x : Nat} (pc' : Nat) (hdg : decode M.2.1 pc = .ok (.aload 6, 2)) (hq : pc + 2 = pc') (k : V M d Q pc' (x0 :: x1 :: x2 :: x3 :: x4 :: x5 :: (.inr (some x)) :: r) (.inr (some x) :: st) σ) : V M d Q pc (x0 :: x1 :: x2 :: x3 :: x4 :: x5 :: (.inr (some x)) :: r) st σ := by
  intro ol os om Γ A p l e s m args below meth c fx H locs lsA hP hS hL
  have fx0 := fx
  obtain ⟨hx, hb, hml, hr, hown, hts, hlk, hK, hD, hA⟩ := fx0
  subst hq
  exact lv_aload hx hb hdg (hL.get (i := 6) rfl (by simp)) (k ol (okL_r os) om Γ A p l e s m args below meth c fx H locs lsA hP hS hL)
theorem v_astore6 {M : MD} {d : Nat} {Q : Option Int → Mem → Prop} {pc : Nat} {r st : List AV} {σ : Mem} {x0 x1 x2 x3 x4 x5 : AV} {o0 : AV} {x : Nat} (pc' : Nat) (hdg : decode M.2.1 pc = .ok (.astore 6, 2)) (hq : pc + 2 = pc') (hn : 6 < M.2.2.1) (k : V M d Q pc' (x0 :: x1 :: x2 :: x3 :: x4 :: x5 :: (.inr (some x)) :: r) st σ) : V M d Q pc (x0 :: x1 :: x2 :: x3 :: x4 :: x5 :: o0 :: r) (.inr (some x) :: st) σ := by
  intro ol os om Γ A p l e s m args below meth c fx H locs lsA hP hS hL
  have fx0 := fx
  obtain ⟨hx, hb, hml, hr, hown, hts, hlk, hK, hD, hA⟩ := fx0
  subst hq
  exact lv_astore hx hb hdg hL.has hn rfl (fun ls' h' => k (okL_set (l := x0 :: x1 :: x2 :: x3 :: x4 :: x5 :: o0 :: r) (x := .inr (some x)) 6 (fun z e => by cases e) ol) (okL_t os) om Γ A p l e s m args below meth c fx H locs ls' hP hS (Lh.set (x := .inr (some x)) h'))
theorem v_iinc6 {M : MD} {d : Nat} {Q : Option Int → Mem → Prop} {pc : Nat} {r st : List AV} {σ : Mem} {x0 x1 x2 x3 x4 x5 : AV} {x v : Int} (pc' : Nat) {n : Int} (hdg : decode M.2.1 pc = .ok (.iinc 6 n, 3)) (hq : pc + 3 = pc') (hn : 6 < M.2.2.1) (hv : x + n = v) (hr0 : inR v) (k : V M d Q pc' (x0 :: x1 :: x2 :: x3 :: x4 :: x5 :: (.inl v) :: r) st σ) : V M d Q pc (x0 :: x1 :: x2 :: x3 :: x4 :: x5 :: (.inl x) :: r) st σ := by
  intro ol os om Γ A p l e s m args below meth c fx H locs lsA hP hS hL
  have fx0 := fx
  obtain ⟨hx, hb, hml, hr, hown, hts, hlk, hK, hD, hA⟩ := fx0
  subst hq
  obtain ⟨k0, hk0⟩ := List.getElem?_of_mem (lvl_mem (Γ := Γ) (ls := x0 :: x1 :: x2 :: x3 :: x4 :: x5 :: (.inl x) :: r) (i := 6) (v := .inl x) rfl (by simp))
  exact lv_iinc (v := Int32.ofInt v) hx hb hdg hL.has hk0 (by rw [← Int32.ofInt_add, hv]) hn rfl (fun ls' h' => k (okL_set (l := x0 :: x1 :: x2 :: x3 :: x4 :: x5 :: (.inl x) :: r) (x := .inl v) 6 (fun z e => by cases e; exact hr0) ol) os om Γ A p l e s m args below meth c fx H locs ls' hP hS (Lh.set (x := .inl v) h'))
theorem v_iload7 {M : MD} {d : Nat} {Q : Option Int → Mem → Prop} {pc : Nat} {r st : List AV} {σ : Mem} {x0 x1 x2 x3 x4 x5 x6 : AV} {x : Int} (pc' : Nat) (hdg : decode M.2.1 pc = .ok (.iload 7, 2)) (hq : pc + 2 = pc') (k : V M d Q pc' (x0 :: x1 :: x2 :: x3 :: x4 :: x5 :: x6 :: (.inl x) :: r) (.inl x :: st) σ) : V M d Q pc (x0 :: x1 :: x2 :: x3 :: x4 :: x5 :: x6 :: (.inl x) :: r) st σ := by
  intro ol os om Γ A p l e s m args below meth c fx H locs lsA hP hS hL
  have fx0 := fx
  obtain ⟨hx, hb, hml, hr, hown, hts, hlk, hK, hD, hA⟩ := fx0
  subst hq
  exact lv_iload hx hb hdg (hL.get (i := 7) rfl (by simp)) (k ol (okL_i (okL_get ol (i := 7) rfl) os) om Γ A p l e s m args below meth c fx H locs lsA hP hS hL)
theorem v_istore7 {M : MD} {d : Nat} {Q : Option Int → Mem → Prop} {pc : Nat} {r st : List AV} {σ : Mem} {x0 x1 x2 x3 x4 x5 x6 : AV} {o0 : AV} {x : Int} (pc' : Nat) (hdg : decode M.2.1 pc = .ok (.istore 7, 2)) (hq : pc + 2 = pc') (hn : 7 < M.2.2.1) (k : V M d Q pc' (x0 :: x1 :: x2 :: x3 :: x4 :: x5 :: x6 :: (.inl x) :: r) st σ) : V M d Q pc (x0 :: x1 :: x2 :: x3 :: x4 :: x5 :: x6 :: o0 :: r) (.inl x :: st) σ := by
  intro ol os om Γ A p l e s m args below meth c fx H locs lsA hP hS hL
  have fx0 := fx
  obtain ⟨hx, hb, hml, hr, hown, hts, hlk, hK, hD, hA⟩ := fx0
  subst hq
  exact lv_istore hx hb hdg hL.has hn rfl (fun ls' h' => k (okL_set (l := x0 :: x1 :: x2 :: x3 :: x4 :: x5 :: x6 :: o0 :: r) (x := .inl x) 7 (fun z e => by cases e; exact okL_h os) ol) (okL_t os) om Γ A p l e s m args below meth c fx H locs ls' hP hS (Lh.set (x := .inl x) h'))
theorem v_aload7 {M : MD} {d : Nat} {Q : Option Int → Mem → Prop} {pc : Nat} {r st : List AV} {σ : Mem} {x0 x1 x2 x3 x4 x5 x6 : AV} {x : Nat} (pc' : Nat) (hdg : decode M.2.1 pc = .ok (.aload 7, 2)) (hq : pc + 2 = pc') (k : V M d Q pc' (x0 :: x1 :: x2 :: x3 :: x4 :: x5 :: x6 :: (.inr (some x)) :: r) (.inr (some x) :: st) σ) : V M d Q pc (x0 :: x1 :: x2 :: x3 :: x4 :: x5 :: x6 :: (.inr (some x)) :: r) st σ := by
  intro ol os om Γ A p l e s m args below meth c fx H locs lsA hP hS hL
  have fx0 := fx
  obtain ⟨hx, hb, hml, hr, hown, hts, hlk, hK, hD, hA⟩ := fx0
  subst hq
  exact lv_aload hx hb hdg (hL.get (i := 7) rfl (by simp)) (k ol (okL_r os) om Γ A p l e s m args below meth c fx H locs lsA hP hS hL)
theorem v_astore7 {M : MD} {d : Nat} {Q : Option Int → Mem → Prop} {pc : Nat} {r st : List AV} {σ : Mem} {x0 x1 x2 x3 x4 x5 x6 : AV} {o0 : AV} {x : Nat} (pc' : Nat) (hdg : decode M.2.1 pc = .ok (.astore 7, 2)) (hq : pc + 2 = pc') (hn : 7 < M.2.2.1) (k : V M d Q pc' (x0 :: x1 :: x2 :: x3 :: x4 :: x5 :: x6 :: (.inr (some x)) :: r) st σ) : V M d Q pc (x0 :: x1 :: x2 :: x3 :: x4 :: x5 :: x6 :: o0 :: r) (.inr (some x) :: st) σ := by
  intro ol os om Γ A p l e s m args below meth c fx H locs lsA hP hS hL
  have fx0 := fx
  obtain ⟨hx, hb, hml, hr, hown, hts, hlk, hK, hD, hA⟩ := fx0
  subst hq
  exact lv_astore hx hb hdg hL.has hn rfl (fun ls' h' => k (okL_set (l := x0 :: x1 :: x2 :: x3 :: x4 :: x5 :: x6 :: o0 :: r) (x := .inr (some x)) 7 (fun z e => by cases e) ol) (okL_t os) om Γ A p l e s m args below meth c fx H locs ls' hP hS (Lh.set (x := .inr (some x)) h'))
theorem v_iinc7 {M : MD} {d : Nat} {Q : Option Int → Mem → Prop} {pc : Nat} {r st : List AV} {σ : Mem} {x0 x1 x2 x3 x4 x5 x6 : AV} {x v : Int} (pc' : Nat) {n : Int} (hdg : decode M.2.1 pc = .ok (.iinc 7 n, 3)) (hq : pc + 3 = pc') (hn : 7 < M.2.2.1) (hv : x + n = v) (hr0 : inR v) (k : V M d Q pc' (x0 :: x1 :: x2 :: x3 :: x4 :: x5 :: x6 :: (.inl v) :: r) st σ) : V M d Q pc (x0 :: x1 :: x2 :: x3 :: x4 :: x5 :: x6 :: (.inl x) :: r) st σ := by
  intro ol os om Γ A p l e s m args below meth c fx H locs lsA hP hS hL
  have fx0 := fx
  obtain ⟨hx, hb, hml, hr, hown, hts, hlk, hK, hD, hA⟩ := fx0
  subst hq
  obtain ⟨k0, hk0⟩ := List.getElem?_of_mem (lvl_mem (Γ := Γ) (ls := x0 :: x1 :: x2 :: x3 :: x4 :: x5 :: x6 :: (.inl x) :: r) (i := 7) (v := .inl x) rfl (by simp))
  exact lv_iinc (v := Int32.ofInt v) hx hb hdg hL.has hk0 (by rw [← Int32.ofInt_add, hv]) hn rfl (fun ls' h' => k (okL_set (l := x0 :: x1 :: x2 :: x3 :: x4 :: x5 :: x6 :: (.inl x) :: r) (x := .inl v) 7 (fun z e => by cases e; exact hr0) ol) os om Γ A p l e s m args below meth c fx H locs ls' hP hS (Lh.set (x := .inl v) h'))
theorem v_iload8 {M : MD} {d : Nat} {Q : Option Int → Mem → Prop} {pc : Nat} {r st : List AV} {σ : Mem} {x0 x1 x2 x3 x4 x5 x6 x7 : AV} {x : Int} (pc' : Nat) (hdg : decode M.2.1 pc = .ok (.iload 8, 2)) (hq : pc + 2 = pc') (k : V M d Q pc' (x0 :: x1 :: x2 :: x3 :: x4 :: x5 :: x6 :: x7 :: (.inl x) :: r) (.inl x :: st) σ) : V M d Q pc (x0 :: x1 :: x2 :: x3 :: x4 :: x5 :: x6 :: x7 :: (.inl x) :: r) st σ := by
  intro ol os om Γ A p l e s m args below meth c fx H locs lsA hP hS hL
  have fx0 := fx
  obtain ⟨hx, hb, hml, hr, hown, hts, hlk, hK, hD, hA⟩ := fx0
  subst hq
  exact lv_iload hx hb hdg (hL.get (i := 8) rfl (by simp)) (k ol (okL_i (okL_get ol (i := 8) rfl) os) om Γ A p l e s m args below meth c fx H locs lsA hP hS hL)
theorem v_istore8 {M : MD} {d : Nat} {Q : Option Int → Mem → Prop} {pc : Nat} {r st : List AV} {σ : Mem} {x0 x1 x2 x3 x4 x5 x6 x7 : AV} {o0 : AV} {x : Int} (pc' : Nat) (hdg : decode M.2.1 pc = .ok (.istore 8, 2)) (hq : pc + 2 = pc') (hn : 8 < M.2.2.1) (k : V M d Q pc' (x0 :: x1 :: x2 :: x3 :: x4 :: x5 :: x6 :: x7 :: (.inl x) :: r) st σ) : V M d Q pc (x0 :: x1 :: x2 :: x3 :: x4 :: x5 :: x6 :: x7 :: o0 :: r) (.inl x :: st) σ := by
  intro ol os om Γ A p l e s m args below meth c fx H locs lsA hP hS hL
  have fx0 := fx
  obtain ⟨hx, hb, hml, hr, hown, hts, hlk, hK, hD, hA⟩ := fx0
  subst hq
  exact lv_istore hx hb hdg hL.has hn rfl (fun ls' h' => k (okL_set (l := x0 :: x1 :: x2 :: x3 :: x4 :: x5 :: x6 :: x7 :: o0 :: r) (x := .inl x) 8 (fun z e => by cases e; exact okL_h os) ol) (okL_t os) om Γ A p l e s m args below meth c fx H locs ls' hP hS (Lh.set (x := .inl x) h'))
theorem v_aload8 {M : MD} {d : Nat} {Q : Option Int → Mem → Prop} {pc : Nat} {r st : List AV} {σ : Mem} {x0 x1 x2 x3 x4 x5 x6 x7 : AV} {x : Nat} (pc' : Nat) (hdg : decode M.2.1 pc = .ok (.aload 8, 2)) (hq : pc + 2 = pc') (k : V M d Q pc' (x0 :: x1 :: x2 :: x3 :: x4 :: x5 :: x6 :: x7 :: (.inr (some x)) :: r) (.inr (some x) :: st) σ) : V M d Q pc (x0 :: x1 :: x2 :: x3 :: x4 :: x5 :: x6 :: x7 :: (.inr (some x)) :: r) st σ := by
  intro ol os om Γ A p l e s m args below meth c fx H locs lsA hP hS hL
  have fx0 := fx
  obtain ⟨hx, hb, hml, hr, hown, hts, hlk, hK, hD, hA⟩ := fx0
  subst hq
  exact lv_aload hx hb hdg (hL.get (i := 8) rfl (by simp)) (k ol (okL_r os) om Γ A p l e s m args below meth c fx H locs lsA hP hS hL)
theorem v_astore8 {M : MD} {d : Nat} {Q : Option Int → Mem → Prop} {pc : Nat} {r st : List AV} {σ : Mem} {x0 x1 x2 x3 x4 x5 x6 x7 : AV} {o0 : AV} {x : Nat} (pc' : Nat) (hdg : decode M.2.1 pc = .ok (.astore 8, 2)) (hq : pc + 2 = pc') (hn : 8 < M.2.2.1) (k : V M d Q pc' (x0 :: x1 :: x2 :: x3 :: x4 :: x5 :: x6 :: x7 :: (.inr (some x)) :: r) st σ) : V M d Q pc (x0 :: x1 :: x2 :: x3 :: x4 :: x5 :: x6 :: x7 :: o0 :: r) (.inr (some x) :: st) σ := by
  intro ol os om Γ A p l e s m args below meth c fx H locs lsA hP hS hL
  have fx0 := fx
  obtain ⟨hx, hb, hml, hr, hown, hts, hlk, hK, hD, hA⟩ := fx0
  subst hq
  exact lv_astore hx hb hdg hL.has hn rfl (fun ls' h' => k (okL_set (l := x0 :: x1 :: x2 :: x3 :: x4 :: x5 :: x6 :: x7 :: o0 :: r) (x := .inr (some x)) 8 (fun z e => by cases e) ol) (okL_t os) om Γ A p l e s m args below meth c fx H locs ls' hP hS (Lh.set (x := .inr (some x)) h'))
theorem v_iinc8 {M : MD} {d : Nat} {Q : Option Int → Mem → Prop} {pc : Nat} {r st : List AV} {σ : Mem} {x0 x1 x2 x3 x4 x5 x6 x7 : AV} {x v : Int} (pc' : Nat) {n : Int} (hdg : decode M.2.1 pc = .ok (.iinc 8 n, 3)) (hq : pc + 3 = pc') (hn : 8 < M.2.2.1) (hv : x + n = v) (hr0 : inR v) (k : V M d Q pc' (x0 :: x1 :: x2 :: x3 :: x4 :: x5 :: x6 :: x7 :: (.inl v) :: r) st σ) : V M d Q pc (x0 :: x1 :: x2 :: x3 :: x4 :: x5 :: x6 :: x7 :: (.inl x) :: r) st σ := by
  intro ol os om Γ A p l e s m args below meth c fx H locs lsA hP hS hL
  have fx0 := fx
  obtain ⟨hx, hb, hml, hr, hown, hts, hlk, hK, hD, hA⟩ := fx0
  subst hq
  obtain ⟨k0, hk0⟩ := List.getElem?_of_mem (lvl_mem (Γ := Γ) (ls := x0 :: x1 :: x2 :: x3 :: x4 :: x5 :: x6 :: x7 :: (.inl x) :: r) (i := 8) (v := .inl x) rfl (by simp))
  exact lv_iinc (v := Int32.ofInt v) hx hb hdg hL.has hk0 (by rw [← Int32.ofInt_add, hv]) hn rfl (fun ls' h' => k (okL_set (l := x0 :: x1 :: x2 :: x3 :: x4 :: x5 :: x6 :: x7 :: (.inl x) :: r) (x := .inl v) 8 (fun z e => by cases e; exact hr0) ol) os om Γ A p l e s m args below meth c fx H locs ls' hP hS (Lh.set (x := .inl v) h'))
theorem v_iload9 {M : MD} {d : Nat} {Q : Option Int → Mem → Prop} {pc : Nat} {r st : List AV} {σ : Mem} {x0 x1 x2 x3 x4 x5 x6 x7 x8 : AV} {x : Int} (pc' : Nat) (hdg : decode M.2.1 pc = .ok (.iload 9, 2)) (hq : pc + 2 = pc') (k : V M d Q pc' (x0 :: x1 :: x2 :: x3 :: x4 :: x5 :: x6 :: x7 :: x8 :: (.inl x) :: r) (.inl x :: st) σ) : V M d Q pc (x0 :: x1 :: x2 :: x3 :: x4 :: x5 :: x6 :: x7 :: x8 :: (.inl x) :: r) st σ := by
  intro ol os om Γ A p l e s m args below meth c fx H locs lsA hP hS hL
  have fx0 := fx
  obtain ⟨hx, hb, hml, hr, hown, hts, hlk, hK, hD, hA⟩ := fx0
  subst hq
  exact lv_iload hx hb hdg (hL.get (i := 9) rfl (by simp)) (k ol (okL_i (okL_get ol (i := 9) rfl) os) om Γ A p l e s m args below meth c fx H locs lsA hP hS hL)
theorem v_istore9 {M : MD} {d : Nat} {Q : Option Int → Mem → Prop} {pc : Nat} {r st : List AV} {σ : Mem} {x0 x1 x2 x3 x4 x5 x6 x7 x8 : AV} {o0 : AV} {x : Int} (pc' : Nat) (hdg : decode M.2.1 pc = .ok (.istore 9, 2)) (hq : pc + 2 = pc') (hn : 9 < M.2.2.1) (k : V M d Q pc' (x0 :: x1 :: x2 :: x3 :: x4 :: x5 :: x6 :: x7 :: x8 :: (.inl x) :: r) st σ) : V M d Q pc (x0 :: x1 :: x2 :: x3 :: x4 :: x5 :: x6 :: x7 :: x8 :: o0 :: r) (.inl x :: st) σ := by
  intro ol os om Γ A p l e s m args below meth c fx H locs lsA hP hS hL
  have fx0 := fx
  obtain ⟨hx, hb, hml, hr, hown, hts, hlk, hK, hD, hA⟩ := fx0
  subst hq
  exact lv_istore hx hb hdg hL.has hn rfl (fun ls' h' => k (okL_set (l := x0 :: x1 :: x2 :: x3 :: x4 :: x5 :: x6 :: x7 :: x8 :: o0 :: r) (x := .inl x) 9 (fun z e => by cases e; exact okL_h os) ol) (okL_t os) om Γ A p l e s m args below meth c fx H locs ls' hP hS (Lh.set (x := .inl x) h'))
theorem v_aload9 {M : MD} {d : Nat} {Q : Option Int → Mem → Prop} {pc : Nat} {r st : List AV} {σ : Mem} {x0 x1 x2 x3 x4 x5 x6 x7 x8 : AV} {x : Nat} (pc' : Nat) (hdg : decode M.2.1 pc = .ok (.aload 9, 2)) (hq : pc + 2 = pc') (k : V M d Q pc' (x0 :: x1 :: x2 :: x3 :: x4 :: x5 :: x6 :: x7 :: x8 :: (.inr (some x)) :: r) (.inr (some x) :: st) σ) : V M d Q pc (x0 :: x1 :: x2 :: x3 :: x4 :: x5 :: x6 :: x7 :: x8 :: (.inr (some x)) :: r) st σ := by
  intro ol os om Γ A p l e s m args below meth c fx H locs lsA hP hS hL
  have fx0 := fx
  obtain ⟨hx, hb, hml, hr, hown, hts, hlk, hK, hD, hA⟩ := fx0
  subst hq
  exact lv_aload hx hb hdg (hL.get (i := 9) rfl (by simp)) (k ol (okL_r os) om Γ A p l e s m args below meth c fx H locs lsA hP hS hL)
theorem v_astore9 {M : MD} {d : Nat} {Q : Option Int → Mem → Prop} {pc : Nat} {r st : List AV} {σ : Mem} {x0 x1 x2 x3 x4 x5 x6 x7 x8 : AV} {o0 : AV} {x : Nat} (pc' : Nat) (hdg : decode M.2.1 pc = .ok (.astore 9, 2)) (hq : pc + 2 = pc') (hn : 9 < M.2.2.1) (k : V M d Q pc' (x0 :: x1 :: x2 :: x3 :: x4 :: x5 :: x6 :: x7 :: x8 :: (.inr (some x)) :: r) st σ) : V M d Q pc (x0 :: x1 :: x2 :: x3 :: x4 :: x5 :: x6 :: x7 :: x8 :: o0 :: r) (.inr (some x) :: st) σ := by
  intro ol os om Γ A p l e s m args below meth c fx H locs lsA hP hS hL
  have fx0 := fx
  obtain ⟨hx, hb, hml, hr, hown, hts, hlk, hK, hD, hA⟩ := fx0
  subst hq
  exact lv_astore hx hb hdg hL.has hn rfl (fun ls' h' => k (okL_set (l := x0 :: x1 :: x2 :: x3 :: x4 :: x5 :: x6 :: x7 :: x8 :: o0 :: r) (x := .inr (some x)) 9 (fun z e => by cases e) ol) (okL_t os) om Γ A p l e s m args below meth c fx H locs ls' hP hS (Lh.set (x := .inr (some x)) h'))
theorem v_iinc9 {M : MD} {d : Nat} {Q : Option Int → Mem → Prop} {pc : Nat} {r st : List AV} {σ : Mem} {x0 x1 x2 x3 x4 x5 x6 x7 x8 : AV} {x v : Int} (pc' : Nat) {n : Int} (hdg : decode M.2.1 pc = .ok (.iinc 9 n, 3)) (hq : pc + 3 = pc') (hn : 9 < M.2.2.1) (hv : x + n = v) (hr0 : inR v) (k : V M d Q pc' (x0 :: x1 :: x2 :: x3 :: x4 :: x5 :: x6 :: x7 :: x8 :: (.inl v) :: r) st σ) : V M d Q pc (x0 :: x1 :: x2 :: x3 :: x4 :: x5 :: x6 :: x7 :: x8 :: (.inl x) :: r) st σ := by
  intro ol os om Γ A p l e s m args below meth c fx H locs lsA hP hS hL
  have fx0 := fx
  obtain ⟨hx, hb, hml, hr, hown, hts, hlk, hK, hD, hA⟩ := fx0
  subst hq
  obtain ⟨k0, hk0⟩ := List.getElem?_of_mem (lvl_mem (Γ := Γ) (ls := x0 :: x1 :: x2 :: x3 :: x4 :: x5 :: x6 :: x7 :: x8 :: (.inl x) :: r) (i := 9) (v := .inl x) rfl (by simp))
  exact lv_iinc (v := Int32.ofInt v) hx hb hdg hL.has hk0 (by rw [← Int32.ofInt_add, hv]) hn rfl (fun ls' h' => k (okL_set (l := x0 :: x1 :: x2 :: x3 :: x4 :: x5 :: x6 :: x7 :: x8 :: (.inl x) :: r) (x := .inl v) 9 (fun z e => by cases e; exact hr0) ol) os om Γ A p l e s m args below meth c fx H locs ls' hP hS (Lh.set (x := .inl v) h'))
theorem v_iload10 {M : MD} {d : Nat} {Q : Option Int → Mem → Prop} {pc : Nat} {r st : List AV} {σ : Mem} {x0 x1 x2 x3 x4 x5 x6 x7 x8 x9 : AV} {x : Int} (pc' : Nat) (hdg : decode M.2.1 pc = .ok (.iload 10, 2)) (hq : pc + 2 = pc') (k : V M d Q pc' (x0 :: x1 :: x2 :: x3 :: x4 :: x5 :: x6 :: x7 :: x8 :: x9 :: (.inl x) :: r) (.inl x :: st) σ) : V M d Q pc (x0 :: x1 :: x2 :: x3 :: x4 :: x5 :: x6 :: x7 :: x8 :: x9 :: (.inl x) :: r) st σ := by
  intro ol os om Γ A p l e s m args below meth c fx H locs lsA hP hS hL
  have fx0 := fx
  obtain ⟨hx, hb, hml, hr, hown, hts, hlk, hK, hD, hA⟩ := fx0
  subst hq
  exact lv_iload hx hb hdg (hL.get (i := 10) rfl (by simp)) (k ol (okL_i (okL_get ol (i := 10) rfl) os) om Γ A p l e s m args below meth c fx H locs lsA hP hS hL)
theorem v_istore10 {M : MD} {d : Nat} {Q : Option Int → Mem → Prop} {pc : Nat} {r st : List AV} {σ : Mem} {x0 x1 x2 x3 x4 x5 x6 x7 x8 x9 : AV} {o0 : AV} {x : Int} (pc' : Nat) (hdg : decode M.2.1 pc = .ok (.istore 10, 2)) (hq : pc + 2 = pc') (hn : 10 < M.2.2.1) (k : V M d Q pc' (x0 :: x1 :: x2 :: x3 :: x4 :: x5 :: x6 :: x7 :: x8 :: x9 :: (.inl x) :: r) st σ) : V M d Q pc (x0 :: x1 :: x2 :: x3 :: x4 :: x5 :: x6 :: x7 :: x8 :: x9 :: o0 :: r) (.inl x :: st) σ := by
  intro ol os om Γ A p l e s m args below meth c fx H locs lsA hP hS hL
  have fx0 := fx
  obtain ⟨hx, hb, hml, hr, hown, hts, hlk, hK, hD, hA⟩ := fx0
  subst hq
  exact lv_istore hx hb hdg hL.has hn rfl (fun ls' h' => k (okL_set (l := x0 :: x1 :: x2 :: x3 :: x4 :: x5 :: x6 :: x7 :: x8 :: x9 :: o0 :: r) (x := .inl x) 10 (fun z e => by cases e; exact okL_h os) ol) (okL_t os) om Γ A p l e s m args below meth c fx H locs ls' hP hS (Lh.set (x := .inl x) h'))
theorem v_aload10 {M : MD} {d : Nat} {Q : Option Int → Mem → Prop} {pc : Nat} {r st : List AV} {σ : Mem} {x0 x1 x2 x3 x4 x5 x6 x7 x8 x9 : AV} {x : Nat} (pc' : Nat) (hdg : decode M.2.1 pc = .ok (.aload 10, 2)) (hq : pc + 2 = pc') (k : V M d Q pc' (x0 :: x1 :: x2 :: x3 :: x4 :: x5 :: x6 :: x7 :: x8 :: x9 :: (.inr (some x)) :: r) (.inr (some x) :: st) σ) : V M d Q pc (x0 :: x1 :: x2 :: x3 :: x4 :: x5 :: x6 :: x7 :: x8 :: x9 :: (.inr (some x)) :: r) st σ := by
  intro ol os om Γ A p l e s m args below meth c fx H locs lsA hP hS hL
  have fx0 := fx
  obtain ⟨hx, hb, hml, hr, hown, hts, hlk, hK, hD, hA⟩ := fx0
  subst hq
  exact lv_aload hx hb hdg (hL.get (i := 10) rfl (by simp)) (k ol (okL_r os) om Γ A p l e s m args below meth c fx H locs lsA hP hS hL)
theorem v_astore10 {M : MD} {d : Nat} {Q : Option Int → Mem → Prop} {pc : Nat} {r st : List AV} {σ : Mem} {x0 x1 x2 x3 x4 x5 x6 x7 x8 x9 : AV} {o0 : AV} {x : Nat} (pc' : Nat) (hdg : decode M.2.1 pc = .ok (.astore 10, 2)) (hq : pc + 2 = pc') (hn : 10 < M.2.2.1) (k : V M d Q pc' (x0 :: x1 :: x2 :: x3 :: x4 :: x5 :: x6 :: x7 :: x8 :: x9 :: (.inr (some x)) :: r) st σ) : V M d Q pc (x0 :: x1 :: x2 :: x3 :: x4 :: x5 :: x6 :: x7 :: x8 :: x9 :: o0 :: r) (.inr (some x) :: st) σ := by
  intro ol os om Γ A p l e s m args below meth c fx H locs lsA hP hS hL
  have fx0 := fx
  obtain ⟨hx, hb, hml, hr, hown, hts, hlk, hK, hD, hA⟩ := fx0
  subst hq
  exact lv_astore hx hb hdg hL.has hn rfl (fun ls' h' => k (okL_set (l := x0 :: x1 :: x2 :: x3 :: x4 :: x5 :: x6 :: x7 :: x8 :: x9 :: o0 :: r) (x := .inr (some x)) 10 (fun z e => by cases e) ol) (okL_t os) om Γ A p l e s m args below meth c fx H locs ls' hP hS (Lh.set (x := .inr (some x)) h'))
theorem v_iinc10 {M : MD} {d : Nat} {Q : Option Int → Mem → Prop} {pc : Nat} {r st : List AV} {σ : Mem} {x0 x1 x2 x3 x4 x5 x6 x7 x8 x9 : AV} {x v : Int} (pc' : Nat) {n : Int} (hdg : decode M.2.1 pc = .ok (.iinc 10 n, 3)) (hq : pc + 3 = pc') (hn : 10 < M.2.2.1) (hv : x + n = v) (hr0 : inR v) (k : V M d Q pc' (x0 :: x1 :: x2 :: x3 :: x4 :: x5 :: x6 :: x7 :: x8 :: x9 :: (.inl v) :: r) st σ) : V M d Q pc (x0 :: x1 :: x2 :: x3 :: x4 :: x5 :: x6 :: x7 :: x8 :: x9 :: (.inl x) :: r) st σ := by
  intro ol os om Γ A p l e s m args below meth c fx H locs lsA hP hS hL
  have fx0 := fx
  obtain ⟨hx, hb, hml, hr, hown, hts, hlk, hK, hD, hA⟩ := fx0
  subst hq
  obtain ⟨k0, hk0⟩ := List.getElem?_of_mem (lvl_mem (Γ := Γ) (ls := x0 :: x1 :: x2 :: x3 :: x4 :: x5 :: x6 :: x7 :: x8 :: x9 :: (.inl x) :: r) (i := 10) (v := .inl x) rfl (by simp))
  exact lv_iinc (v := Int32.ofInt v) hx hb hdg hL.has hk0 (by rw [← Int32.ofInt_add, hv]) hn rfl (fun ls' h' => k (okL_set (l := x0 :: x1 :: x2 :: x3 :: x4 :: x5 :: x6 :: x7 :: x8 :: x9 :: (.inl x) :: r) (x := .inl v) 10 (fun z e => by cases e; exact hr0) ol) os om Γ A p l e s m args below meth c fx H locs ls' hP hS (Lh.set (x := .inl v) h'))
theorem v_iload11 {M : MD} {d : Nat} {Q : Option Int → Mem → Prop} {pc : Nat} {r st : List AV} {σ : Mem} {x0 x1 x2 x3 x4 x5 x6 x7 x8 x9 x10 : AV} {x : Int} (pc' : Nat) (hdg : decode M.2.1 pc = .ok (.iload 11, 2)) (hq : pc + 2 = pc') (k : V M d Q pc' (x0 :: x1 :: x2 :: x3 :: x4 :: x5 :: x6 :: x7 :: x8 :: x9 :: x10 :: (.inl x) :: r) (.inl x :: st) σ) : V M d Q pc (x0 :: x1 :: x2 :: x3 :: x4 :: x5 :: x6 :: x7 :: x8 :: x9 :: x10 :: (.inl x) :: r) st σ := by
  intro ol os om Γ A p l e s m args below meth c fx H locs lsA hP hS hL
  have fx0 := fx
  obtain ⟨hx, hb, hml, hr, hown, hts, hlk, hK, hD, hA⟩ := fx0
  subst hq
  exact lv_iload hx hb hdg (hL.get (i := 11) rfl (by simp)) (k ol (okL_i (okL_get ol (i := 11) rfl) os) om Γ A p l e s m args below meth c fx H locs lsA hP hS hL)
theorem v_istore11 {M : MD} {d : Nat} {Q : Option Int → Mem → Prop} {pc : Nat} {r st : List AV} {σ : Mem} {x0 x1 x2 x3 x4 x5 x6 x7 x8 x9 x10 : AV} {o0 : AV} {x : Int} (pc' : Nat) (hdg : decode M.2.1 pc = .ok (.istore 11, 2)) (hq : pc + 2 = pc') (hn : 11 < M.2.2.1) (k : V M d Q pc' (x0 :: x1 :: x2 :: x3 :: x4 :: x5 :: x6 :: x7 :: x8 :: x9 :: x10 :: (.inl x) :: r) st σ) : V M d Q pc (x0 :: x1 :: x2 :: x3 :: x4 :: x5 :: x6 :: x7 :: x8 :: x9 :: x10 :: o0 :: r) (.inl x :: st) σ := by
  intro ol os om Γ A p l e s m args below meth c fx H locs lsA hP hS hL
  have fx0 := fx
  obtain ⟨hx, hb, hml, hr, hown, hts, hlk, hK, hD, hA⟩ := fx0
  subst hq
  exact lv_istore hx hb hdg hL.has hn rfl (fun ls' h' => k (okL_set (l := x0 :: x1 :: x2 :: x3 :: x4 :: x5 :: x6 :: x7 :: x8 :: x9 :: x10 :: o0 :: r) (x := .inl x) 11 (fun z e => by cases e; exact okL_h os) ol) (okL_t os) om Γ A p l e s m args below meth c fx H locs ls' hP hS (Lh.set (x := .inl x) h'))
theorem v_aload11 {M : MD} {d : Nat} {Q : Option Int → Mem → Prop} {pc : Nat} {r st : List AV} {σ : Mem} {x0 x1 x2 x3 x4 x5 x6 x7 x8 x9 x10 : AV} {x : Nat} (pc' : Nat) (hdg : decode M.2.1 pc = .ok (.aload 11, 2)) (hq : pc + 2 = pc') (k : V M d Q pc' (x0 :: x1 :: x2 :: x3 :: x4 :: x5 :: x6 :: x7 :: x8 :: x9 :: x10 :: (.inr (some x)) :: r) (.inr (some x) :: st) σ) : V M d Q pc (x0 :: x1 :: x2 :: x3 :: x4 :: x5 :: x6 :: x7 :: x8 :: x9 :: x10 :: (.inr (some x)) :: r) st σ := by
  intro ol os om Γ A p l e s m args below meth c fx H locs lsA hP hS hL
  have fx0 := fx
  obtain ⟨hx, hb, hml, hr, hown, hts, hlk, hK, hD, hA⟩ := fx0
  subst hq
  exact lv_aload hx hb hdg (hL.get (i := 11) rfl (by simp)) (k ol (okL_r os) om Γ A p l e s m args below meth c fx H locs lsA hP hS hL)
theorem v_astore11 {M : MD} {d : Nat} {Q : Option Int → Mem → Prop} {pc : Nat} {r st : List AV} {σ : Mem} {x0 x1 x2 x3 x4 x5 x6 x7 x8 x9 x10 : AV} {o0 : AV} {x : Nat} (pc' : Nat) (hdg : decode M.2.1 pc = .ok (.astore 11, 2)) (hq : pc + 2 = pc') (hn : 11 < M.2.2.1) (k : V M d Q pc' (x0 :: x1 :: x2 :: x3 :: x4 :: x5 :: x6 :: x7 :: x8 :: x9 :: x10 :: (.inr (some x)) :: r) st σ) : V M d Q pc (x0 :: x1 :: x2 :: x3 :: x4 :: x5 :: x6 :: x7 :: x8 :: x9 :: x10 :: o0 :: r) (.inr (some x) :: st) σ := by
  intro ol os om Γ A p l e s m args below meth c fx H locs lsA hP hS hL
  have fx0 := fx
  obtain ⟨hx, hb, hml, hr, hown, hts, hlk, hK, hD, hA⟩ := fx0
  subst hq
  exact lv_astore hx hb hdg hL.has hn rfl (fun ls' h' => k (okL_set (l := x0 :: x1 :: x2 :: x3 :: x4 :: x5 :: x6 :: x7 :: x8 :: x9 :: x10 :: o0 :: r) (x := .inr (some x)) 11 (fun z e => by cases e) ol) (okL_t os) om Γ A p l e s m args below meth c fx H locs ls' hP hS (Lh.set (x := .inr (some x)) h'))
theorem v_iinc11 {M : MD} {d : Nat} {Q : Option Int → Mem → Prop} {pc : Nat} {r st : List AV} {σ : Mem} {x0 x1 x2 x3 x4 x5 x6 x7 x8 x9 x10 : AV} {x v : Int} (pc' : Nat) {n : Int} (hdg : decode M.2.1 pc = .ok (.iinc 11 n, 3)) (hq : pc + 3 = pc') (hn : 11 < M.2.2.1) (hv : x + n = v) (hr0 : inR v) (k : V M d Q pc' (x0 :: x1 :: x2 :: x3 :: x4 :: x5 :: x6 :: x7 :: x8 :: x9 :: x10 :: (.inl v) :: r) st σ) : V M d Q pc (x0 :: x1 :: x2 :: x3 :: x4 :: x5 :: x6 :: x7 :: x8 :: x9 :: x10 :: (.inl x) :: r) st σ := by
  intro ol os om Γ A p l e s m args below meth c fx H locs lsA hP hS hL
  have fx0 := fx
  obtain ⟨hx, hb, hml, hr, hown, hts, hlk, hK, hD, hA⟩ := fx0
  subst hq
  obtain ⟨k0, hk0⟩ := List.getElem?_of_mem (lvl_mem (Γ := Γ) (ls := x0 :: x1 :: x2 :: x3 :: x4 :: x5 :: x6 :: x7 :: x8 :: x9 :: x10 :: (.inl x) :: r) (i := 11) (v := .inl x) rfl (by simp))
  exact lv_iinc (v := Int32.ofInt v) hx hb hdg hL.has hk0 (by rw [← Int32.ofInt_add, hv]) hn rfl (fun ls' h' => k (okL_set (l := x0 :: x1 :: x2 :: x3 :: x4 :: x5 :: x6 :: x7 :: x8 :: x9 :: x10 :: (.inl x) :: r) (x := .inl v) 11 (fun z e => by cases e; exact hr0) ol) os om Γ A p l e s m args below meth c fx H locs ls' hP hS (Lh.set (x := .inl v) h'))
theorem v_iload12 {M : MD} {d : Nat} {Q : Option Int → Mem → Prop} {pc : Nat} {r st : List AV} {σ : Mem} {x0 x1 x2 x3 x4 x5 x6 x7 x8 x9 x10 x11 : AV} {x : Int} (pc' : Nat) (hdg : decode M.2.1 pc = .ok (.iload 12, 2)) (hq : pc + 2 = pc') (k : V M d Q pc' (x0 :: x1 :: x2 :: x3 :: x4 :: x5 :: x6 :: x7 :: x8 :: x9 :: x10 :: x11 :: (.inl x) :: r) (.inl x :: st) σ) : V M d Q pc (x0 :: x1 :: x2 :: x3 :: x4 :: x5 :: x6 :: x7 :: x8 :: x9 :: x10 :: x11 :: (.inl x) :: r) st σ := by
  intro ol os om Γ A p l e s m args below meth c fx H locs lsA hP hS hL
  have fx0 := fx
  obtain ⟨hx, hb, hml, hr, hown, hts, hlk, hK, hD, hA⟩ := fx0
  subst hq
  exact lv_iload hx hb hdg (hL.get (i := 12) rfl (by simp)) (k ol (okL_i (okL_get ol (i := 12) rfl) os) om Γ A p l e s m args below meth c fx H locs lsA hP hS hL)
theorem v_istore12 {M : MD} {d : Nat} {Q : Option Int → Mem → Prop} {pc : Nat} {r st : List AV} {σ : Mem} {x0 x1 x2 x3 x4 x5 x6 x7 x8 x9 x10 x11 : AV} {o0 : AV} {x : Int} (pc' : Nat) (hdg : decode M.2.1 pc = .ok (.istore 12, 2)) (hq : pc + 2 = pc') (hn : 12 < M.2.2.1) (k : V M d Q pc' (x0 :: x1 :: x2 :: x3 :: x4 :: x5 :: x6 :: x7 :: x8 :: x9 :: x10 :: x11 :: (.inl x) :: r) st σ) : V M d Q pc (x0 :: x1 :: x2 :: x3 :: x4 :: x5 :: x6 :: x7 :: x8 :: x9 :: x10 :: x11 :: o0 :: r) (.inl x :: st) σ := by
  intro ol os om Γ A p l e s m args below meth c fx H locs lsA hP hS hL
  have fx0 := fx
  obtain ⟨hx, hb, hml, hr, hown, hts, hlk, hK, hD, hA⟩ := fx0
  subst hq
  exact lv_istore hx hb hdg hL.has hn rfl (fun ls' h' => k (okL_set (l := x0 :: x1 :: x2 :: x3 :: x4 :: x5 :: x6 :: x7 :: x8 :: x9 :: x10 :: x11 :: o0 :: r) (x := .inl x) 12 (fun z e => by cases e; exact okL_h os) ol) (okL_t os) om Γ A p l e s m args below meth c fx H locs ls' hP hS (Lh.set (x := .inl x) h'))
theorem v_aload12 {M : MD} {d : Nat} {Q : Option Int → Mem → Prop} {pc : Nat} {r st : List AV} {σ : Mem} {x0 x1 x2 x3 x4 x5 x6 x7 x8 x9 x10 x11 : AV} {x : Nat} (pc' : Nat) (hdg : decode M.2.1 pc = .ok (.aload 12, 2)) (hq : pc + 2 = pc') (k : V M d Q pc' (x0 :: x1 :: x2 :: x3 :: x4 :: x5 :: x6 :: x7 :: x8 :: x9 :: x10 :: x11 :: (.inr (some x)) :: r) (.inr (some x) :: st) σ) : V M d Q pc (x0 :: x1 :: x2 :: x3 :: x4 :: x5 :: x6 :: x7 :: x8 :: x9 :: x10 :: x11 :: (.inr (some x)) :: r) st σ := by
  intro ol os om Γ A p l e s m args below meth c fx H locs lsA hP hS hL
  have fx0 := fx
  obtain ⟨hx, hb, hml, hr, hown, hts, hlk, hK, hD, hA⟩ := fx0
  subst hq
  exact lv_aload hx hb hdg (hL.get (i := 12) rfl (by simp)) (k ol (okL_r os) om Γ A p l e s m args below meth c fx H locs lsA hP hS hL)
theorem v_astore12 {M : MD} {d : Nat} {Q : Option Int → Mem → Prop} {pc : Nat} {r st : List AV} {σ : Mem} {x0 x1 x2 x3 x4 x5 x6 x7 x8 x9 x10 x11 : AV} {o0 : AV} {x : Nat} (pc' : Nat) (hdg : decode M.2.1 pc = .ok (.astore 12, 2)) (hq : pc + 2 = pc') (hn : 12 < M.2.2.1) (k : V M d Q pc' (x0 :: x1 :: x2 :: x3 :: x4 :: x5 :: x6 :: x7 :: x8 :: x9 :: x10 :: x11 :: (.inr (some x)) :: r) st σ) : V M d Q pc (x0 :: x1 :: x2 :: x3 :: x4 :: x5 :: x6 :: x7 :: x8 :: x9 :: x10 :: x11 :: o0 :: r) (.inr (some x) :: st) σ := by
  intro ol os om Γ A p l e s m args below meth c fx H locs lsA hP hS hL
  have fx0 := fx
  obtain ⟨hx, hb, hml, hr, hown, hts, hlk, hK, hD, hA⟩ := fx0
  subst hq
  exact lv_astore hx hb hdg hL.has hn rfl (fun ls' h' => k (okL_set (l := x0 :: x1 :: x2 :: x3 :: x4 :: x5 :: x6 :: x7 :: x8 :: x9 :: x10 :: x11 :: o0 :: r) (x := .inr (some x)) 12 (fun z e => by cases e) ol) (okL_t os) om Γ A p l e s m args below meth c fx H locs ls' hP hS (Lh.set (x := .inr (some x)) h'))
theorem v_iinc12 {M : MD} {d : Nat} {Q : Option Int → Mem → Prop} {pc : Nat} {r st : List AV} {σ : Mem} {x0 x1 x2 x3 x4 x5 x6 x7 x8 x9 x10 x11 : AV} {x v : Int} (pc' : Nat) {n : Int} (hdg : decode M.2.1 pc = .ok (.iinc 12 n, 3)) (hq : pc + 3 = pc') (hn : 12 < M.2.2.1) (hv : x + n = v) (hr0 : inR v) (k : V M d Q pc' (x0 :: x1 :: x2 :: x3 :: x4 :: x5 :: x6 :: x7 :: x8 :: x9 :: x10 :: x11 :: (.inl v) :: r) st σ) : V M d Q pc (x0 :: x1 :: x2 :: x3 :: x4 :: x5 :: x6 :: x7 :: x8 :: x9 :: x10 :: x11 :: (.inl x) :: r) st σ := by
  intro ol os om Γ A p l e s m args below meth c fx H locs lsA hP hS hL
  have fx0 := fx
  obtain ⟨hx, hb, hml, hr, hown, hts, hlk, hK, hD, hA⟩ := fx0
  subst hq
  obtain ⟨k0, hk0⟩ := List.getElem?_of_mem (lvl_mem (Γ := Γ) (ls := x0 :: x1 :: x2 :: x3 :: x4 :: x5 :: x6 :: x7 :: x8 :: x9 :: x10 :: x11 :: (.inl x) :: r) (i := 12) (v := .inl x) rfl (by simp))
  exact lv_iinc (v := Int32.ofInt v) hx hb hdg hL.has hk0 (by rw [← Int32.ofInt_add, hv]) hn rfl (fun ls' h' => k (okL_set (l := x0 :: x1 :: x2 :: x3 :: x4 :: x5 :: x6 :: x7 :: x8 :: x9 :: x10 :: x11 :: (.inl x) :: r) (x := .inl v) 12 (fun z e => by cases e; exact hr0) ol) os om Γ A p l e s m args below meth c fx H locs ls' hP hS (Lh.set (x := .inl v) h'))
theorem v_iload13 {M : MD} {d : Nat} {Q : Option Int → Mem → Prop} {pc : Nat} {r st : List AV} {σ : Mem} {x0 x1 x2 x3 x4 x5 x6 x7 x8 x9 x10 x11 x12 : AV} {x : Int} (pc' : Nat) (hdg : decode M.2.1 pc = .ok (.iload 13, 2)) (hq : pc + 2 = pc') (k : V M d Q pc' (x0 :: x1 :: x2 :: x3 :: x4 :: x5 :: x6 :: x7 :: x8 :: x9 :: x10 :: x11 :: x12 :: (.inl x) :: r) (.inl x :: st) σ) : V M d Q pc (x0 :: x1 :: x2 :: x3 :: x4 :: x5 :: x6 :: x7 :: x8 :: x9 :: x10 :: x11 :: x12 :: (.inl x) :: r) st σ := by
  intro ol os om Γ A p l e s m args below meth c fx H locs lsA hP hS hL
  have fx0 := fx
  obtain ⟨hx, hb, hml, hr, hown, hts, hlk, hK, hD, hA⟩ := fx0
  subst hq
  exact lv_iload hx hb hdg (hL.get (i := 13) rfl (by simp)) (k ol (okL_i (okL_get ol (i := 13) rfl) os) om Γ A p l e s m args below meth c fx H locs lsA hP hS hL)
theorem v_istore13 {M : MD} {d : Nat} {Q : Option Int → Mem → Prop} {pc : Nat} {r st : List AV} {σ : Mem} {x0 x1 x2 x3 x4 x5 x6 x7 x8 x9 x10 x11 x12 : AV} {o0 : AV} {x : Int} (pc' : Nat) (hdg : decode M.2.1 pc = .ok (.istore 13, 2)) (hq : pc + 2 = pc') (hn : 13 < M.2.2.1) (k : V M d Q pc' (x0 :: x1 :: x2 :: x3 :: x4 :: x5 :: x6 :: x7 :: x8 :: x9 :: x10 :: x11 :: x12 :: (.inl x) :: r) st σ) : V M d Q pc (x0 :: x1 :: x2 :: x3 :: x4 :: x5 :: x6 :: x7 :: x8 :: x9 :: x10 :: x11 :: x12 :: o0 :: r) (.inl x :: st) σ := by
  intro ol os om Γ A p l e s m args below meth c fx H locs lsA hP hS hL
  have fx0 := fx
  obtain ⟨hx, hb, hml, hr, hown, hts, hlk, hK, hD, hA⟩ := fx0
  subst hq
  exact lv_istore hx hb hdg hL.has hn rfl (fun ls' h' => k (okL_set (l := x0 :: x1 :: x2 :: x3 :: x4 :: x5 :: x6 :: x7 :: x8 :: x9 :: x10 :: x11 :: x12 :: o0 :: r) (x := .inl x) 13 (fun z e => by cases e; exact okL_h os) ol) (okL_t os) om Γ A p l e s m args below meth c fx H locs ls' hP hS (Lh.set (x := .inl x) h'))
theorem v_aload13 {M : MD} {d : Nat} {Q : Option Int → Mem → Prop} {pc : Nat} {r st : List AV} {σ : Mem} {x0 x1 x2 x3 x4 x5 x6 x7 x8 x9 x10 x11 x12 : AV} {x : Nat} (pc' : Nat) (hdg : decode M.2.1 pc = .ok (.aload 13, 2)) (hq : pc + 2 = pc') (k : V M d Q pc' (x0 :: x1 :: x2 :: x3 :: x4 :: x5 :: x6 :: x7 :: x8 :: x9 :: x10 :: x11 :: x12 :: (.inr (some x)) :: r) (.inr (some x) :: st) σ) : V M d Q pc (x0 :: x1 :: x2 :: x3 :: x4 :: x5 :: x6 :: x7 :: x8 :: x9 :: x10 :: x11 :: x12 :: (.inr (some x)) :: r) st σ := by
  intro ol os om Γ A p l e s m args below meth c fx H locs lsA hP hS hL
  have fx0 := fx
  obtain ⟨hx, hb, hml, hr, hown, hts, hlk, hK, hD, hA⟩ := fx0
  subst hq
  exact lv_aload hx hb hdg (hL.get (i := 13) rfl (by simp)) (k ol (okL_r os) om Γ A p l e s m args below meth c fx H locs lsA hP hS hL)
theorem v_astore13 {M : MD} {d : Nat} {Q : Option Int → Mem → Prop} {pc : Nat} {r st : List AV} {σ : Mem} {x0 x1 x2 x3 x4 x5 x6 x7 x8 x9 x10 x11 x12 : AV} {o0 : AV} {x : Nat} (pc' : Nat) (hdg : decode M.2.1 pc = .ok (.astore 13, 2)) (hq : pc + 2 = pc') (hn : 13 < M.2.2.1) (k : V M d Q pc' (x0 :: x1 :: x2 :: x3 :: x4 :: x5 :: x6 :: x7 :: x8 :: x9 :: x10 :: x11 :: x12 :: (.inr (some x)) :: r) st σ) : V M d Q pc (x0 :: x1 :: x2 :: x3 :: x4 :: x5 :: x6 :: x7 :: x8 :: x9 :: x10 :: x11 :: x12 :: o0 :: r) (.inr (some x) :: st) σ := by
  intro ol os om Γ A p l e s m args below meth c fx H locs lsA hP hS hL
  have fx0 := fx
  obtain ⟨hx, hb, hml, hr, hown, hts, hlk, hK, hD, hA⟩ := fx0
  subst hq
  exact lv_astore hx hb hdg hL.has hn rfl (fun ls' h' => k (okL_set (l := x0 :: x1 :: x2 :: x3 :: x4 :: x5 :: x6 :: x7 :: x8 :: x9 :: x10 :: x11 :: x12 :: o0 :: r) (x := .inr (some x)) 13 (fun z e => by cases e) ol) (okL_t os) om Γ A p l e s m args below meth c fx H locs ls' hP hS (Lh.set (x := .inr (some x)) h'))
theorem v_iinc13 {M : MD} {d : Nat} {Q : Option Int → Mem → Prop} {pc : Nat} {r st : List AV} {σ : Mem} {x0 x1 x2 x3 x4 x5 x6 x7 x8 x9 x10 x11 x12 : AV} {x v : Int} (pc' : Nat) {n : Int} (hdg : decode M.2.1 pc = .ok (.iinc 13 n, 3)) (hq : pc + 3 = pc') (hn : 13 < M.2.2.1) (hv : x + n = v) (hr0 : inR v) (k : V M d Q pc' (x0 :: x1 :: x2 :: x3 :: x4 :: x5 :: x6 :: x7 :: x8 :: x9 :: x10 :: x11 :: x12 :: (.inl v) :: r) st σ) : V M d Q pc (x0 :: x1 :: x2 :: x3 :: x4 :: x5 :: x6 :: x7 :: x8 :: x9 :: x10 :: x11 :: x12 :: (.inl x) :: r) st σ := by
  intro ol os om Γ A p l e s m args below meth c fx H locs lsA hP hS hL
  have fx0 := fx
  obtain ⟨hx, hb, hml, hr, hown, hts, hlk, hK, hD, hA⟩ := fx0
  subst hq
  obtain ⟨k0, hk0⟩ := List.getElem?_of_mem (lvl_mem (Γ := Γ) (ls := x0 :: x1 :: x2 :: x3 :: x4 :: x5 :: x6 :: x7 :: x8 :: x9 :: x10 :: x11 :: x12 :: (.inl x) :: r) (i := 13) (v := .inl x) rfl (by simp))
  exact lv_iinc (v := Int32.ofInt v) hx hb hdg hL.has hk0 (by rw [← Int32.ofInt_add, hv]) hn rfl (fun ls' h' => k (okL_set (l := x0 :: x1 :: x2 :: x3 :: x4 :: x5 :: x6 :: x7 :: x8 :: x9 :: x10 :: x11 :: x12 :: (.inl x) :: r) (x := .inl v) 13 (fun z e => by cases e; exact hr0) ol) os om Γ A p l e s m args below meth c fx H locs ls' hP hS (Lh.set (x := .inl v) h'))
theorem v_iload14 {M : MD} {d : Nat} {Q : Option Int → Mem → Prop} {pc : Nat} {r st : List AV} {σ : Mem} {x0 x1 x2 x3 x4 x5 x6 x7 x8 x9 x10 x11 x12 x13 : AV} {x : Int} (pc' : Nat) (hdg : decode M.2.1 pc = .ok (.iload 14, 2)) (hq : pc + 2 = pc') (k : V M d Q pc' (x0 :: x1 :: x2 :: x3 :: x4 :: x5 :: x6 :: x7 :: x8 :: x9 :: x10 :: x11 :: x12 :: x13 :: (.inl x) :: r) (.inl x :: st) σ) : V M d Q pc (x0 :: x1 :: x2 :: x3 :: x4 :: x5 :: x6 :: x7 :: x8 :: x9 :: x10 :: x11 :: x12 :: x13 :: (.inl x) :: r) st σ := by
  intro ol os om Γ A p l e s m args below meth c fx H locs lsA hP hS hL
  have fx0 := fx
  obtain ⟨hx, hb, hml, hr, hown, hts, hlk, hK, hD, hA⟩ := fx0
  subst hq
  exact lv_iload hx hb hdg (hL.get (i := 14) rfl (by simp)) (k ol (okL_i (okL_get ol (i := 14) rfl) os) om Γ A p l e s m args below meth c fx H locs lsA hP hS hL)
theorem v_istore14 {M : MD} {d : Nat} {Q : Option Int → Mem → Prop} {pc : Nat} {r st : List AV} {σ : Mem} {x0 x1 x2 x3 x4 x5 x6 x7 x8 x9 x10 x11 x12 x13 : AV} {o0 : AV} {x : Int} (pc' : Nat) (hdg : decode M.2.1 pc = .ok (.istore 14, 2)) (hq : pc + 2 = pc') (hn : 14 < M.2.2.1) (k : V M d Q pc' (x0 :: x1 :: x2 :: x3 :: x4 :: x5 :: x6 :: x7 :: x8 :: x9 :: x10 :: x11 :: x12 :: x13 :: (.inl x) :: r) st σ) : V M d Q pc (x0 :: x1 :: x2 :: x3 :: x4 :: x5 :: x6 :: x7 :: x8 :: x9 :: x10 :: x11 :: x12 :: x13 :: o0 :: r) (.inl x :: st) σ := by
  intro ol os om Γ A p l e s m args below meth c fx H locs lsA hP hS hL
  have fx0 := fx
  obtain ⟨hx, hb, hml, hr, hown, hts, hlk, hK, hD, hA⟩ := fx0
  subst hq
  exact lv_istore hx hb hdg hL.has hn rfl (fun ls' h' => k (okL_set (l := x0 :: x1 :: x2 :: x3 :: x4 :: x5 :: x6 :: x7 :: x8 :: x9 :: x10 :: x11 :: x12 :: x13 :: o0 :: r) (x := .inl x) 14 (fun z e => by cases e; exact okL_h os) ol) (okL_t os) om Γ A p l e s m args below meth c fx H locs ls' hP hS (Lh.set (x := .inl x) h'))
theorem v_aload14 {M : MD} {d : Nat} {Q : Option Int → Mem → Prop} {pc : Nat} {r st : List AV} {σ : Mem} {x0 x1 x2 x3 x4 x5 x6 x7 x8 x9 x10 x11 x12 x13 : AV} {x : Nat} (pc' : Nat) (hdg : decode M.2.1 pc = .ok (.aload 14, 2)) (hq : pc + 2 = pc') (k : V M d Q pc' (x0 :: x1 :: x2 :: x3 :: x4 :: x5 :: x6 :: x7 :: x8 :: x9 :: x10 :: x11 :: x12 :: x13 :: (.inr (some x)) :: r) (.inr (some x) :: st) σ) : V M d Q pc (x0 :: x1 :: x2 :: x3 :: x4 :: x5 :: x6 :: x7 :: x8 :: x9 :: x10 :: x11 :: x12 :: x13 :: (.inr (some x)) :: r) st σ := by
  intro ol os om Γ A p l e s m args below meth c fx H locs lsA hP hS hL
  have fx0 := fx
  obtain ⟨hx, hb, hml, hr, hown, hts, hlk, hK, hD, hA⟩ := fx0
  subst hq
  exact lv_aload hx hb hdg (hL.get (i := 14) rfl (by simp)) (k ol (okL_r os) om Γ A p l e s m args below meth c fx H locs lsA hP hS hL)
theorem v_astore14 {M : MD} {d : Nat} {Q : Option Int → Mem → Prop} {pc : Nat} {r st : List AV} {σ : Mem} {x0 x1 x2 x3 x4 x5 x6 x7 x8 x9 x10 x11 x12 x13 : AV} {o0 : AV} {x : Nat} (pc' : Nat) (hdg : decode M.2.1 pc = .ok (.astore 14, 2)) (hq : pc + 2 = pc') (hn : 14 < M.2.2.1) (k : V M d Q pc' (x0 :: x1 :: x2 :: x3 :: x4 :: x5 :: x6 :: x7 :: x8 :: x9 :: x10 :: x11 :: x12 :: x13 :: (.inr (some x)) :: r) st σ) : V M d Q pc (x0 :: x1 :: x2 :: x3 :: x4 :: x5 :: x6 :: x7 :: x8 :: x9 :: x10 :: x11 :: x12 :: x13 :: o0 :: r) (.inr (some x) :: st) σ := by
  intro ol os om Γ A p l e s m args below meth c fx H locs lsA hP hS hL
  have fx0 := fx
  obtain ⟨hx, hb, hml, hr, hown, hts, hlk, hK, hD, hA⟩ := fx0
  subst hq
  exact lv_astore hx hb hdg hL.has hn rfl (fun ls' h' => k (okL_set (l := x0 :: x1 :: x2 :: x3 :: x4 :: x5 :: x6 :: x7 :: x8 :: x9 :: x10 :: x11 :: x12 :: x13 :: o0 :: r) (x := .inr (some x)) 14 (fun z e => by cases e) ol) (okL_t os) om Γ A p l e s m args below meth c fx H locs ls' hP hS (Lh.set (x := .inr (some x)) h'))
theorem v_iinc14 {M : MD} {d : Nat} {Q : Option Int → Mem → Prop} {pc : Nat} {r st : List AV} {σ : Mem} {x0 x1 x2 x3 x4 x5 x6 x7 x8 x9 x10 x11 x12 x13 : AV} {x v : Int} (pc' : Nat) {n : Int} (hdg : decode M.2.1 pc = .ok (.iinc 14 n, 3)) (hq : pc + 3 = pc') (hn : 14 < M.2.2.1) (hv : x + n = v) (hr0 : inR v) (k : V M d Q pc' (x0 :: x1 :: x2 :: x3 :: x4 :: x5 :: x6 :: x7 :: x8 :: x9 :: x10 :: x11 :: x12 :: x13 :: (.inl v) :: r) st σ) : V M d Q pc (x0 :: x1 :: x2 :: x3 :: x4 :: x5 :: x6 :: x7 :: x8 :: x9 :: x10 :: x11 :: x12 :: x13 :: (.inl x) :: r) st σ := by
  intro ol os om Γ A p l e s m args below meth c fx H locs lsA hP hS hL
  have fx0 := fx
  obtain ⟨hx, hb, hml, hr, hown, hts, hlk, hK, hD, hA⟩ := fx0
  subst hq
  obtain ⟨k0, hk0⟩ := List.getElem?_of_mem (lvl_mem (Γ := Γ) (ls := x0 :: x1 :: x2 :: x3 :: x4 :: x5 :: x6 :: x7 :: x8 :: x9 :: x10 :: x11 :: x12 :: x13 :: (.inl x) :: r) (i := 14) (v := .inl x) rfl (by simp))
  exact lv_iinc (v := Int32.ofInt v) hx hb hdg hL.has hk0 (by rw [← Int32.ofInt_add, hv]) hn rfl (fun ls' h' => k (okL_set (l := x0 :: x1 :: x2 :: x3 :: x4 :: x5 :: x6 :: x7 :: x8 :: x9 :: x10 :: x11 :: x12 :: x13 :: (.inl x) :: r) (x := .inl v) 14 (fun z e => by cases e; exact hr0) ol) os om Γ A p l e s m args below meth c fx H locs ls' hP hS (Lh.set (x := .inl v) h'))
theorem v_iload15 {M : MD} {d : Nat} {Q : Option Int → Mem → Prop} {pc : Nat} {r st : List AV} {σ : Mem} {x0 x1 x2 x3 x4 x5 x6 x7 x8 x9 x10 x11 x12 x13 x14 : AV} {x : Int} (pc' : Nat) (hdg : decode M.2.1 pc = .ok (.iload 15, 2)) (hq : pc + 2 = pc') (k : V M d Q pc' (x0 :: x1 :: x2 :: x3 :: x4 :: x5 :: x6 :: x7 :: x8 :: x9 :: x10 :: x11 :: x12 :: x13 :: x14 :: (.inl x) :: r) (.inl x :: st) σ) : V M d Q pc (x0 :: x1 :: x2 :: x3 :: x4 :: x5 :: x6 :: x7 :: x8 :: x9 :: x10 :: x11 :: x12 :: x13 :: x14 :: (.inl x) :: r) st σ := by
  intro ol os om Γ A p l e s m args below meth c fx H locs lsA hP hS hL
  have fx0 := fx
  obtain ⟨hx, hb, hml, hr, hown, hts, hlk, hK, hD, hA⟩ := fx0
  subst hq
  exact lv_iload hx hb hdg (hL.get (i := 15) rfl (by simp)) (k ol (okL_i (okL_get ol (i := 15) rfl) os) om Γ A p l e s m args below meth c fx H locs lsA hP hS hL)
theorem v_istore15 {M : MD} {d : Nat} {Q : Option Int → Mem → Prop} {pc : Nat} {r st : List AV} {σ : Mem} {x0 x1 x2 x3 x4 x5 x6 x7 x8 x9 x10 x11 x12 x13 x14 : AV} {o0 : AV} {x : Int} (pc' : Nat) (hdg : decode M.2.1 pc = .ok (.istore 15, 2)) (hq : pc + 2 = pc') (hn : 15 < M.2.2.1) (k : V M d Q pc' (x0 :: x1 :: x2 :: x3 :: x4 :: x5 :: x6 :: x7 :: x8 :: x9 :: x10 :: x11 :: x12 :: x13 :: x14 :: (.inl x) :: r) st σ) : V M d Q pc (x0 :: x1 :: x2 :: x3 :: x4 :: x5 :: x6 :: x7 :: x8 :: x9 :: x10 :: x11 :: x12 :: x13 :: x14 :: o0 :: r) (.inl x :: st) σ := by
  intro ol os om Γ A p l e s m args below meth c fx H locs lsA hP hS hL
  have fx0 := fx
  obtain ⟨hx, hb, hml, hr, hown, hts, hlk, hK, hD, hA⟩ := fx0
  subst hq
  exact lv_istore hx hb hdg hL.has hn rfl (fun ls' h' => k (okL_set (l := x0 :: x1 :: x2 :: x3 :: x4 :: x5 :: x6 :: x7 :: x8 :: x9 :: x10 :: x11 :: x12 :: x13 :: x14 :: o0 :: r) (x := .inl x) 15 (fun z e => by cases e; exact okL_h os) ol) (okL_t os) om Γ A p l e s m args below meth c fx H locs ls' hP hS (Lh.set (x := .inl x) h'))
theorem v_aload15 {M : MD} {d : Nat} {Q : Option Int → Mem → Prop} {pc : Nat} {r st : List AV} {σ : Mem} {x0 x1 x2 x3 x4 x5 x6 x7 x8 x9 x10 x11 x12 x13 x14 : AV} {x : Nat} (pc' : Nat) (hdg : decode M.2.1 pc = .ok (.aload 15, 2)) (hq : pc + 2 = pc') (k : V M d Q pc' (x0 :: x1 :: x2 :: x3 :: x4 :: x5 :: x6 :: x7 :: x8 :: x9 :: x10 :: x11 :: x12 :: x13 :: x14 :: (.inr (some x)) :: r) (.inr (some x) :: st) σ) : V M d Q pc (x0 :: x1 :: x2 :: x3 :: x4 :: x5 :: x6 :: x7 :: x8 :: x9 :: x10 :: x11 :: x12 :: x13 :: x14 :: (.inr (some x)) :: r) st σ := by
  intro ol os om Γ A p l e s m args below meth c fx H locs lsA hP hS hL
  have fx0 := fx
  obtain ⟨hx, hb, hml, hr, hown, hts, hlk, hK, hD, hA⟩ := fx0
  subst hq
  exact lv_aload hx hb hdg (hL.get (i := 15) rfl (by simp)) (k ol (okL_r os) om Γ A p l e s m args below meth c fx H locs lsA hP hS hL)
theorem v_astore15 {M : MD} {d : Nat} {Q : Option Int → Mem → Prop} {pc : Nat} {r st : List AV} {σ : Mem} {x0 x1 x2 x3 x4 x5 x6 x7 x8 x9 x10 x11 x12 x13 x14 : AV} {o0 : AV} {x : Nat} (pc' : Nat) (hdg : decode M.2.1 pc = .ok (.astore 15, 2)) (hq : pc + 2 = pc') (hn : 15 < M.2.2.1) (k : V M d Q pc' (x0 :: x1 :: x2 :: x3 :: x4 :: x5 :: x6 :: x7 :: x8 :: x9 :: x10 :: x11 :: x12 :: x13 :: x14 :: (.inr (some x)) :: r) st σ) : V M d Q pc (x0 :: x1 :: x2 :: x3 :: x4 :: x5 :: x6 :: x7 :: x8 :: x9 :: x10 :: x11 :: x12 :: x13 :: x14 :: o0 :: r) (.inr (some x) :: st) σ := by
  intro ol os om Γ A p l e s m args below meth c fx H locs lsA hP hS hL
  have fx0 := fx
  obtain ⟨hx, hb, hml, hr, hown, hts, hlk, hK, hD, hA⟩ := fx0
  subst hq
  exact lv_astore hx hb hdg hL.has hn rfl (fun ls' h' => k (okL_set (l := x0 :: x1 :: x2 :: x3 :: x4 :: x5 :: x6 :: x7 :: x8 :: x9 :: x10 :: x11 :: x12 :: x13 :: x14 :: o0 :: r) (x := .inr (some x)) 15 (fun z e => by cases e) ol) (okL_t os) om Γ A p l e s m args below meth c fx H locs ls' hP hS (Lh.set (x := .inr (some x)) h'))
theorem v_iinc15 {M : MD} {d : Nat} {Q : Option Int → Mem → Prop} {pc : Nat} {r st : List AV} {σ : Mem} {x0 x1 x2 x3 x4 x5 x6 x7 x8 x9 x10 x11 x12 x13 x14 : AV} {x v : Int} (pc' : Nat) {n : Int} (hdg : decode M.2.1 pc = .ok (.iinc 15 n, 3)) (hq : pc + 3 = pc') (hn : 15 < M.2.2.1) (hv : x + n = v) (hr0 : inR v) (k : V M d Q pc' (x0 :: x1 :: x2 :: x3 :: x4 :: x5 :: x6 :: x7 :: x8 :: x9 :: x10 :: x11 :: x12 :: x13 :: x14 :: (.inl v) :: r) st σ) : V M d Q pc (x0 :: x1 :: x2 :: x3 :: x4 :: x5 :: x6 :: x7 :: x8 :: x9 :: x10 :: x11 :: x12 :: x13 :: x14 :: (.inl x) :: r) st σ := by
  intro ol os om Γ A p l e s m args below meth c fx H locs lsA hP hS hL
  have fx0 := fx
  obtain ⟨hx, hb, hml, hr, hown, hts, hlk, hK, hD, hA⟩ := fx0
  subst hq
  obtain ⟨k0, hk0⟩ := List.getElem?_of_mem (lvl_mem (Γ := Γ) (ls := x0 :: x1 :: x2 :: x3 :: x4 :: x5 :: x6 :: x7 :: x8 :: x9 :: x10 :: x11 :: x12 :: x13 :: x14 :: (.inl x) :: r) (i := 15) (v := .inl x) rfl (by simp))
  exact lv_iinc (v := Int32.ofInt v) hx hb hdg hL.has hk0 (by rw [← Int32.ofInt_add, hv]) hn rfl (fun ls' h' => k (okL_set (l := x0 :: x1 :: x2 :: x3 :: x4 :: x5 :: x6 :: x7 :: x8 :: x9 :: x10 :: x11 :: x12 :: x13 :: x14 :: (.inl x) :: r) (x := .inl v) 15 (fun z e => by cases e; exact hr0) ol) os om Γ A p l e s m args below meth c fx H locs ls' hP hS (Lh.set (x := .inl v) h'))
/-! arithmetic -/
theorem v_iadd {M : MD} {d : Nat} {Q : Option Int → Mem → Prop} {pc : Nat} {ls st : List AV} {σ : Mem} {a b : Int} (pc' : Nat) (hdg : decode M.2.1 pc = .ok (.iadd, 1)) (hq : pc + 1 = pc') (hr0 : inR (a + b)) (k : V M d Q pc' ls (.inl (a + b) :: st) σ) : V M d Q pc ls (.inl b :: .inl a :: st) σ := by
  intro ol os om Γ A p l e s m args below meth c fx H locs lsA hP hS hL
  have fx0 := fx
  obtain ⟨hx, hb, hml, hr, hown, hts, hlk, hK, hD, hA⟩ := fx0
  subst hq
  have k0 := k ol (okL_i hr0 (okL_t (okL_t os))) om Γ A p l e s m args below meth c fx H locs lsA hP hS hL
  refine lv_iadd hx hb hdg ?_
  rw [← Int32.ofInt_add]
  exact k0
theorem v_isub {M : MD} {d : Nat} {Q : Option Int → Mem → Prop} {pc : Nat} {ls st : List AV} {σ : Mem} {a b : Int} (pc' : Nat) (hdg : decode M.2.1 pc = .ok (.isub, 1)) (hq : pc + 1 = pc') (hr0 : inR (a - b)) (k : V M d Q pc' ls (.inl (a - b) :: st) σ) : V M d Q pc ls (.inl b :: .inl a :: st) σ := by
  intro ol os om Γ A p l e s m args below meth c fx H locs lsA hP hS hL
  have fx0 := fx
  obtain ⟨hx, hb, hml, hr, hown, hts, hlk, hK, hD, hA⟩ := fx0
  subst hq
  have k0 := k ol (okL_i hr0 (okL_t (okL_t os))) om Γ A p l e s m args below meth c fx H locs lsA hP hS hL
  refine lv_isub hx hb hdg ?_
  rw [← Int32.ofInt_sub]
  exact k0
theorem v_imul {M : MD} {d : Nat} {Q : Option Int → Mem → Prop} {pc : Nat} {ls st : List AV} {σ : Mem} {a b : Int} (pc' : Nat) (hdg : decode M.2.1 pc = .ok (.imul, 1)) (hq : pc + 1 = pc') (hr0 : inR (a * b)) (k : V M d Q pc' ls (.inl (a * b) :: st) σ) : V M d Q pc ls (.inl b :: .inl a :: st) σ := by
  intro ol os om Γ A p l e s m args below meth c fx H locs lsA hP hS hL
  have fx0 := fx
  obtain ⟨hx, hb, hml, hr, hown, hts, hlk, hK, hD, hA⟩ := fx0
  subst hq
  have k0 := k ol (okL_i hr0 (okL_t (okL_t os))) om Γ A p l e s m args below meth c fx H locs lsA hP hS hL
  refine lv_imul hx hb hdg ?_
  rw [← Int32.ofInt_mul]
  exact k0
theorem v_ineg {M : MD} {d : Nat} {Q : Option Int → Mem → Prop} {pc : Nat} {ls st : List AV} {σ : Mem} {a : Int} (pc' : Nat) (hdg : decode M.2.1 pc = .ok (.ineg, 1)) (hq : pc + 1 = pc') (hr0 : inR (-a)) (k : V M d Q pc' ls (.inl (-a) :: st) σ) : V M d Q pc ls (.inl a :: st) σ := by
  intro ol os om Γ A p l e s m args below meth c fx H locs lsA hP hS hL
  have fx0 := fx
  obtain ⟨hx, hb, hml, hr, hown, hts, hlk, hK, hD, hA⟩ := fx0
  subst hq
  have k0 := k ol (okL_i hr0 (okL_t os)) om Γ A p l e s m args below meth c fx H locs lsA hP hS hL
  refine lv_ineg hx hb hdg ?_
  have ee : (0 : Int32) - Int32.ofInt a = Int32.ofInt (-a) := by rw [Int32.ofInt_neg, Int32.zero_sub]
  first | (rw [ee]; exact k0) | (rw [← Int32.ofInt_neg]; exact k0)
theorem v_iand {M : MD} {d : Nat} {Q : Option Int → Mem → Prop} {pc : Nat} {ls st : List AV} {σ : Mem} {a b : Int} (pc' : Nat) (hdg : decode M.2.1 pc = .ok (.iand, 1)) (hq : pc + 1 = pc') (k : V M d Q pc' ls (.inl (band a b) :: st) σ) : V M d Q pc ls (.inl b :: .inl a :: st) σ := by
  intro ol os om Γ A p l e s m args below meth c fx H locs lsA hP hS hL
  have fx0 := fx
  obtain ⟨hx, hb, hml, hr, hown, hts, hlk, hK, hD, hA⟩ := fx0
  subst hq
  have k0 := k ol (okL_i (r_of _) (okL_t (okL_t os))) om Γ A p l e s m args below meth c fx H locs lsA hP hS hL
  refine lv_iand hx hb hdg ?_
  have ee : av Γ (.inl (band a b)) = _ := congrArg Value.int (Int32.ofInt_toInt _)
  rw [List.map_cons, ee] at k0
  exact k0
theorem v_ior {M : MD} {d : Nat} {Q : Option Int → Mem → Prop} {pc : Nat} {ls st : List AV} {σ : Mem} {a b : Int} (pc' : Nat) (hdg : decode M.2.1 pc = .ok (.ior, 1)) (hq : pc + 1 = pc') (k : V M d Q pc' ls (.inl (bor a b) :: st) σ) : V M d Q pc ls (.inl b :: .inl a :: st) σ := by
  intro ol os om Γ A p l e s m args below meth c fx H locs lsA hP hS hL
  have fx0 := fx
  obtain ⟨hx, hb, hml, hr, hown, hts, hlk, hK, hD, hA⟩ := fx0
  subst hq
  have k0 := k ol (okL_i (r_of _) (okL_t (okL_t os))) om Γ A p l e s m args below meth c fx H locs lsA hP hS hL
  refine lv_ior hx hb hdg ?_
  have ee : av Γ (.inl (bor a b)) = _ := congrArg Value.int (Int32.ofInt_toInt _)
  rw [List.map_cons, ee] at k0
  exact k0
theorem v_ixor {M : MD} {d : Nat} {Q : Option Int → Mem → Prop} {pc : Nat} {ls st : List AV} {σ : Mem} {a b : Int} (pc' : Nat) (hdg : decode M.2.1 pc = .ok (.ixor, 1)) (hq : pc + 1 = pc') (k : V M d Q pc' ls (.inl (bxor a b) :: st) σ) : V M d Q pc ls (.inl b :: .inl a :: st) σ := by
  intro ol os om Γ A p l e s m args below meth c fx H locs lsA hP hS hL
  have fx0 := fx
  obtain ⟨hx, hb, hml, hr, hown, hts, hlk, hK, hD, hA⟩ := fx0
  subst hq
  have k0 := k ol (okL_i (r_of _) (okL_t (okL_t os))) om Γ A p l e s m args below meth c fx H locs lsA hP hS hL
  refine lv_ixor hx hb hdg ?_
  have ee : av Γ (.inl (bxor a b)) = _ := congrArg Value.int (Int32.ofInt_toInt _)
  rw [List.map_cons, ee] at k0
  exact k0
theorem v_ishl {M : MD} {d : Nat} {Q : Option Int → Mem → Prop} {pc : Nat} {ls st : List AV} {σ : Mem} {a b : Int} (pc' : Nat) (hdg : decode M.2.1 pc = .ok (.ishl, 1)) (hq : pc + 1 = pc') (k : V M d Q pc' ls (.inl (bshl a b) :: st) σ) : V M d Q pc ls (.inl b :: .inl a :: st) σ := by
  intro ol os om Γ A p l e s m args below meth c fx H locs lsA hP hS hL
  have fx0 := fx
  obtain ⟨hx, hb, hml, hr, hown, hts, hlk, hK, hD, hA⟩ := fx0
  subst hq
  have k0 := k ol (okL_i (r_of _) (okL_t (okL_t os))) om Γ A p l e s m args below meth c fx H locs lsA hP hS hL
  refine lv_ishl hx hb hdg ?_
  have ee : av Γ (.inl (bshl a b)) = _ := congrArg Value.int (Int32.ofInt_toInt _)
  rw [List.map_cons, ee] at k0
  exact k0
theorem v_ishr {M : MD} {d : Nat} {Q : Option Int → Mem → Prop} {pc : Nat} {ls st : List AV} {σ : Mem} {a b : Int} (pc' : Nat) (hdg : decode M.2.1 pc = .ok (.ishr, 1)) (hq : pc + 1 = pc') (k : V M d Q pc' ls (.inl (bshr a b) :: st) σ) : V M d Q pc ls (.inl b :: .inl a :: st) σ := by
  intro ol os om Γ A p l e s m args below meth c fx H locs lsA hP hS hL
  have fx0 := fx
  obtain ⟨hx, hb, hml, hr, hown, hts, hlk, hK, hD, hA⟩ := fx0
  subst hq
  have k0 := k ol (okL_i (r_of _) (okL_t (okL_t os))) om Γ A p l e s m args below meth c fx H locs lsA hP hS hL
  refine lv_ishr hx hb hdg ?_
  have ee : av Γ (.inl (bshr a b)) = _ := congrArg Value.int (Int32.ofInt_toInt _)
  rw [List.map_cons, ee] at k0
  exact k0
theorem v_dup {M : MD} {d : Nat} {Q : Option Int → Mem → Prop} {pc : Nat} {ls st : List AV} {σ : Mem} {x : AV} (pc' : Nat) (hdg : decode M.2.1 pc = .ok (.dup, 1)) (hq : pc + 1 = pc') (k : V M d Q pc' ls (x :: x :: st) σ) : V M d Q pc ls (x :: st) σ := by
  intro ol os om Γ A p l e s m args below meth c fx H locs lsA hP hS hL
  have fx0 := fx
  obtain ⟨hx, hb, hml, hr, hown, hts, hlk, hK, hD, hA⟩ := fx0
  subst hq
  exact lv_dup hx hb hdg (av_cat Γ x) (k ol (okL_cons (fun z ee => os z (by rw [ee]; exact List.mem_cons_self)) os) om Γ A p l e s m args below meth c fx H locs lsA hP hS hL)
theorem v_dup2 {M : MD} {d : Nat} {Q : Option Int → Mem → Prop} {pc : Nat} {ls st : List AV} {σ : Mem} {x y : AV} (pc' : Nat) (hdg : decode M.2.1 pc = .ok (.dup2, 1)) (hq : pc + 1 = pc') (k : V M d Q pc' ls (x :: y :: x :: y :: st) σ) : V M d Q pc ls (x :: y :: st) σ := by
  intro ol os om Γ A p l e s m args below meth c fx H locs lsA hP hS hL
  have fx0 := fx
  obtain ⟨hx, hb, hml, hr, hown, hts, hlk, hK, hD, hA⟩ := fx0
  subst hq
  exact lv_dup2_11 hx hb hdg (av_cat Γ x) (av_cat Γ y) (k ol (okL_cons (fun z ee => os z (by rw [ee]; exact List.mem_cons_self)) (okL_cons (fun z ee => os z (by rw [ee]; exact List.mem_cons_of_mem _ List.mem_cons_self)) os)) om Γ A p l e s m args below meth c fx H locs lsA hP hS hL)
/-! branches -/
theorem v_icmp_eq {M : MD} {d : Nat} {Q : Option Int → Mem → Prop} {pc : Nat} {ls st : List AV} {σ : Mem} {a b : Int} {off : Int} (tgt pc' : Nat) (hdg : decode M.2.1 pc = .ok (.if_icmp .eq off, 3)) (ht : (pc : Int) + off = (tgt : Int)) (hq : pc + 3 = pc') (kt : a = b → V M d Q tgt ls st σ) (kf : ¬ (a = b) → V M d Q pc' ls st σ) : V M d Q pc ls (.inl b :: .inl a :: st) σ := by
  intro ol os om Γ A p l e s m args below meth c fx H locs lsA hP hS hL
  have fx0 := fx
  obtain ⟨hx, hb, hml, hr, hown, hts, hlk, hK, hD, hA⟩ := fx0
  subst hq
  have hi := r_eq (okL_h (okL_t os)) (okL_h os)
  have okt := okL_t (okL_t os)
  refine lv_icmp_eq hx hb hdg ht (fun h => kt ?_ ol okt om Γ A p l e s m args below meth c fx H locs lsA hP hS hL) (fun h => kf ?_ ol okt om Γ A p l e s m args below meth c fx H locs lsA hP hS hL)
  · first | exact hi.mp h | exact fun q => h (hi.mpr q)
  · first | exact fun q => h (hi.mpr q) | exact fun q => q (hi.mp (Classical.not_not.mp h)) | exact fun q => absurd (hi.mp (by first | exact h | exact Classical.not_not.mp h)) q
theorem v_if_eq {M : MD} {d : Nat} {Q : Option Int → Mem → Prop} {pc : Nat} {ls st : List AV} {σ : Mem} {a : Int} {off : Int} (tgt pc' : Nat) (hdg : decode M.2.1 pc = .ok (.ifCond .eq off, 3)) (ht : (pc : Int) + off = (tgt : Int)) (hq : pc + 3 = pc') (kt : a = 0 → V M d Q tgt ls st σ) (kf : ¬ (a = 0) → V M d Q pc' ls st σ) : V M d Q pc ls (.inl a :: st) σ := by
  intro ol os om Γ A p l e s m args below meth c fx H locs lsA hP hS hL
  have fx0 := fx
  obtain ⟨hx, hb, hml, hr, hown, hts, hlk, hK, hD, hA⟩ := fx0
  subst hq
  have hi := r_eq (okL_h os) r_0
  have okt := okL_t os
  refine lv_if_eq hx hb hdg ht (fun h => kt ?_ ol okt om Γ A p l e s m args below meth c fx H locs lsA hP hS hL) (fun h => kf ?_ ol okt om Γ A p l e s m args below meth c fx H locs lsA hP hS hL)
  · first | exact hi.mp h | exact fun q => h (hi.mpr q)
  · first | exact fun q => h (hi.mpr q) | exact fun q => q (hi.mp (Classical.not_not.mp h)) | exact fun q => absurd (hi.mp (by first | exact h | exact Classical.not_not.mp h)) q
theorem v_icmp_ne {M : MD} {d : Nat} {Q : Option Int → Mem → Prop} {pc : Nat} {ls st : List AV} {σ : Mem} {a b : Int} {off : Int} (tgt pc' : Nat) (hdg : decode M.2.1 pc = .ok (.if_icmp .ne off, 3)) (ht : (pc : Int) + off = (tgt : Int)) (hq : pc + 3 = pc') (kt : a ≠ b → V M d Q tgt ls st σ) (kf : ¬ (a ≠ b) → V M d Q pc' ls st σ) : V M d Q pc ls (.inl b :: .inl a :: st) σ := by
  intro ol os om Γ A p l e s m args below meth c fx H locs lsA hP hS hL
  have fx0 := fx
  obtain ⟨hx, hb, hml, hr, hown, hts, hlk, hK, hD, hA⟩ := fx0
  subst hq
  have hi := r_eq (okL_h (okL_t os)) (okL_h os)
  have okt := okL_t (okL_t os)
  refine lv_icmp_ne hx hb hdg ht (fun h => kt ?_ ol okt om Γ A p l e s m args below meth c fx H locs lsA hP hS hL) (fun h => kf ?_ ol okt om Γ A p l e s m args below meth c fx H locs lsA hP hS hL)
  · first | exact hi.mp h | exact fun q => h (hi.mpr q)
  · first | exact fun q => h (hi.mpr q) | exact fun q => q (hi.mp (Classical.not_not.mp h)) | exact fun q => absurd (hi.mp (by first | exact h | exact Classical.not_not.mp h)) q
theorem v_if_ne {M : MD} {d : Nat} {Q : Option Int → Mem → Prop} {pc : Nat} {ls st : List AV} {σ : Mem} {a : Int} {off : Int} (tgt pc' : Nat) (hdg : decode M.2.1 pc = .ok (.ifCond .ne off, 3)) (ht : (pc : Int) + off = (tgt : Int)) (hq : pc + 3 = pc') (kt : a ≠ 0 → V M d Q tgt ls st σ) (kf : ¬ (a ≠ 0) → V M d Q pc' ls st σ) : V M d Q pc ls (.inl a :: st) σ := by
  intro ol os om Γ A p l e s m args below meth c fx H locs lsA hP hS hL
  have fx0 := fx
  obtain ⟨hx, hb, hml, hr, hown, hts, hlk, hK, hD, hA⟩ := fx0
  subst hq
  have hi := r_eq (okL_h os) r_0
  have okt := okL_t os
  refine lv_if_ne hx hb hdg ht (fun h => kt ?_ ol okt om Γ A p l e s m args below meth c fx H locs lsA hP hS hL) (fun h => kf ?_ ol okt om Γ A p l e s m args below meth c fx H locs lsA hP hS hL)
  · first | exact hi.mp h | exact fun q => h (hi.mpr q)
  · first | exact fun q => h (hi.mpr q) | exact fun q => q (hi.mp (Classical.not_not.mp h)) | exact fun q => absurd (hi.mp (by first | exact h | exact Classical.not_not.mp h)) q
theorem v_icmp_lt {M : MD} {d : Nat} {Q : Option Int → Mem → Prop} {pc : Nat} {ls st : List AV} {σ : Mem} {a b : Int} {off : Int} (tgt pc' : Nat) (hdg : decode M.2.1 pc = .ok (.if_icmp .lt off, 3)) (ht : (pc : Int) + off = (tgt : Int)) (hq : pc + 3 = pc') (kt : a < b → V M d Q tgt ls st σ) (kf : ¬ (a < b) → V M d Q pc' ls st σ) : V M d Q pc ls (.inl b :: .inl a :: st) σ := by
  intro ol os om Γ A p l e s m args below meth c fx H locs lsA hP hS hL
  have fx0 := fx
  obtain ⟨hx, hb, hml, hr, hown, hts, hlk, hK, hD, hA⟩ := fx0
  subst hq
  have hi := r_lt (okL_h (okL_t os)) (okL_h os)
  have okt := okL_t (okL_t os)
  refine lv_icmp_lt hx hb hdg ht (fun h => kt ?_ ol okt om Γ A p l e s m args below meth c fx H locs lsA hP hS hL) (fun h => kf ?_ ol okt om Γ A p l e s m args below meth c fx H locs lsA hP hS hL)
  · first | exact hi.mp h | exact fun q => h (hi.mpr q)
  · first | exact fun q => h (hi.mpr q) | exact fun q => q (hi.mp (Classical.not_not.mp h)) | exact fun q => absurd (hi.mp (by first | exact h | exact Classical.not_not.mp h)) q
theorem v_if_lt {M : MD} {d : Nat} {Q : Option Int → Mem → Prop} {pc : Nat} {ls st : List AV} {σ : Mem} {a : Int} {off : Int} (tgt pc' : Nat) (hdg : decode M.2.1 pc = .ok (.ifCond .lt off, 3)) (ht : (pc : Int) + off = (tgt : Int)) (hq : pc + 3 = pc') (kt : a < 0 → V M d Q tgt ls st σ) (kf : ¬ (a < 0) → V M d Q pc' ls st σ) : V M d Q pc ls (.inl a :: st) σ := by
  intro ol os om Γ A p l e s m args below meth c fx H locs lsA hP hS hL
  have fx0 := fx
  obtain ⟨hx, hb, hml, hr, hown, hts, hlk, hK, hD, hA⟩ := fx0
  subst hq
  have hi := r_lt (okL_h os) r_0
  have okt := okL_t os
  refine lv_if_lt hx hb hdg ht (fun h => kt ?_ ol okt om Γ A p l e s m args below meth c fx H locs lsA hP hS hL) (fun h => kf ?_ ol okt om Γ A p l e s m args below meth c fx H locs lsA hP hS hL)
  · first | exact hi.mp h | exact fun q => h (hi.mpr q)
  · first | exact fun q => h (hi.mpr q) | exact fun q => q (hi.mp (Classical.not_not.mp h)) | exact fun q => absurd (hi.mp (by first | exact h | exact Classical.not_not.mp h)) q
theorem v_icmp_ge {M : MD} {d : Nat} {Q : Option Int → Mem → Prop} {pc : Nat} {ls st : List AV} {σ : Mem} {a b : Int} {off : Int} (tgt pc' : Nat) (hdg : decode M.2.1 pc = .ok (.if_icmp .ge off, 3)) (ht : (pc : Int) + off = (tgt : Int)) (hq : pc + 3 = pc') (kt : b ≤ a → V M d Q tgt ls st σ) (kf : ¬ (b ≤ a) → V M d Q pc' ls st σ) : V M d Q pc ls (.inl b :: .inl a :: st) σ := by
  intro ol os om Γ A p l e s m args below meth c fx H locs lsA hP hS hL
  have fx0 := fx
  obtain ⟨hx, hb, hml, hr, hown, hts, hlk, hK, hD, hA⟩ := fx0
  subst hq
  have hi := r_le (okL_h os) (okL_h (okL_t os))
  have okt := okL_t (okL_t os)
  refine lv_icmp_ge hx hb hdg ht (fun h => kt ?_ ol okt om Γ A p l e s m args below meth c fx H locs lsA hP hS hL) (fun h => kf ?_ ol okt om Γ A p l e s m args below meth c fx H locs lsA hP hS hL)
  · first | exact hi.mp h | exact fun q => h (hi.mpr q)
  · first | exact fun q => h (hi.mpr q) | exact fun q => q (hi.mp (Classical.not_not.mp h)) | exact fun q => absurd (hi.mp (by first | exact h | exact Classical.not_not.mp h)) q
theorem v_if_ge {M : MD} {d : Nat} {Q : Option Int → Mem → Prop} {pc : Nat} {ls st : List AV} {σ : Mem} {a : Int} {off : Int} (tgt pc' : Nat) (hdg : decode M.2.1 pc = .ok (.ifCond .ge off, 3)) (ht : (pc : Int) + off = (tgt : Int)) (hq : pc + 3 = pc') (kt : 0 ≤ a → V M d Q tgt ls st σ) (kf : ¬ (0 ≤ a) → V M d Q pc' ls st σ) : V M d Q pc ls (.inl a :: st) σ := by
  intro ol os om Γ A p l e s m args below meth c fx H locs lsA hP hS hL
  have fx0 := fx
  obtain ⟨hx, hb, hml, hr, hown, hts, hlk, hK, hD, hA⟩ := fx0
  subst hq
  have hi := r_le r_0 (okL_h os)
  have okt := okL_t os
  refine lv_if_ge hx hb hdg ht (fun h => kt ?_ ol okt om Γ A p l e s m args below meth c fx H locs lsA hP hS hL) (fun h => kf ?_ ol okt om Γ A p l e s m args below meth c fx H locs lsA hP hS hL)
  · first | exact hi.mp h | exact fun q => h (hi.mpr q)
  · first | exact fun q => h (hi.mpr q) | exact fun q => q (hi.mp (Classical.not_not.mp h)) | exact fun q => absurd (hi.mp (by first | exact h | exact Classical.not_not.mp h)) q
theorem v_icmp_gt {M : MD} {d : Nat} {Q : Option Int → Mem → Prop} {pc : Nat} {ls st : List AV} {σ : Mem} {a b : Int} {off : Int} (tgt pc' : Nat) (hdg : decode M.2.1 pc = .ok (.if_icmp .gt off, 3)) (ht : (pc : Int) + off = (tgt : Int)) (hq : pc + 3 = pc') (kt : b < a → V M d Q tgt ls st σ) (kf : ¬ (b < a) → V M d Q pc' ls st σ) : V M d Q pc ls (.inl b :: .inl a :: st) σ := by
  intro ol os om Γ A p l e s m args below meth c fx H locs lsA hP hS hL
  have fx0 := fx
  obtain ⟨hx, hb, hml, hr, hown, hts, hlk, hK, hD, hA⟩ := fx0
  subst hq
  have hi := r_lt (okL_h os) (okL_h (okL_t os))
  have okt := okL_t (okL_t os)
  refine lv_icmp_gt hx hb hdg ht (fun h => kt ?_ ol okt om Γ A p l e s m args below meth c fx H locs lsA hP hS hL) (fun h => kf ?_ ol okt om Γ A p l e s m args below meth c fx H locs lsA hP hS hL)
  · first | exact hi.mp h | exact fun q => h (hi.mpr q)
  · first | exact fun q => h (hi.mpr q) | exact fun q => q (hi.mp (Classical.not_not.mp h)) | exact fun q => absurd (hi.mp (by first | exact h | exact Classical.not_not.mp h)) q
theorem v_if_gt {M : MD} {d : Nat} {Q : Option Int → Mem → Prop} {pc : Nat} {ls st : List AV} {σ : Mem} {a : Int} {off : Int} (tgt pc' : Nat) (hdg : decode M.2.1 pc = .ok (.ifCond .gt off, 3)) (ht : (pc : Int) + off = (tgt : Int)) (hq : pc + 3 = pc') (kt : 0 < a → V M d Q tgt ls st σ) (kf : ¬ (0 < a) → V M d Q pc' ls st σ) : V M d Q pc ls (.inl a :: st) σ := by
  intro ol os om Γ A p l e s m args below meth c fx H locs lsA hP hS hL
  have fx0 := fx
  obtain ⟨hx, hb, hml, hr, hown, hts, hlk, hK, hD, hA⟩ := fx0
  subst hq
  have hi := r_lt r_0 (okL_h os)
  have okt := okL_t os
  refine lv_if_gt hx hb hdg ht (fun h => kt ?_ ol okt om Γ A p l e s m args below meth c fx H locs lsA hP hS hL) (fun h => kf ?_ ol okt om Γ A p l e s m args below meth c fx H locs lsA hP hS hL)
  · first | exact hi.mp h | exact fun q => h (hi.mpr q)
  · first | exact fun q => h (hi.mpr q) | exact fun q => q (hi.mp (Classical.not_not.mp h)) | exact fun q => absurd (hi.mp (by first | exact h | exact Classical.not_not.mp h)) q
theorem v_icmp_le {M : MD} {d : Nat} {Q : Option Int → Mem → Prop} {pc : Nat} {ls st : List AV} {σ : Mem} {a b : Int} {off : Int} (tgt pc' : Nat) (hdg : decode M.2.1 pc = .ok (.if_icmp .le off, 3)) (ht : (pc : Int) + off = (tgt : Int)) (hq : pc + 3 = pc') (kt : a ≤ b → V M d Q tgt ls st σ) (kf : ¬ (a ≤ b) → V M d Q pc' ls st σ) : V M d Q pc ls (.inl b :: .inl a :: st) σ := by
  intro ol os om Γ A p l e s m args below meth c fx H locs lsA hP hS hL
  have fx0 := fx
  obtain ⟨hx, hb, hml, hr, hown, hts, hlk, hK, hD, hA⟩ := fx0
  subst hq
  have hi := r_le (okL_h (okL_t os)) (okL_h os)
  have okt := okL_t (okL_t os)
  refine lv_icmp_le hx hb hdg ht (fun h => kt ?_ ol okt om Γ A p l e s m args below meth c fx H locs lsA hP hS hL) (fun h => kf ?_ ol okt om Γ A p l e s m args below meth c fx H locs lsA hP hS hL)
  · first | exact hi.mp h | exact fun q => h (hi.mpr q)
  · first | exact fun q => h (hi.mpr q) | exact fun q => q (hi.mp (Classical.not_not.mp h)) | exact fun q => absurd (hi.mp (by first | exact h | exact Classical.not_not.mp h)) q
theorem v_if_le {M : MD} {d : Nat} {Q : Option Int → Mem → Prop} {pc : Nat} {ls st : List AV} {σ : Mem} {a : Int} {off : Int} (tgt pc' : Nat) (hdg : decode M.2.1 pc = .ok (.ifCond .le off, 3)) (ht : (pc : Int) + off = (tgt : Int)) (hq : pc + 3 = pc') (kt : a ≤ 0 → V M d Q tgt ls st σ) (kf : ¬ (a ≤ 0) → V M d Q pc' ls st σ) : V M d Q pc ls (.inl a :: st) σ := by
  intro ol os om Γ A p l e s m args below meth c fx H locs lsA hP hS hL
  have fx0 := fx
  obtain ⟨hx, hb, hml, hr, hown, hts, hlk, hK, hD, hA⟩ := fx0
  subst hq
  have hi := r_le (okL_h os) r_0
  have okt := okL_t os
  refine lv_if_le hx hb hdg ht (fun h => kt ?_ ol okt om Γ A p l e s m args below meth c fx H locs lsA hP hS hL) (fun h => kf ?_ ol okt om Γ A p l e s m args below meth c fx H locs lsA hP hS hL)
  · first | exact hi.mp h | exact fun q => h (hi.mpr q)
  · first | exact fun q => h (hi.mpr q) | exact fun q => q (hi.mp (Classical.not_not.mp h)) | exact fun q => absurd (hi.mp (by first | exact h | exact Classical.not_not.mp h)) q
theorem v_goto {M : MD} {d : Nat} {Q : Option Int → Mem → Prop} {pc : Nat} {ls st : List AV} {σ : Mem} {off : Int} (tgt : Nat) (hdg : decode M.2.1 pc = .ok (.goto off, 3)) (ht : (pc : Int) + off = (tgt : Int)) (k : V M d Q tgt ls st σ) : V M d Q pc ls st σ := by
  intro ol os om Γ A p l e s m args below meth c fx H locs lsA hP hS hL
  have fx0 := fx
  obtain ⟨hx, hb, hml, hr, hown, hts, hlk, hK, hD, hA⟩ := fx0
  exact lv_goto hx hb hdg ht (k ol os om Γ A p l e s m args below meth c fx H locs lsA hP hS hL)
theorem v_tabIn {M : MD} {d : Nat} {Q : Option Int → Mem → Prop} {pc : Nat} {ls st : List AV} {σ : Mem} {dflt lo hi : Int} {offs : Array Int} {len : Nat} {a off : Int} (tgt : Nat) (hdg : decode M.2.1 pc = .ok (.tableswitch dflt lo hi offs, len)) (h1 : ¬ a < lo) (h2 : ¬ hi < a) (ho : offs[(a - lo).toNat]? = some off) (ht : (pc : Int) + off = (tgt : Int)) (k : V M d Q tgt ls st σ) : V M d Q pc ls (.inl a :: st) σ := by
  intro ol os om Γ A p l e s m args below meth c fx H locs lsA hP hS hL
  have fx0 := fx
  obtain ⟨hx, hb, hml, hr, hown, hts, hlk, hK, hD, hA⟩ := fx0
  have ee := r_to (okL_h os)
  exact lv_tableIn hx hb hdg (by rw [ee]; exact h1) (by rw [ee]; exact h2) (by rw [ee]; exact ho) ht (k ol (okL_t os) om Γ A p l e s m args below meth c fx H locs lsA hP hS hL)
theorem v_tabOut {M : MD} {d : Nat} {Q : Option Int → Mem → Prop} {pc : Nat} {ls st : List AV} {σ : Mem} {dflt lo hi : Int} {offs : Array Int} {len : Nat} {a : Int} (tgt : Nat) (hdg : decode M.2.1 pc = .ok (.tableswitch dflt lo hi offs, len)) (h : a < lo ∨ hi < a) (ht : (pc : Int) + dflt = (tgt : Int)) (k : V M d Q tgt ls st σ) : V M d Q pc ls (.inl a :: st) σ := by
  intro ol os om Γ A p l e s m args below meth c fx H locs lsA hP hS hL
  have fx0 := fx
  obtain ⟨hx, hb, hml, hr, hown, hts, hlk, hK, hD, hA⟩ := fx0
  have ee := r_to (okL_h os)
  exact lv_tableOut hx hb hdg (by rw [ee]; exact h) ht (k ol (okL_t os) om Γ A p l e s m args below meth c fx H locs lsA hP hS hL)
