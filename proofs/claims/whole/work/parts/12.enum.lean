/-! all plans, in the order of their values -/
noncomputable def cd (p : Prop) : Bool := @decide p (Classical.propDecidable p)
theorem cd_t {p : Prop} (h : p) : cd p = true := @decide_eq_true p (Classical.propDecidable p) h
theorem cd_f {p : Prop} (h : ¬ p) : cd p = false := @decide_eq_false p (Classical.propDecidable p) h
theorem cd_of {p : Prop} (h : cd p = true) : p := @of_decide_eq_true p (Classical.propDecidable p) h
theorem cd_nof {p : Prop} (h : cd p = false) : ¬ p := @of_decide_eq_false p (Classical.propDecidable p) h
theorem cd_congr {p q : Prop} (h : p ↔ q) : cd p = cd q := by rw [propext h]
def upto : Int → Nat → List Int
  | _, 0 => []
  | v, c + 1 => v :: upto (v + 1) c
theorem upto_mem : ∀ {c : Nat} {v x : Int}, x ∈ upto v c ↔ v ≤ x ∧ x < v + c
  | 0, v, x => by
    constructor
    · intro h; cases h
    · intro h; omega
  | c + 1, v, x => by
    show x ∈ v :: upto (v + 1) c ↔ _
    rw [List.mem_cons, upto_mem]
    omega
def fsv (lo pin : Int → Int) (d : Int) : Int := if pin d = -5 then lo d else pin d
def dom (lo hi pin : Int → Int) (d : Int) : List Int := if pin d = -5 then upto (lo d) (hi d - lo d + 1).toNat else [pin d]
def lst (a : Int → Int) : Nat → Nat → List Int
  | _, 0 => []
  | k, m + 1 => a (k : Int) :: lst a (k + 1) m
theorem lst_len (a : Int → Int) : ∀ (m k : Nat), (lst a k m).length = m
  | 0, _ => rfl
  | m + 1, k => by show (lst a (k + 1) m).length + 1 = m + 1; rw [lst_len a m]
theorem lst_get (a : Int → Int) : ∀ (m k j : Nat), j < m → (lst a k m)[j]? = some (a ((k + j : Nat) : Int))
  | 0, _, _, h => absurd h (Nat.not_lt_zero _)
  | m + 1, k, 0, _ => rfl
  | m + 1, k, j + 1, h => by
    show (lst a (k + 1) m)[j]? = _
    rw [lst_get a m (k + 1) j (by omega)]
    congr 3
    omega
theorem lst_congr {a b : Int → Int} : ∀ {m k : Nat}, (∀ j : Nat, k ≤ j → j < k + m → a (j : Int) = b (j : Int)) → lst a k m = lst b k m
  | 0, _, _ => rfl
  | m + 1, k, h => by
    show a (k : Int) :: lst a (k + 1) m = b (k : Int) :: lst b (k + 1) m
    rw [h k (Nat.le_refl _) (by omega), lst_congr (m := m) (k := k + 1) (fun j h1 h2 => h j (by omega) (by omega))]
theorem lst_inj {a b : Int → Int} : ∀ {m k : Nat}, lst a k m = lst b k m → ∀ j : Nat, k ≤ j → j < k + m → a (j : Int) = b (j : Int)
  | 0, k, _, j, h1, h2 => by omega
  | m + 1, k, h, j, h1, h2 => by
    have h' : a (k : Int) :: lst a (k + 1) m = b (k : Int) :: lst b (k + 1) m := h
    injection h' with e1 e2
    by_cases e : j = k
    · subst e; exact e1
    · exact lst_inj (m := m) (k := k + 1) e2 j (by omega) (by omega)
/-- a list as a function -/
def pf (l : List Int) : Int → Int := fun d => l.getD d.toNat 0
theorem pf_lst {a : Int → Int} {n j : Nat} (h : j < n) : pf (lst a 0 n) (j : Int) = a (j : Int) := by
  unfold pf
  rw [Int.toNat_natCast, List.getD_eq_getElem?_getD, lst_get a n 0 j h, Nat.zero_add]
  rfl
theorem lst_pf {l : List Int} {n : Nat} (h : l.length = n) : lst (pf l) 0 n = l := by
  apply List.ext_getElem?
  intro i
  by_cases hi : i < n
  · rw [lst_get _ n 0 i hi, Nat.zero_add]
    unfold pf
    rw [Int.toNat_natCast, List.getD_eq_getElem?_getD, List.getElem?_eq_getElem (by omega)]
    rfl
  · rw [List.getElem?_eq_none (by rw [lst_len]; omega), List.getElem?_eq_none (by omega)]
def En (lo hi pin : Int → Int) : Nat → Nat → List (List Int)
  | _, 0 => [[]]
  | k, m + 1 => (dom lo hi pin (k : Int)).flatMap (fun v => (En lo hi pin (k + 1) m).map (fun s => v :: s))
def nx (lo hi pin : Int → Int) : Nat → List Int → Option (List Int)
  | _, [] => none
  | k, v :: s => match nx lo hi pin (k + 1) s with
    | some s' => some (v :: s')
    | none => if pin (k : Int) = -5 ∧ v < hi (k : Int) then some ((v + 1) :: lst (fsv lo pin) (k + 1) s.length) else none
/-- L is all of them, one behind the other -/
def Chn (nxt : List Int → Option (List Int)) (f : List Int) (L : List (List Int)) : Prop := L.head? = some f ∧ ∀ (i : Nat) (x : List Int), L[i]? = some x → nxt x = L[i + 1]?
theorem En_ne {lo hi pin : Int → Int} : ∀ (m k : Nat), (∀ d : Nat, k ≤ d → d < k + m → lo (d : Int) ≤ hi (d : Int)) → En lo hi pin k m ≠ []
  | 0, _, _ => by simp [En]
  | m + 1, k, h => by
    have h1 := En_ne (pin := pin) m (k + 1) (fun d a b => h d (by omega) (by omega))
    have h2 := h k (Nat.le_refl _) (by omega)
    show (dom lo hi pin (k : Int)).flatMap _ ≠ []
    have hd : ∃ v r, dom lo hi pin (k : Int) = v :: r := by
      unfold dom
      by_cases hp : pin (k : Int) = -5
      · rw [if_pos hp]
        obtain ⟨c, hc⟩ : ∃ c, (hi (k : Int) - lo (k : Int) + 1).toNat = c + 1 := ⟨(hi (k : Int) - lo (k : Int)).toNat, by omega⟩
        rw [hc]
        exact ⟨_, _, rfl⟩
      · rw [if_neg hp]
        exact ⟨_, _, rfl⟩
    obtain ⟨v, r, e⟩ := hd
    rw [e, List.flatMap_cons]
    intro q
    have := (List.append_eq_nil_iff.mp q).1
    exact h1 (List.map_eq_nil_iff.mp this)
theorem Chn_blk {nxt : List Int → Option (List Int)} {nxt' : List Int → Option (List Int)} {f : List Int} {L' : List (List Int)} (hL : Chn nxt' f L') (loK hiK : Int)
    (hn1 : ∀ (v : Int) (s s' : List Int), s ∈ L' → nxt' s = some s' → nxt (v :: s) = some (v :: s')) (hn2 : ∀ (v : Int) (s : List Int), loK ≤ v → s ∈ L' → nxt' s = none → nxt (v :: s) = if v < hiK then some ((v + 1) :: f) else none) :
    ∀ (c : Nat) (v : Int), loK ≤ v → v + c = hiK → Chn nxt (v :: f) ((upto v (c + 1)).flatMap (fun v => L'.map (fun s => v :: s))) := by
  have hne : L' ≠ [] := by intro q; rw [q] at hL; cases hL.1
  have hhead : ∀ (v : Int), (L'.map (fun s => v :: s)).head? = some (v :: f) := fun v => by rw [List.head?_map, hL.1]; rfl
  intro c
  induction c with
  | zero =>
    intro v hlo hv
    have e : (upto v (0 + 1)).flatMap (fun v => L'.map (fun s => v :: s)) = L'.map (fun s => v :: s) := by simp [upto]
    rw [e]
    refine ⟨hhead v, fun i x hx => ?_⟩
    rw [List.getElem?_map] at hx ⊢
    cases hs : L'[i]? with
    | none => rw [hs] at hx; cases hx
    | some s =>
      rw [hs] at hx
      cases hx
      have h1 := hL.2 i s hs
      cases hs2 : L'[i + 1]? with
      | none =>
        rw [hs2] at h1
        show nxt (v :: s) = none
        rw [hn2 v s hlo (List.mem_of_getElem? hs) h1, if_neg (by omega)]
      | some s' =>
        rw [hs2] at h1
        exact hn1 v s s' (List.mem_of_getElem? hs) h1
  | succ c ih =>
    intro v hlo hv
    have ihv := ih (v + 1) (by omega) (by omega)
    have e : (upto v (c + 1 + 1)).flatMap (fun v => L'.map (fun s => v :: s)) = L'.map (fun s => v :: s) ++ (upto (v + 1) (c + 1)).flatMap (fun v => L'.map (fun s => v :: s)) := by
      show (v :: upto (v + 1) (c + 1)).flatMap _ = _
      rw [List.flatMap_cons]
    rw [e]
    generalize (upto (v + 1) (c + 1)).flatMap (fun v => L'.map (fun s => v :: s)) = Z at ihv ⊢
    refine ⟨?_, fun i x hx => ?_⟩
    · rw [List.head?_append, hhead v]
      rfl
    · by_cases hi : i < L'.length
      · rw [List.getElem?_append_left (by rw [List.length_map]; exact hi), List.getElem?_map] at hx
        cases hs : L'[i]? with
        | none => rw [hs] at hx; cases hx
        | some s =>
          rw [hs] at hx
          cases hx
          have h1 := hL.2 i s hs
          cases hs2 : L'[i + 1]? with
          | none =>
            rw [hs2] at h1
            have hlen : L'.length ≤ i + 1 := List.getElem?_eq_none_iff.mp hs2
            show nxt (v :: s) = _
            rw [hn2 v s hlo (List.mem_of_getElem? hs) h1, if_pos (by omega), List.getElem?_append_right (by rw [List.length_map]; exact hlen), List.length_map]
            have : i + 1 - L'.length = 0 := by omega
            rw [this, ← List.head?_eq_getElem?, ihv.1]
          | some s' =>
            rw [hs2] at h1
            have hlt : i + 1 < L'.length := (List.getElem?_eq_some_iff.mp hs2).1
            rw [List.getElem?_append_left (by rw [List.length_map]; exact hlt), List.getElem?_map, hs2]
            exact hn1 v s s' (List.mem_of_getElem? hs) h1
      · rw [List.getElem?_append_right (by rw [List.length_map]; omega), List.length_map] at hx
        rw [List.getElem?_append_right (by rw [List.length_map]; omega), List.length_map]
        have h2 := ihv.2 (i - L'.length) x hx
        rw [h2]
        congr 1
        omega
theorem En_len {lo hi pin : Int → Int} : ∀ (m k : Nat) (l : List Int), l ∈ En lo hi pin k m → l.length = m
  | 0, _, l, h => by
    have : l = [] := by simpa [En] using h
    rw [this]; rfl
  | m + 1, k, l, h => by
    obtain ⟨v, -, h2⟩ := List.mem_flatMap.mp h
    obtain ⟨s, h3, rfl⟩ := List.mem_map.mp h2
    rw [List.length_cons, En_len m (k + 1) s h3]
theorem En_chn {lo hi pin : Int → Int} : ∀ (m k : Nat), (∀ d : Nat, k ≤ d → d < k + m → lo (d : Int) ≤ hi (d : Int)) → Chn (nx lo hi pin k) (lst (fsv lo pin) k m) (En lo hi pin k m)
  | 0, k, _ => by
    refine ⟨rfl, fun i x hx => ?_⟩
    cases i with
    | zero => cases hx; rfl
    | succ i => cases hx
  | m + 1, k, h => by
    have ih := En_chn (lo := lo) (hi := hi) (pin := pin) m (k + 1) (fun d a b => h d (by omega) (by omega))
    have hk := h k (Nat.le_refl _) (by omega)
    show Chn (nx lo hi pin k) (fsv lo pin (k : Int) :: lst (fsv lo pin) (k + 1) m) ((dom lo hi pin (k : Int)).flatMap (fun v => (En lo hi pin (k + 1) m).map (fun s => v :: s)))
    have hn1 : ∀ (v : Int) (s s' : List Int), s ∈ En lo hi pin (k + 1) m → nx lo hi pin (k + 1) s = some s' → nx lo hi pin k (v :: s) = some (v :: s') := fun v s s' _ e => by
      show (match nx lo hi pin (k + 1) s with | some s' => some (v :: s') | none => _) = _
      rw [e]
    have hn2 : ∀ (v : Int) (s : List Int), s ∈ En lo hi pin (k + 1) m → nx lo hi pin (k + 1) s = none → nx lo hi pin k (v :: s) = if pin (k : Int) = -5 ∧ v < hi (k : Int) then some ((v + 1) :: lst (fsv lo pin) (k + 1) m) else none := fun v s hs e => by
      show (match nx lo hi pin (k + 1) s with | some s' => some (v :: s') | none => _) = _
      rw [e]
      show (if pin (k : Int) = -5 ∧ v < hi (k : Int) then some ((v + 1) :: lst (fsv lo pin) (k + 1) s.length) else none) = _
      rw [En_len m (k + 1) s hs]
    unfold dom fsv
    by_cases hp : pin (k : Int) = -5
    · rw [if_pos hp, if_pos hp]
      obtain ⟨c, hc⟩ : ∃ c, (hi (k : Int) - lo (k : Int) + 1).toNat = c + 1 := ⟨(hi (k : Int) - lo (k : Int)).toNat, by omega⟩
      rw [hc]
      exact Chn_blk ih (lo (k : Int)) (hi (k : Int)) hn1 (fun v s _ hs e => by rw [hn2 v s hs e]; simp [hp]) c (lo (k : Int)) (by omega) (by omega)
    · rw [if_neg hp, if_neg hp]
      have e : ([pin (k : Int)]).flatMap (fun v => (En lo hi pin (k + 1) m).map (fun s => v :: s)) = (upto (pin (k : Int)) (0 + 1)).flatMap (fun v => (En lo hi pin (k + 1) m).map (fun s => v :: s)) := rfl
      rw [e]
      exact Chn_blk ih (pin (k : Int)) (pin (k : Int)) hn1 (fun v s hv hs e => by
        rw [hn2 v s hs e]
        have h1 : ¬ (pin (k : Int) = -5 ∧ v < hi (k : Int)) := fun q => hp q.1
        rw [if_neg h1, if_neg (by omega)]) 0 (pin (k : Int)) (by omega) (by omega)
