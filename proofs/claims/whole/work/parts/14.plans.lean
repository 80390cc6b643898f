set_option maxRecDepth 100000 in
abbrev rEn (σ : Mem) (n : Nat) : List (List Int) := En (σ 65) (σ 66) (σ 70) 0 n
theorem dom_bnd {σ : Mem} {n R F : Nat} (hw : RW σ n R F) {k : Nat} (hk : k < n) {v : Int} (h : v ∈ dom (σ 65) (σ 66) (σ 70) (k : Int)) : σ 65 (k : Int) ≤ v ∧ v ≤ σ 66 (k : Int) := by
  have hd := hw.2.2.1 (k : Int) (by omega) (by omega)
  unfold dom at h
  by_cases hp : σ 70 (k : Int) = -5
  · rw [if_pos hp] at h
    have := upto_mem.mp h
    omega
  · rw [if_neg hp] at h
    have : v = σ 70 (k : Int) := by simpa using h
    omega
theorem En_bnd {σ : Mem} {n R F : Nat} (hw : RW σ n R F) : ∀ (m k : Nat) (l : List Int), k + m ≤ n → l ∈ En (σ 65) (σ 66) (σ 70) k m → ∀ (j : Nat) (v : Int), l[j]? = some v → σ 65 ((k + j : Nat) : Int) ≤ v ∧ v ≤ σ 66 ((k + j : Nat) : Int)
  | 0, k, l, _, h, j, v, hv => by
    have : l = [] := by simpa [En] using h
    rw [this] at hv
    cases hv
  | m + 1, k, l, hkm, h, j, v, hv => by
    obtain ⟨x, h1, h2⟩ := List.mem_flatMap.mp h
    obtain ⟨s, h3, rfl⟩ := List.mem_map.mp h2
    cases j with
    | zero =>
      cases hv
      exact dom_bnd hw (by omega) h1
    | succ j =>
      have := En_bnd hw m (k + 1) s (by omega) h3 j v hv
      have e : k + 1 + j = k + (j + 1) := by omega
      rw [e] at this
      exact this
theorem RP_of {σ τ : Mem} {n R F : Nat} {pp : Nat} (hw : RW σ n R F) (h : lst (τ pp) 0 n ∈ rEn σ n) : RP τ pp n := fun i a b => by
  have h1 := En_bnd hw n 0 _ (by omega) h i.toNat (τ pp i) (by rw [lst_get _ n 0 _ (by omega), Nat.zero_add, Int.toNat_of_nonneg a])
  have hd := hw.2.2.1 i a b
  rw [Nat.zero_add, Int.toNat_of_nonneg a] at h1
  omega
theorem rEn_core {σ τ : Mem} (h : CoreEq σ τ) (n : Nat) : rEn τ n = rEn σ n := by
  unfold rEn
  rw [h 65 (by decide) (by decide), h 66 (by decide) (by decide), h 70 (by decide) (by decide)]
theorem rEn_chn {σ : Mem} {n R F : Nat} (hw : RW σ n R F) : Chn (nx (σ 65) (σ 66) (σ 70) 0) (lst (fsv (σ 65) (σ 70)) 0 n) (rEn σ n) := En_chn n 0 (fun d _ b => (hw.2.2.1 (d : Int) (by omega) (by omega)).2.1)
theorem rEn_ne {σ : Mem} {n R F : Nat} (hw : RW σ n R F) : 0 < (rEn σ n).length := by
  have := En_ne (lo := σ 65) (hi := σ 66) (pin := σ 70) n 0 (fun d _ b => (hw.2.2.1 (d : Int) (by omega) (by omega)).2.1)
  exact List.length_pos_iff.mpr this
theorem rEn_0 {σ : Mem} {n R F : Nat} (hw : RW σ n R F) {τ : Mem} (h : ∀ j : Int, 0 ≤ j → j < n → τ 83 j = fsv (σ 65) (σ 70) j) : (rEn σ n)[0]? = some (lst (τ 83) 0 n) := by
  have h1 := (rEn_chn hw).1
  rw [← List.head?_eq_getElem?, h1, lst_congr (a := τ 83) (b := fsv (σ 65) (σ 70)) (fun j _ b => h (j : Int) (by omega) (by omega))]
theorem fold_s {α : Type} {f : α → List Int → α} {s0 : α} {L : List (List Int)} {i : Nat} {x : List Int} (h : L[i]? = some x) : (L.take (i + 1)).foldl f s0 = f ((L.take i).foldl f s0) x := by
  rw [List.take_add_one, h, List.foldl_append]
  rfl
theorem fold_e {α : Type} {f : α → List Int → α} {s0 : α} {L : List (List Int)} {i : Nat} (h : L.length ≤ i) : (L.take i).foldl f s0 = L.foldl f s0 := by
  rw [List.take_of_length_le h]
def bt (wf c' w' c w : Int) : Prop := if wf = 0 then c' < c ∨ (c' = c ∧ w < w') else w < w' ∨ (w' = w ∧ c' < c)
noncomputable def bst (wf : Int) (ok : List Int → Prop) (co wo : List Int → Int) (s : Option (Int × Int × List Int)) (l : List Int) : Option (Int × Int × List Int) :=
  if cd (ok l) && (match s with | none => true | some (c, w, _) => cd (bt wf (co l) (wo l) c w)) then some (co l, wo l, l) else s
theorem bst_no {wf : Int} {ok : List Int → Prop} {co wo : List Int → Int} {s : Option (Int × Int × List Int)} {l : List Int} (h : ¬ ok l) : bst wf ok co wo s l = s := by unfold bst; rw [cd_f h]; rfl
theorem bst_first {wf : Int} {ok : List Int → Prop} {co wo : List Int → Int} {l : List Int} (h : ok l) : bst wf ok co wo none l = some (co l, wo l, l) := by unfold bst; rw [cd_t h]; rfl
theorem bst_yes {wf : Int} {ok : List Int → Prop} {co wo : List Int → Int} {c w : Int} {l l0 : List Int} (h : ok l) (hb : bt wf (co l) (wo l) c w) : bst wf ok co wo (some (c, w, l0)) l = some (co l, wo l, l) := by
  show (if (cd (ok l) && cd (bt wf (co l) (wo l) c w)) = true then _ else _) = _
  rw [cd_t h, cd_t hb]; rfl
theorem bst_keep {wf : Int} {ok : List Int → Prop} {co wo : List Int → Int} {c w : Int} {l l0 : List Int} (hb : ¬ bt wf (co l) (wo l) c w) : bst wf ok co wo (some (c, w, l0)) l = some (c, w, l0) := by
  show (if (cd (ok l) && cd (bt wf (co l) (wo l) c w)) = true then _ else _) = _
  rw [cd_f hb, Bool.and_false]; rfl
/-- a plan that holds -/
def rok (σ : Mem) (n R : Nat) (l : List Int) : Prop := rAlw σ (pf l) n ∧ rbrk σ (pf l) n R = 0
noncomputable def rbest (σ : Mem) (n R : Nat) : Option (Int × Int × List Int) := (rEn σ n).foldl (bst (σ 64 17) (rok σ n R) (fun l => rcost σ n (pf l)) (fun l => rwor σ n (pf l))) none
def SIs (s : Option (Int × Int × List Int)) (a c w : Int) (l : List Int) : Prop := match s with
  | none => a = 0
  | some (c', w', l') => a = 1 ∧ c = c' ∧ w = w' ∧ l = l'
/-! a memory whose row 83 holds a plan of the list -/
theorem pl_agree {a : Int → Int} {n : Nat} : ∀ j : Nat, j < n → a (j : Int) = pf (lst a 0 n) (j : Int) := fun j h => (pf_lst h).symm
theorem core_of {σ τ : Mem} (h : ∀ c, c ≠ 83 → c ≠ 84 → c < 85 → τ c = σ c) : CoreEq σ τ := fun c a b => h c (by omega) (by omega) (by omega)
theorem rok_at {σ τ : Mem} {n R F : Nat} (hw : RW σ n R F) (h : CoreEq σ τ) (pp : Nat) : rok σ n R (lst (τ pp) 0 n) ↔ rAlw τ (τ pp) n ∧ rbrk τ (τ pp) n R = 0 := by
  unfold rok
  rw [rAlw_core h, rbrk_core h, ← rAlw_congr pl_agree, ← rbrk_congr hw pl_agree]
theorem rcost_at {σ τ : Mem} (n : Nat) (h : CoreEq σ τ) (pp : Nat) : sumI (cst (τ 64 21) (rbv τ) (τ 68) (τ 69) (τ pp)) n = rcost σ n (pf (lst (τ pp) 0 n)) := by
  show rcost τ n (τ pp) = _
  rw [rcost_core h, rcost_congr pl_agree]
theorem rwor_at {σ τ : Mem} (n : Nat) (h : CoreEq σ τ) (pp : Nat) : sumI (fun d => τ 71 (6 * d + τ pp d)) n = rwor σ n (pf (lst (τ pp) 0 n)) := by
  show rwor τ n (τ pp) = _
  rw [rwor_core h, rwor_congr pl_agree]
theorem rbrk_at {σ τ : Mem} {n R F : Nat} (hw : RW σ n R F) (h : CoreEq σ τ) (pp : Nat) : rbrk τ (τ pp) n R = rbrk σ (pf (lst (τ pp) 0 n)) n R := by rw [rbrk_core h, rbrk_congr hw pl_agree]
theorem rAlw_at {σ τ : Mem} {n : Nat} (h : CoreEq σ τ) (pp : Nat) : rAlw τ (τ pp) n ↔ rAlw σ (pf (lst (τ pp) 0 n)) n := by rw [rAlw_core h, rAlw_congr pl_agree]
theorem nx_at {σ τ : Mem} {n R F i : Nat} (hw : RW σ n R F) (h : CoreEq σ τ) (hi : (rEn σ n)[i]? = some (lst (τ 83) 0 n)) : nx (τ 65) (τ 66) (τ 70) 0 (lst (τ 83) 0 n) = (rEn σ n)[i + 1]? := by
  rw [h 65 (by decide) (by decide), h 66 (by decide) (by decide), h 70 (by decide) (by decide)]
  exact (rEn_chn hw).2 i _ hi
