/-! prefixes and their completions -/
theorem pf_app_lt {pre x : List Int} {j : Nat} (h : j < pre.length) : pf (pre ++ x) (j : Int) = pf pre (j : Int) := by
  unfold pf
  rw [Int.toNat_natCast, List.getD_eq_getElem?_getD, List.getD_eq_getElem?_getD, List.getElem?_append_left h]
theorem pf_app_eq {pre : List Int} {v : Int} {x : List Int} : pf (pre ++ v :: x) (pre.length : Int) = v := by
  unfold pf
  rw [Int.toNat_natCast, List.getD_eq_getElem?_getD, List.getElem?_append_right (Nat.le_refl _), Nat.sub_self]
  rfl
theorem cst_at {bs : Int} {bv wt pr p : Int → Int} {k v : Int} (h : p k = v) : cst bs bv wt pr p k = cst bs bv wt pr (fun _ => v) k := by
  unfold cst mv
  rw [h]
theorem mv_at {bs : Int} {bv p : Int → Int} {k v : Int} (h : p k = v) : mv bs bv p k = mv bs bv (fun _ => v) k := by
  unfold mv
  rw [h]
theorem ccost_app {σ : Mem} {pre : List Int} {v : Int} {k : Nat} (hk : pre.length = k) : ccost σ (pf (pre ++ [v])) (k + 1) = ccost σ (pf pre) k + cst (σ 3 1) (cbv σ) (σ 15) (σ 16) (fun _ => v) (k : Int) := by
  subst hk
  show sumI _ pre.length + cst _ _ _ _ (pf (pre ++ [v])) (pre.length : Int) = _
  rw [cst_at pf_app_eq]
  congr 1
  exact ccost_congr (fun j hj => pf_app_lt hj)
theorem cwor_app {σ : Mem} {pre : List Int} {v : Int} {k : Nat} (hk : pre.length = k) : cwor σ (pf (pre ++ [v])) (k + 1) = cwor σ (pf pre) k + σ (19 + k) v := by
  subst hk
  show sumI _ pre.length + σ (19 + ((pre.length : Int)).toNat) (pf (pre ++ [v]) (pre.length : Int)) = _
  rw [pf_app_eq, Int.toNat_natCast]
  congr 1
  exact cwor_congr (fun j hj => pf_app_lt hj)
theorem ccnt_app {σ : Mem} {pre : List Int} {v w : Int} {k : Nat} (hk : pre.length = k) : ccnt σ (pf (pre ++ [v])) w (k + 1) = ccnt σ (pf pre) w k + one (decide (σ 14 (k : Int) = w) && mv (σ 3 1) (cbv σ) (fun _ => v) (k : Int)) := by
  subst hk
  show sumI _ pre.length + one (decide (σ 14 (pre.length : Int) = w) && mv _ _ (pf (pre ++ [v])) (pre.length : Int)) = _
  rw [mv_at pf_app_eq]
  congr 1
  exact ccnt_congr (fun j hj => pf_app_lt hj)
theorem cbr_app {σ : Mem} {n R F : Nat} (hw : CW σ n R F) {g : Nat → Bool} {pre : List Int} {v : Int} {k : Nat} (hk : pre.length = k) {p : Int → Int} (hp : ∀ j : Nat, j < k + 1 → p (j : Int) = pf (pre ++ [v]) (j : Int)) : bor (cbr σ g R (pf pre) k : Int) (bitsN (fun r => baF σ p (σ 51) k r && g r) R : Int) = (cbr σ g R (pf (pre ++ [v])) (k + 1) : Int) := by
  unfold cbr
  rw [bor_bits _ _ hw.1.2.2.2.1]
  congr 1
  refine bitsN_congr (fun r hr => ?_)
  show (pBF σ (pf pre) (σ 51) k r && g r || baF σ p (σ 51) k r && g r) = ((pBF σ (pf (pre ++ [v])) (σ 51) k r || baF σ (pf (pre ++ [v])) (σ 51) k r) && g r)
  rw [baF_congr hw hr hp, pBF_congr hw hr (p := pf (pre ++ [v])) (q := pf pre) (fun j hj => pf_app_lt (by omega))]
  cases pBF σ (pf pre) (σ 51) k r <;> cases baF σ (pf (pre ++ [v])) (σ 51) k r <;> cases g r <;> rfl
abbrev cEn (σ : Mem) (k m : Nat) : List (List Int) := En (σ 12) (σ 13) (σ 17) k m
theorem cdom_bnd {σ : Mem} {n R F : Nat} (hw : CW σ n R F) {k : Nat} (hk : k < n) {v : Int} (h : v ∈ dom (σ 12) (σ 13) (σ 17) (k : Int)) : 0 ≤ v ∧ v ≤ 5 := by
  have hd := hw.2.2.1 (k : Int) (by omega) (by omega)
  unfold dom at h
  by_cases hp : σ 17 (k : Int) = -5
  · rw [if_pos hp] at h
    have := upto_mem.mp h
    omega
  · rw [if_neg hp] at h
    have : v = σ 17 (k : Int) := by simpa using h
    omega
theorem cpl_bnd {σ : Mem} {n R F : Nat} (hw : CW σ n R F) : ∀ (m k : Nat) (pre s : List Int), k + m = n → pre.length = k → (∀ j : Nat, j < k → 0 ≤ pf pre (j : Int) ∧ pf pre (j : Int) ≤ 5) → s ∈ cEn σ k m → ∀ j : Nat, j < n → 0 ≤ pf (pre ++ s) (j : Int) ∧ pf (pre ++ s) (j : Int) ≤ 5
  | 0, k, pre, s, hk, hl, hp, hs, j, hj => by
    have : s = [] := by simpa [En] using hs
    rw [this, List.append_nil]
    exact hp j (by omega)
  | m + 1, k, pre, s, hk, hl, hp, hs, j, hj => by
    obtain ⟨v, h1, h2⟩ := List.mem_flatMap.mp hs
    obtain ⟨s', h3, rfl⟩ := List.mem_map.mp h2
    have e : pre ++ v :: s' = (pre ++ [v]) ++ s' := by rw [List.append_assoc]; rfl
    rw [e]
    refine cpl_bnd hw m (k + 1) (pre ++ [v]) s' (by omega) (by rw [List.length_append, hl]; rfl) (fun j hj => ?_) h3 j hj
    by_cases ej : j = k
    · subst ej
      rw [← hl, pf_app_eq]
      exact cdom_bnd hw (by omega) h1
    · rw [pf_app_lt (by omega)]
      exact hp j (by omega)
theorem cpl_cost {σ : Mem} {n R F : Nat} (hw : CW σ n R F) {m k : Nat} {pre s : List Int} (hk : k + m = n) (hl : pre.length = k) (hp : ∀ j : Nat, j < k → 0 ≤ pf pre (j : Int) ∧ pf pre (j : Int) ≤ 5) (hs : s ∈ cEn σ k m) : ccost σ (pf pre) k ≤ ccost σ (pf (pre ++ s)) n := by
  rw [← ccost_congr (p := pf (pre ++ s)) (q := pf pre) (fun j hj => pf_app_lt (by omega))]
  exact sumI_mono (fun j hj => (ccst_bnd hw (by omega) (cpl_bnd hw m k pre s hk hl hp hs j hj)).1) (by omega)
theorem cpl_cnt {σ : Mem} {n m k : Nat} {pre s : List Int} (hk : k + m = n) (hl : pre.length = k) (w : Int) : ccnt σ (pf pre) w k ≤ ccnt σ (pf (pre ++ s)) w n := by
  rw [← ccnt_congr (p := pf (pre ++ s)) (q := pf pre) (fun j hj => pf_app_lt (by omega))]
  exact sumI_mono (fun j hj => (one_bnd _).1) (by omega)
theorem cpl_br {σ : Mem} {n R F : Nat} (hw : CW σ n R F) {g : Nat → Bool} {m k : Nat} {pre s : List Int} (hk : k + m = n) (hl : pre.length = k) : cbr σ g R (pf pre) k &&& cbr σ g R (pf (pre ++ s)) n = cbr σ g R (pf pre) k := by
  apply Nat.eq_of_testBit_eq
  intro i
  unfold cbr
  rw [Nat.testBit_and, bitsN_test, bitsN_test]
  by_cases hi : i < R
  · rw [decide_eq_true hi, ← pBF_congr hw hi (p := pf (pre ++ s)) (q := pf pre) (k := k) (fun j hj => pf_app_lt (by omega))]
    cases h : pBF σ (pf (pre ++ s)) (σ 51) k i with
    | false => simp
    | true =>
      have := pBF_mono (m := m) h
      rw [hk] at this
      rw [this]
      simp
  · rw [decide_eq_false hi]
    simp
theorem cbr_lt {σ : Mem} {n R F : Nat} (hw : CW σ n R F) (g : Nat → Bool) (p : Int → Int) (k : Nat) : cbr σ g R p k < 4096 := by
  have h1 : cbr σ g R p k < 2 ^ R := bitsN_lt _ _
  have h3 : 2 ^ R ≤ 2 ^ 12 := Nat.pow_le_pow_right (by omega) hw.1.2.2.2.1
  have h4 : (2 : Nat) ^ 12 = 4096 := by decide
  omega
theorem cpl_wor {σ : Mem} {n R F : Nat} (hw : CW σ n R F) (h0 : 0 ≤ σ 55 (n : Int)) (hs : ∀ k : Nat, k < n → ∀ v : Int, v ∈ dom (σ 12) (σ 13) (σ 17) (k : Int) → σ (19 + k) v + σ 55 ((k + 1 : Nat) : Int) ≤ σ 55 (k : Int)) : ∀ (m k : Nat) (pre s : List Int), k + m = n → pre.length = k → s ∈ cEn σ k m → cwor σ (pf (pre ++ s)) n ≤ cwor σ (pf pre) k + σ 55 (k : Int)
  | 0, k, pre, s, hk, hl, h => by
    have : s = [] := by simpa [En] using h
    have e : k = n := by omega
    subst e
    rw [this, List.append_nil]
    omega
  | m + 1, k, pre, s, hk, hl, h => by
    obtain ⟨v, h1, h2⟩ := List.mem_flatMap.mp h
    obtain ⟨s', h3, rfl⟩ := List.mem_map.mp h2
    have e : pre ++ v :: s' = (pre ++ [v]) ++ s' := by rw [List.append_assoc]; rfl
    have ih := cpl_wor hw h0 hs m (k + 1) (pre ++ [v]) s' (by omega) (by rw [List.length_append, hl]; rfl) h3
    have h5 := hs k (by omega) v h1
    rw [cwor_app hl] at ih
    rw [e]
    omega
/-- what a goal does -/
def GS {St : Type} (Rel : Mem → St → Prop) (hop : St → Int → Int → Nat → Prop) (rch : St → List Int → Int → Int → Nat → St) (wt : St → Nat) (Mh Mr : MD) (cg n : Nat) (gcs : Nat → Prop) : Prop :=
  (∃ (ci : Nat) (fl : List (Option Nat)) (T : u_T) (N : Nat), shapes[cg]? = some (3, ci, fl) ∧ vwCl[ci]? = some (Mh.1.cls, T, N) ∧ vwCl[ci]? = some (Mr.1.cls, T, N)) ∧ CA RX10 82 nGoalH Mh 3 ∧ CA RX10 88 nGoalR Mr 4 ∧
  (∀ c, gcs c → c = 7 ∨ c = 8 ∨ c = 9 ∨ c = 56 ∨ c = 57) ∧ (∀ τ υ s, Rel τ s → (∀ c, gcs c → υ c = τ c) → Rel υ s) ∧
  (∀ (d : Nat) (τ : Mem) (s : St) (c w : Int) (b : Nat) (K : Int → Mem → Prop), 1 ≤ d → Rel τ s → b < 4096 → (hop s c w b → K 1 τ) → (¬ hop s c w b → K 0 τ) → Run Mh d [.inr (some cg), .inl c, .inl w, .inl (b : Int)] τ (RI K)) ∧
  (∀ (d : Nat) (τ : Mem) (s : St) (c w : Int) (b : Nat) (l : List Int) (K : Mem → Prop), 1 ≤ d → Rel τ s → b < 4096 → lst (τ 54) 0 n = l → wt s < 50000 → ¬ hop s c w b → (∀ υ : Mem, (∀ c, ¬ gcs c → υ c = τ c) → Rel υ (rch s l c w b) → K υ) → Run Mr d [.inr (some cg), .inr (some 54), .inl c, .inl w, .inl (b : Int)] τ (RV K)) ∧
  (∀ (τ : Mem) (s : St) (c w : Int) (b : Nat) (c' w' : Int) (b' : Nat), Rel τ s → hop s c w b → c ≤ c' → w' ≤ w → b &&& b' = b → b' < 4096 → hop s c' w' b') ∧ (∀ s l c w b, wt (rch s l c w b) ≤ wt s + 1)
theorem stp_wt {St : Type} {hop : St → Int → Int → Nat → Prop} {rch : St → List Int → Int → Int → Nat → St} {wt : St → Nat} (h : ∀ s l c w b, wt (rch s l c w b) ≤ wt s + 1) (σ : Mem) (g : Nat → Bool) (n R : Nat) : ∀ (L : List (List Int)) (s : St), wt (L.foldl (stp hop rch σ g n R) s) ≤ wt s + L.length
  | [], s => Nat.le_refl _
  | l :: L, s => by
    have h1 : wt (stp hop rch σ g n R s l) ≤ wt s + 1 := by
      unfold stp
      split
      · split
        · omega
        · exact h _ _ _ _ _
      · omega
    have h2 := stp_wt (hop := hop) h σ g n R L (stp hop rch σ g n R s l)
    show wt (L.foldl _ (stp hop rch σ g n R s l)) ≤ wt s + (L.length + 1)
    omega
/-- the completions by the first c values of a decision -/
def cPr (σ : Mem) (k m c : Nat) : List (List Int) := ((upto (σ 12 (k : Int)) c).filter (okv (σ 17) (k : Int))).flatMap (fun v => (cEn σ (k + 1) m).map (fun s => v :: s))
theorem cPr_s (σ : Mem) (k m c : Nat) : cPr σ k m (c + 1) = cPr σ k m c ++ (if okv (σ 17) (k : Int) (σ 12 (k : Int) + c) then (cEn σ (k + 1) m).map (fun s => (σ 12 (k : Int) + c) :: s) else []) := by
  unfold cPr
  rw [upto_succ, List.filter_append, List.flatMap_append]
  congr 1
  cases h : okv (σ 17) (k : Int) (σ 12 (k : Int) + c) <;> simp [h]
theorem cPr_len (σ : Mem) (k m c : Nat) : ∀ j, (cPr σ k m c).length ≤ (cPr σ k m (c + j)).length
  | 0 => Nat.le_refl _
  | j + 1 => by
    have := cPr_len σ k m c j
    show _ ≤ (cPr σ k m (c + j + 1)).length
    rw [cPr_s, List.length_append]
    omega
theorem cPr_all {σ : Mem} {n R F : Nat} (hw : CW σ n R F) {k m : Nat} (hk : k < n) : cEn σ k (m + 1) = cPr σ k m (σ 13 (k : Int) - σ 12 (k : Int) + 1).toNat := by
  have hd := hw.2.2.1 (k : Int) (by omega) (by omega)
  show (dom (σ 12) (σ 13) (σ 17) (k : Int)).flatMap _ = _
  rw [dom_filter hd.2.1 hd.2.2.2.2.2.2.2.2.2]
  rfl
