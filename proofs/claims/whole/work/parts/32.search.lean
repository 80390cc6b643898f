/-! the search: what it goes through -/
def baF (σ : Mem) (p ff : Int → Int) (k r : Nat) : Bool := (dwB σ (k : Int) r || cvB σ (p (k : Int)) r) && !rk (σ 27 (r : Int)) (σ 28 (r : Int)) (σ 29 (r : Int)) (ff (σ 30 (r : Int))) p (k + 1)
def bnF (σ : Mem) (ff : Int → Int) (r : Nat) : Bool := decide (σ 27 (r : Int) = 5) && decide (ff (σ 30 (r : Int)) < 0)
def pBF (σ : Mem) (p ff : Int → Int) : Nat → Nat → Bool
  | 0, r => bnF σ ff r
  | k + 1, r => pBF σ p ff k r || baF σ p ff k r
theorem pB_F (σ : Mem) (vp fp : Nat) : ∀ (k r : Nat), pB σ vp fp k r = pBF σ (σ vp) (σ fp) k r
  | 0, _ => rfl
  | k + 1, r => by show (pB σ vp fp k r || baB σ vp fp k r) = (pBF σ (σ vp) (σ fp) k r || baF σ (σ vp) (σ fp) k r); rw [pB_F σ vp fp k r]; rfl
theorem band_bits (f g : Nat → Bool) {R : Nat} (hR : R ≤ 12) : band (bitsN f R : Int) (bitsN g R : Int) = (bitsN (fun r => f r && g r) R : Int) := by
  have hf := bitsN_lt f R
  have h2 : 2 ^ R ≤ 2 ^ 12 := Nat.pow_le_pow_right (by omega) hR
  rw [band_nat (by omega)]
  congr 1
  apply Nat.eq_of_testBit_eq
  intro i
  rw [Nat.testBit_and, bitsN_test, bitsN_test, bitsN_test]
  cases decide (i < R) <;> simp
/-- the class's cells but for those that the search writes -/
def scr (c : Nat) : Prop := c = 53 ∨ c = 54 ∨ c = 7 ∨ c = 8 ∨ c = 9 ∨ c = 56 ∨ c = 57
def CoreS (σ τ : Mem) : Prop := ∀ c : Nat, ¬ scr c → τ c = σ c
theorem CoreS.rf (σ : Mem) : CoreS σ σ := fun _ _ => rfl
theorem nscr {c : Nat} (h : (c == 53 || c == 54 || c == 7 || c == 8 || c == 9 || c == 56 || c == 57) = false) : ¬ scr c := by
  intro q
  rcases q with q | q | q | q | q | q | q <;> subst q <;> cases h
theorem cbv_core {σ τ : Mem} {n : Nat} (h : CoreS σ τ) (hb : CB σ n) (hne : σ 3 1 ≠ -5) : cbv τ = cbv σ := by
  have h3 : τ 3 = σ 3 := h 3 (nscr rfl)
  have hr := hb.resolve_left hne
  funext d
  show τ (34 + (τ 3 1).toNat) d = σ (34 + (σ 3 1).toNat) d
  rw [h3, h (34 + (σ 3 1).toNat) (by unfold scr; omega)]
theorem CB.coreS {σ τ : Mem} {n : Nat} (hb : CB σ n) (h : CoreS σ τ) : CB τ n := by
  have h3 : τ 3 = σ 3 := h 3 (nscr rfl)
  by_cases hne : σ 3 1 = -5
  · exact Or.inl (by rw [h3]; exact hne)
  · have hr := hb.resolve_left hne
    have e := cbv_core h hb hne
    exact Or.inr ⟨by rw [h3]; exact hr.1, by rw [h3]; exact hr.2.1, fun d a b => by rw [e]; exact hr.2.2 d a b⟩
theorem dwB_core {σ τ : Mem} (h27 : τ 27 = σ 27) (h28 : τ 28 = σ 28) (h29 : τ 29 = σ 29) : dwB τ = dwB σ := by
  funext d r
  unfold dwB
  rw [h27, h28, h29]
theorem cvB_core {σ τ : Mem} (h27 : τ 27 = σ 27) (h29 : τ 29 = σ 29) : cvB τ = cvB σ := by
  funext d r
  unfold cvB
  rw [h27, h29]
theorem CW.coreS {σ τ : Mem} {n R F : Nat} (hw : CW σ n R F) (h : CoreS σ τ) : CW τ n R F := by
  obtain ⟨h1, h2, h3, h4, h5, h6, h7, h8, h9⟩ := hw
  refine ⟨?_, ?_, ?_, fun d v a b c e => ?_, ?_, h6.coreS h, ?_, ?_, ?_⟩
  · rw [h 1 (nscr rfl), h 2 (nscr rfl)]; exact h1
  · rw [h 27 (nscr rfl), h 28 (nscr rfl), h 29 (nscr rfl), h 30 (nscr rfl)]; exact h2
  · rw [h 12 (nscr rfl), h 13 (nscr rfl), h 14 (nscr rfl), h 15 (nscr rfl), h 16 (nscr rfl), h 17 (nscr rfl)]; exact h3
  · rw [h (19 + d.toNat) (by unfold scr; omega)]; exact h4 d v a b c e
  · rw [h 25 (nscr rfl)]; exact h5
  · rw [h 0 (nscr rfl)]; exact h7
  · rw [h 31 (nscr rfl), dwB_core (h 27 (nscr rfl)) (h 28 (nscr rfl)) (h 29 (nscr rfl))]; exact h8
  · rw [h 32 (nscr rfl), cvB_core (h 27 (nscr rfl)) (h 29 (nscr rfl))]; exact h9
theorem mv_core {σ τ : Mem} {n : Nat} (h : CoreS σ τ) (hb : CB σ n) (p : Int → Int) (d : Int) : mv (τ 3 1) (cbv τ) p d = mv (σ 3 1) (cbv σ) p d := by
  have h3 : τ 3 = σ 3 := h 3 (nscr rfl)
  rw [h3]
  by_cases hne : σ 3 1 = -5
  · unfold mv
    rw [decide_eq_false (fun q => q.1 hne), decide_eq_false (fun q => q.1 hne)]
  · rw [cbv_core h hb hne]
theorem ccst_core {σ τ : Mem} {n : Nat} (h : CoreS σ τ) (hb : CB σ n) (p : Int → Int) (d : Int) : cst (τ 3 1) (cbv τ) (τ 15) (τ 16) p d = cst (σ 3 1) (cbv σ) (σ 15) (σ 16) p d := by
  unfold cst
  rw [mv_core h hb, h 15 (nscr rfl), h 16 (nscr rfl)]
  by_cases hm : mv (σ 3 1) (cbv σ) p d = true
  · have hq : σ 3 1 ≠ -5 ∧ p d ≠ cbv σ d := of_decide_eq_true hm
    rw [cbv_core h hb hq.1]
  · rw [if_neg hm, if_neg hm]
theorem baF_core {σ τ : Mem} (h : CoreS σ τ) (p ff : Int → Int) (k r : Nat) : baF τ p ff k r = baF σ p ff k r := by
  unfold baF
  rw [dwB_core (h 27 (nscr rfl)) (h 28 (nscr rfl)) (h 29 (nscr rfl)), cvB_core (h 27 (nscr rfl)) (h 29 (nscr rfl)), h 27 (nscr rfl), h 28 (nscr rfl), h 29 (nscr rfl), h 30 (nscr rfl)]
theorem bnF_core {σ τ : Mem} (h : CoreS σ τ) (ff : Int → Int) (r : Nat) : bnF τ ff r = bnF σ ff r := by
  unfold bnF
  rw [h 27 (nscr rfl), h 30 (nscr rfl)]
theorem rk_congr2 {kd a b F : Int} {p q : Int → Int} {n : Nat} (h : ∀ j : Nat, j < n → p (j : Int) = q (j : Int)) (hab : kd ≠ 5 → 0 ≤ a ∧ a < n ∧ 0 ≤ b ∧ b < n) : rk kd a b F p n = rk kd a b F q n := rk_congr h hab
theorem baF_congr {σ : Mem} {n R F : Nat} (hw : CW σ n R F) {p q : Int → Int} {ff : Int → Int} {k r : Nat} (hr : r < R) (h : ∀ j : Nat, j < k + 1 → p (j : Int) = q (j : Int)) : baF σ p ff k r = baF σ q ff k r := by
  unfold baF
  rw [h k (by omega)]
  cases ht : (dwB σ (k : Int) r || cvB σ (q (k : Int)) r) with
  | false => rfl
  | true =>
    have hru := hw.2.1 (r : Int) (by omega) (by omega)
    rw [rk_congr h (fun hk => ?_)]
    rcases Bool.or_eq_true_iff.mp ht with hx | hx
    · have hm := of_decide_eq_true (Bool.and_eq_true_iff.mp hx).2
      have h5 := hru.2.2.2.2.2 hk
      omega
    · exact absurd (of_decide_eq_true (Bool.and_eq_true_iff.mp hx).1) hk
theorem pBF_congr {σ : Mem} {n R F : Nat} (hw : CW σ n R F) {p q : Int → Int} {ff : Int → Int} {r : Nat} (hr : r < R) : ∀ {k : Nat}, (∀ j : Nat, j < k → p (j : Int) = q (j : Int)) → pBF σ p ff k r = pBF σ q ff k r
  | 0, _ => rfl
  | k + 1, h => by
    show (pBF σ p ff k r || baF σ p ff k r) = (pBF σ q ff k r || baF σ q ff k r)
    rw [pBF_congr hw hr (fun j hj => h j (by omega)), baF_congr hw hr h]
theorem pBF_mono {σ : Mem} {p ff : Int → Int} {r : Nat} : ∀ {k m : Nat}, pBF σ p ff k r = true → pBF σ p ff (k + m) r = true
  | k, 0, h => h
  | k, m + 1, h => by
    show (pBF σ p ff (k + m) r || baF σ p ff (k + m) r) = true
    rw [pBF_mono (m := m) h]
    rfl
def ccost (σ : Mem) (p : Int → Int) (k : Nat) : Int := sumI (cst (σ 3 1) (cbv σ) (σ 15) (σ 16) p) k
def cwor (σ : Mem) (p : Int → Int) (k : Nat) : Int := sumI (fun d => σ (19 + d.toNat) (p d)) k
def cbr (σ : Mem) (g : Nat → Bool) (R : Nat) (p : Int → Int) (k : Nat) : Nat := bitsN (fun r => pBF σ p (σ 51) k r && g r) R
def ccnt (σ : Mem) (p : Int → Int) (w : Int) (k : Nat) : Int := sumI (fun d => one (decide (σ 14 d = w) && mv (σ 3 1) (cbv σ) p d)) k
theorem ccost_congr {σ : Mem} {k : Nat} {p q : Int → Int} (h : ∀ j : Nat, j < k → p (j : Int) = q (j : Int)) : ccost σ p k = ccost σ q k := sumI_congr (fun j hj => by unfold cst; rw [mv_congr (h j hj), h j hj])
theorem cwor_congr {σ : Mem} {k : Nat} {p q : Int → Int} (h : ∀ j : Nat, j < k → p (j : Int) = q (j : Int)) : cwor σ p k = cwor σ q k := sumI_congr (fun j hj => by show σ _ (p (j : Int)) = σ _ (q (j : Int)); rw [h j hj])
theorem ccnt_congr {σ : Mem} {k : Nat} {p q : Int → Int} {w : Int} (h : ∀ j : Nat, j < k → p (j : Int) = q (j : Int)) : ccnt σ p w k = ccnt σ q w k := sumI_congr (fun j hj => by show one (_ && mv _ _ p _) = one (_ && mv _ _ q _); rw [mv_congr (h j hj)])
theorem cbr_congr {σ : Mem} {n R F : Nat} (hw : CW σ n R F) {g : Nat → Bool} {k : Nat} {p q : Int → Int} (h : ∀ j : Nat, j < k → p (j : Int) = q (j : Int)) : cbr σ g R p k = cbr σ g R q k := bitsN_congr (fun r hr => by rw [pBF_congr hw hr h])
def LimOK (σ : Mem) (n : Nat) (l : List Int) : Prop := ∀ w : Int, 0 ≤ w → w < 4 → ccnt σ (pf l) w n ≤ σ 52 w
/-- one plan of the search: reached or not -/
noncomputable def stp {St : Type} (hop : St → Int → Int → Nat → Prop) (rch : St → List Int → Int → Int → Nat → St) (σ : Mem) (g : Nat → Bool) (n R : Nat) (s : St) (l : List Int) : St :=
  if cd (LimOK σ n l) then (if cd (hop s (ccost σ (pf l) n) (cwor σ (pf l) n) (cbr σ g R (pf l) n)) then s else rch s l (ccost σ (pf l) n) (cwor σ (pf l) n) (cbr σ g R (pf l) n)) else s
theorem stp_lim {St : Type} {hop : St → Int → Int → Nat → Prop} {rch : St → List Int → Int → Int → Nat → St} {σ : Mem} {g : Nat → Bool} {n R : Nat} {s : St} {l : List Int} (h : ¬ LimOK σ n l) : stp hop rch σ g n R s l = s := by unfold stp; rw [cd_f h]; rfl
theorem stp_hop {St : Type} {hop : St → Int → Int → Nat → Prop} {rch : St → List Int → Int → Int → Nat → St} {σ : Mem} {g : Nat → Bool} {n R : Nat} {s : St} {l : List Int} (h : hop s (ccost σ (pf l) n) (cwor σ (pf l) n) (cbr σ g R (pf l) n)) : stp hop rch σ g n R s l = s := by
  unfold stp
  rw [cd_t h]
  split <;> rfl
theorem stp_go {St : Type} {hop : St → Int → Int → Nat → Prop} {rch : St → List Int → Int → Int → Nat → St} {σ : Mem} {g : Nat → Bool} {n R : Nat} {s : St} {l : List Int} (hl : LimOK σ n l) (h : ¬ hop s (ccost σ (pf l) n) (cwor σ (pf l) n) (cbr σ g R (pf l) n)) : stp hop rch σ g n R s l = rch s l (ccost σ (pf l) n) (cwor σ (pf l) n) (cbr σ g R (pf l) n) := by unfold stp; rw [cd_t hl, cd_f h]; rfl
theorem fold_id {α β : Type} {f : α → β → α} {s : α} : ∀ (L : List β), (∀ l, l ∈ L → f s l = s) → L.foldl f s = s
  | [], _ => rfl
  | x :: L, h => by
    show L.foldl f (f s x) = s
    rw [h x List.mem_cons_self]
    exact fold_id L (fun l hl => h l (List.mem_cons_of_mem _ hl))
/-- the values of a decision, as the search goes through them -/
def okv (pin : Int → Int) (k v : Int) : Bool := decide (pin k = -5) || decide (pin k = v)
theorem upto_succ (v : Int) : ∀ c, upto v (c + 1) = upto v c ++ [v + c]
  | 0 => by simp [upto]
  | c + 1 => by
    have ih := upto_succ (v + 1) c
    show v :: upto (v + 1) (c + 1) = (v :: upto (v + 1) c) ++ [v + ((c + 1 : Nat) : Int)]
    rw [ih, show v + 1 + (c : Int) = v + ((c + 1 : Nat) : Int) by omega]
    rfl
theorem filter_pin (p : Int) : ∀ (c : Nat) (v : Int), v ≤ p → p < v + c → (upto v c).filter (fun u => decide (p = u)) = [p]
  | 0, v, h1, h2 => by omega
  | c + 1, v, h1, h2 => by
    show (v :: upto (v + 1) c).filter (fun u => decide (p = u)) = [p]
    by_cases e : p = v
    · subst e
      have hz : (upto (p + 1) c).filter (fun u => decide (p = u)) = [] := by
        rw [List.filter_eq_nil_iff]
        intro u hu
        have := upto_mem.mp hu
        have : ¬ p = u := by omega
        simp [this]
      rw [List.filter_cons_of_pos (by simp), hz]
    · rw [List.filter_cons_of_neg (by simp [e])]
      exact filter_pin p c (v + 1) (by omega) (by omega)
theorem dom_filter {lo hi pin : Int → Int} {k : Int} (h : lo k ≤ hi k) (hp : pin k = -5 ∨ (lo k ≤ pin k ∧ pin k ≤ hi k)) : dom lo hi pin k = (upto (lo k) (hi k - lo k + 1).toNat).filter (okv pin k) := by
  unfold dom
  by_cases e : pin k = -5
  · rw [if_pos e]
    symm
    rw [List.filter_eq_self]
    intro a _
    unfold okv
    rw [decide_eq_true e]
    rfl
  · rw [if_neg e]
    have hr := hp.resolve_left e
    have he : okv pin k = fun u => decide (pin k = u) := by
      funext u
      unfold okv
      rw [decide_eq_false e]
      rfl
    rw [he, filter_pin (pin k) _ (lo k) hr.1 (by omega)]
