/-! class and reference: the same plans, costs, worths, broken rules -/
def CR (σ ρ : Mem) (n R : Nat) : Prop :=
  (∀ d : Int, 0 ≤ d → d < n → σ 12 d = ρ 65 d ∧ σ 13 d = ρ 66 d ∧ σ 14 d = ρ 67 d ∧ σ 15 d = ρ 68 d ∧ σ 16 d = ρ 69 d ∧ σ 17 d = ρ 70 d) ∧
  (∀ d v : Int, 0 ≤ d → d < 6 → 0 ≤ v → v < 6 → σ (19 + d.toNat) v = ρ 71 (6 * d + v)) ∧
  (σ 3 1 = ρ 64 21 ∧ (σ 3 1 ≠ -5 → ∀ d : Int, 0 ≤ d → d < n → cbv σ d = rbv ρ d)) ∧
  (∀ r : Int, 0 ≤ r → r < R → σ 27 r = ρ 75 r ∧ σ 28 r = ρ 76 r ∧ σ 29 r = ρ 77 r ∧ σ 30 r = ρ 78 r)
theorem En_congr {lo hi pin lo' hi' pin' : Int → Int} : ∀ (m k : Nat), (∀ d : Nat, k ≤ d → d < k + m → lo (d : Int) = lo' (d : Int) ∧ hi (d : Int) = hi' (d : Int) ∧ pin (d : Int) = pin' (d : Int)) → En lo hi pin k m = En lo' hi' pin' k m
  | 0, _, _ => rfl
  | m + 1, k, h => by
    have h0 := h k (Nat.le_refl _) (by omega)
    show (dom lo hi pin (k : Int)).flatMap _ = (dom lo' hi' pin' (k : Int)).flatMap _
    rw [En_congr m (k + 1) (fun d a b => h d (by omega) (by omega))]
    unfold dom
    rw [h0.1, h0.2.1, h0.2.2]
theorem En_dom {lo hi pin : Int → Int} : ∀ (m k : Nat) (l : List Int), l ∈ En lo hi pin k m → ∀ (j : Nat) (v : Int), l[j]? = some v → v ∈ dom lo hi pin ((k + j : Nat) : Int)
  | 0, k, l, hl, j, v, hv => by
    have : l = [] := by simpa [En] using hl
    rw [this] at hv
    cases hv
  | m + 1, k, l, hl, j, v, hv => by
    obtain ⟨w, hw, h2⟩ := List.mem_flatMap.mp hl
    obtain ⟨s, h3, rfl⟩ := List.mem_map.mp h2
    cases j with
    | zero =>
      have : w = v := by simpa using hv
      rw [← this]; exact hw
    | succ j =>
      have := En_dom m (k + 1) s h3 j v (by simpa using hv)
      rw [show k + (j + 1) = k + 1 + j by omega]
      exact this
theorem dom_mem {lo hi pin : Int → Int} {d v : Int} (hp : pin d = -5 ∨ (lo d ≤ pin d ∧ pin d ≤ hi d)) (h : v ∈ dom lo hi pin d) : lo d ≤ v ∧ v ≤ hi d ∧ (pin d = -5 ∨ pin d = v) := by
  unfold dom at h
  by_cases e : pin d = -5
  · rw [if_pos e] at h
    have := upto_mem.mp h
    exact ⟨by omega, by omega, Or.inl e⟩
  · rw [if_neg e] at h
    have h2 : v = pin d := by simpa using h
    have := hp.resolve_left e
    exact ⟨by omega, by omega, Or.inr h2.symm⟩
theorem rEn_mem {ρ : Mem} {n R F : Nat} (hr : RW ρ n R F) {l : List Int} (hl : l ∈ rEn ρ n) : ∀ d : Int, 0 ≤ d → d < n → ρ 65 d ≤ pf l d ∧ pf l d ≤ ρ 66 d ∧ (ρ 70 d = -5 ∨ ρ 70 d = pf l d) := by
  intro d a b
  have hlen := En_len n 0 l hl
  obtain ⟨j, rfl⟩ : ∃ j : Nat, d = (j : Int) := ⟨d.toNat, by omega⟩
  have hg : l[j]? = some (pf l (j : Int)) := by
    unfold pf
    rw [Int.toNat_natCast, List.getD_eq_getElem?_getD, List.getElem?_eq_getElem (by omega)]; rfl
  have h1 := En_dom n 0 l hl j _ hg
  rw [Nat.zero_add] at h1
  have hd := hr.2.2.1 (j : Int) (by omega) (by omega)
  exact dom_mem hd.2.2.2.2.2.2.2.2.2 h1
theorem rEn_bnd {ρ : Mem} {n R F : Nat} (hr : RW ρ n R F) {l : List Int} (hl : l ∈ rEn ρ n) : ∀ d : Int, 0 ≤ d → d < n → 0 ≤ pf l d ∧ pf l d ≤ 5 := fun d a b => by
  have h1 := rEn_mem hr hl d a b
  have h2 := hr.2.2.1 d a b
  omega
theorem CR.en {σ ρ : Mem} {n R : Nat} (h : CR σ ρ n R) : cEn σ 0 n = rEn ρ n := En_congr n 0 (fun d _ b => by
  have := h.1 (d : Int) (by omega) (by omega)
  exact ⟨this.1, this.2.1, this.2.2.2.2.2⟩)
theorem CR.mvq {σ ρ : Mem} {n R : Nat} (h : CR σ ρ n R) (p : Int → Int) {d : Int} (a : 0 ≤ d) (b : d < n) : mv (σ 3 1) (cbv σ) p d = mv (ρ 64 21) (rbv ρ) p d := by
  unfold mv
  rw [← h.2.2.1.1]
  by_cases e : σ 3 1 = -5
  · rw [decide_eq_false (fun q => q.1 e), decide_eq_false (fun q => q.1 e)]
  · rw [h.2.2.1.2 e d a b]
theorem CR.cstq {σ ρ : Mem} {n R : Nat} (h : CR σ ρ n R) (p : Int → Int) {d : Int} (a : 0 ≤ d) (b : d < n) : cst (σ 3 1) (cbv σ) (σ 15) (σ 16) p d = cst (ρ 64 21) (rbv ρ) (ρ 68) (ρ 69) p d := by
  have h1 := h.1 d a b
  have hm := h.mvq p a b
  unfold cst
  rw [hm, h1.2.2.2.1, h1.2.2.2.2.1]
  by_cases e : mv (ρ 64 21) (rbv ρ) p d = true
  · have hq : ρ 64 21 ≠ -5 ∧ p d ≠ rbv ρ d := of_decide_eq_true e
    rw [h.2.2.1.2 (by rw [h.2.2.1.1]; exact hq.1) d a b]
  · rw [if_neg e, if_neg e]
theorem CR.cost {σ ρ : Mem} {n R : Nat} (h : CR σ ρ n R) (p : Int → Int) : ccost σ p n = rcost ρ n p := sumI_congr (fun k hk => h.cstq p (by omega) (by omega))
theorem CR.wor {σ ρ : Mem} {n R : Nat} (hn : n ≤ 6) (h : CR σ ρ n R) {p : Int → Int} (hp : ∀ d : Int, 0 ≤ d → d < n → 0 ≤ p d ∧ p d ≤ 5) : cwor σ p n = rwor ρ n p := sumI_congr (fun k hk => by
  have := hp (k : Int) (by omega) (by omega)
  exact h.2.1 (k : Int) (p (k : Int)) (by omega) (by omega) (by omega) (by omega))
theorem CR.cnt {σ ρ : Mem} {n R : Nat} (h : CR σ ρ n R) (p : Int → Int) (w : Int) : ccnt σ p w n = sumI (fun d => one (decide (ρ 67 d = w) && mv (ρ 64 21) (rbv ρ) p d)) n := sumI_congr (fun k hk => by
  show one (decide (σ 14 (k : Int) = w) && mv _ _ p (k : Int)) = one (decide (ρ 67 (k : Int) = w) && mv _ _ p (k : Int))
  rw [h.mvq p (by omega) (by omega), (h.1 (k : Int) (by omega) (by omega)).2.2.1])
/-- broken at the end, or on the way: the same -/
theorem pBF_fin {σ : Mem} {n R F : Nat} (hw : CW σ n R F) (p ff : Int → Int) {r : Nat} (hr : r < R) : pBF σ p ff n r = !rk (σ 27 (r : Int)) (σ 28 (r : Int)) (σ 29 (r : Int)) (ff (σ 30 (r : Int))) p n := by
  have hru := hw.2.1 (r : Int) (by omega) (by omega)
  by_cases h5 : σ 27 (r : Int) = 5
  · have key : ∀ k : Nat, pBF σ p ff k r = !decide (sumI (fun d => one (decide (p d = σ 29 (r : Int)))) k ≤ ff (σ 30 (r : Int))) := by
      intro k
      induction k with
      | zero =>
        show bnF σ ff r = _
        unfold bnF
        rw [decide_eq_true h5, Bool.true_and]
        show _ = !decide ((0 : Int) ≤ _)
        by_cases e : ff (σ 30 (r : Int)) < 0
        · rw [decide_eq_true e, decide_eq_false (by omega)]; rfl
        · rw [decide_eq_false e, decide_eq_true (by omega)]; rfl
      | succ k ih =>
        show (pBF σ p ff k r || baF σ p ff k r) = _
        rw [ih]
        unfold baF dwB cvB rk
        rw [if_pos h5, decide_eq_true h5, decide_eq_false (show ¬ (σ 27 (r : Int) ≠ 5) from fun q => q h5), Bool.false_and, Bool.false_or, Bool.true_and]
        have es : sumI (fun d => one (decide (p d = σ 29 (r : Int)))) (k + 1) = sumI (fun d => one (decide (p d = σ 29 (r : Int)))) k + one (decide (p (k : Int) = σ 29 (r : Int))) := rfl
        rw [es]
        generalize sumI (fun d => one (decide (p d = σ 29 (r : Int)))) k = S
        generalize ff (σ 30 (r : Int)) = G
        by_cases e : p (k : Int) = σ 29 (r : Int)
        · rw [decide_eq_true e.symm, decide_eq_true e, one_t, Bool.true_and]
          by_cases e2 : S + 1 ≤ G
          · rw [decide_eq_true e2, decide_eq_true (show S ≤ G by omega)]; rfl
          · rw [decide_eq_false e2, Bool.not_false, Bool.or_true]
        · rw [decide_eq_false (show ¬ σ 29 (r : Int) = p (k : Int) from fun q => e q.symm), decide_eq_false e, one_f, Int.add_zero, Bool.false_and, Bool.or_false]
    rw [key n]
    unfold rk
    rw [if_pos h5]
  · have hab := hru.2.2.2.2.2 h5
    have hrk : ∀ k : Nat, rk (σ 27 (r : Int)) (σ 28 (r : Int)) (σ 29 (r : Int)) (ff (σ 30 (r : Int))) p k = rk (σ 27 (r : Int)) (σ 28 (r : Int)) (σ 29 (r : Int)) (ff (σ 30 (r : Int))) p n := by
      intro k
      unfold rk
      rw [if_neg h5, if_neg h5]
    have key : ∀ k : Nat, pBF σ p ff k r = (decide (max (σ 28 (r : Int)) (σ 29 (r : Int)) < (k : Int)) && !rk (σ 27 (r : Int)) (σ 28 (r : Int)) (σ 29 (r : Int)) (ff (σ 30 (r : Int))) p n) := by
      intro k
      induction k with
      | zero =>
        show bnF σ ff r = _
        unfold bnF
        rw [decide_eq_false h5, decide_eq_false (show ¬ max (σ 28 (r : Int)) (σ 29 (r : Int)) < ((0 : Nat) : Int) by omega)]
        rfl
      | succ k ih =>
        show (pBF σ p ff k r || baF σ p ff k r) = _
        rw [ih]
        unfold baF dwB cvB
        rw [hrk (k + 1), decide_eq_true h5, decide_eq_false h5, Bool.false_and, Bool.or_false, Bool.true_and]
        generalize rk (σ 27 (r : Int)) (σ 28 (r : Int)) (σ 29 (r : Int)) (ff (σ 30 (r : Int))) p n = B
        generalize max (σ 28 (r : Int)) (σ 29 (r : Int)) = m
        by_cases e : m = (k : Int)
        · rw [decide_eq_true e, decide_eq_false (show ¬ m < (k : Int) by omega), decide_eq_true (show m < ((k + 1 : Nat) : Int) by omega)]
          rfl
        · rw [decide_eq_false e, Bool.false_and, Bool.or_false]
          by_cases e2 : m < (k : Int)
          · rw [decide_eq_true e2, decide_eq_true (show m < ((k + 1 : Nat) : Int) by omega)]
          · rw [decide_eq_false e2, decide_eq_false (show ¬ m < ((k + 1 : Nat) : Int) by omega)]
    rw [key n, decide_eq_true (show max (σ 28 (r : Int)) (σ 29 (r : Int)) < (n : Int) by omega), Bool.true_and]
theorem CR.brk {σ ρ : Mem} {n R F : Nat} (hw : CW σ n R F) (h : CR σ ρ n R) {ff : Int → Int} (hf : ∀ f : Int, 0 ≤ f → f < 6 → ff f = ρ 74 f) (p : Int → Int) {r : Nat} (hr : r < R) : pBF σ p ff n r = !rrk ρ p n (r : Int) := by
  have hru := hw.2.1 (r : Int) (by omega) (by omega)
  have hF := hw.1.2.2.2.2.2
  have h4 := h.2.2.2 (r : Int) (by omega) (by omega)
  rw [pBF_fin hw p ff hr, hf _ hru.2.2.1 (by omega), h4.1, h4.2.1, h4.2.2.1, h4.2.2.2]
theorem CR.lim {σ ρ : Mem} {n R F : Nat} (hr : RW ρ n R F) (h : CR σ ρ n R) (hl : ∀ p : Int, 0 ≤ p → p < 4 → σ 52 p = ρ 73 p) {l : List Int} (hm : l ∈ rEn ρ n) : LimOK σ n l ↔ rAlw ρ (pf l) n := by
  unfold LimOK rAlw
  constructor
  · intro q
    exact ⟨fun w a b => by rw [← h.cnt, ← hl w a b]; exact q w a b, rEn_mem hr hm⟩
  · intro q w a b
    rw [h.cnt, hl w a b]
    exact q.1 w a b
theorem CR.br {σ ρ : Mem} {n R F : Nat} (hw : CW σ n R F) (h : CR σ ρ n R) (hf : ∀ f : Int, 0 ≤ f → f < 6 → σ 51 f = ρ 74 f) (g : Nat → Bool) (p : Int → Int) : cbr σ g R p n = bitsN (fun r => !rrk ρ p n (r : Int) && g r) R := bitsN_congr (fun r hr => by rw [h.brk hw hf p hr])
theorem CR.brt {σ ρ : Mem} {n R F : Nat} (hw : CW σ n R F) (h : CR σ ρ n R) (hf : ∀ f : Int, 0 ≤ f → f < 6 → σ 51 f = ρ 74 f) (p : Int → Int) : cbr σ (fun _ => true) R p n = rbrk ρ p n R := by
  rw [h.br hw hf]
  exact bitsN_congr (fun r hr => by rw [Bool.and_true])
theorem fold_eq {α : Type} {f g : α → List Int → α} : ∀ (L : List (List Int)) (s : α), (∀ s, ∀ l ∈ L, f s l = g s l) → L.foldl f s = L.foldl g s
  | [], _, _ => rfl
  | x :: L, s, h => by
    show L.foldl f (f s x) = L.foldl g (g s x)
    rw [h s x List.mem_cons_self]
    exact fold_eq L _ (fun s l hl => h s l (List.mem_cons_of_mem _ hl))
theorem fold_rel {α β : Type} {f : α → List Int → α} {g : β → List Int → β} (Rl : α → β → Prop) : ∀ (L : List (List Int)) (s : α) (t : β), Rl s t → (∀ s t, ∀ l ∈ L, Rl s t → Rl (f s l) (g t l)) → Rl (L.foldl f s) (L.foldl g t)
  | [], _, _, h, _ => h
  | x :: L, s, t, h, hs => fold_rel Rl L _ _ (hs s t x List.mem_cons_self h) (fun s t l hl => hs s t l (List.mem_cons_of_mem _ hl))
/-- all that a search of the class wants to be as the reference's -/
def CA2 (σ ρ : Mem) (n R F : Nat) : Prop := CW σ n R F ∧ RW ρ n R F ∧ CR σ ρ n R ∧ (∀ f : Int, 0 ≤ f → f < 6 → σ 51 f = ρ 74 f) ∧ ∀ p : Int, 0 ≤ p → p < 4 → σ 52 p = ρ 73 p
theorem best_eq {σ ρ : Mem} {n R F : Nat} (h : CA2 σ ρ n R F) : cBest σ (fun _ => true) (ρ 64 17) n R = rbest ρ n R := by
  obtain ⟨hw, hr, hc, hf, hl⟩ := h
  unfold cBest rbest
  rw [hc.en]
  refine fold_eq _ _ (fun s l hm => ?_)
  have hlim := hc.lim hr hl hm
  have hco := hc.cost (pf l)
  have hwo := hc.wor hw.1.2.1 (rEn_bnd hr hm)
  have hbr := hc.brt hw hf (pf l)
  by_cases h1 : rAlw ρ (pf l) n
  · by_cases h2 : rbrk ρ (pf l) n R = 0
    · have hok : rok ρ n R l := ⟨h1, h2⟩
      cases s with
      | none =>
        rw [bst_first hok, stp_go (hlim.mpr h1) (fun q => by
          rcases q with q | q
          · exact q (by rw [hbr]; exact h2)
          · exact q)]
        unfold rchB
        rw [hco, hwo]
      | some x =>
        obtain ⟨c, w, l0⟩ := x
        by_cases h3 : bt (ρ 64 17) (rcost ρ n (pf l)) (rwor ρ n (pf l)) c w
        · rw [bst_yes (co := fun l => rcost ρ n (pf l)) (wo := fun l => rwor ρ n (pf l)) hok h3, stp_go (hlim.mpr h1) (fun q => by
            rcases q with q | q
            · exact q (by rw [hbr]; exact h2)
            · rw [hco, hwo] at q
              have q : (ρ 64 17 ≠ 0 ∧ (rwor ρ n (pf l) < w ∨ (rwor ρ n (pf l) = w ∧ c ≤ rcost ρ n (pf l)))) ∨ (ρ 64 17 = 0 ∧ (c < rcost ρ n (pf l) ∨ (rcost ρ n (pf l) = c ∧ rwor ρ n (pf l) ≤ w))) := q
              unfold bt at h3
              split at h3 <;> omega)]
          unfold rchB
          rw [hco, hwo]
        · rw [bst_keep (co := fun l => rcost ρ n (pf l)) (wo := fun l => rwor ρ n (pf l)) h3, stp_hop (Or.inr (by
            rw [hco, hwo]
            show (ρ 64 17 ≠ 0 ∧ (rwor ρ n (pf l) < w ∨ (rwor ρ n (pf l) = w ∧ c ≤ rcost ρ n (pf l)))) ∨ (ρ 64 17 = 0 ∧ (c < rcost ρ n (pf l) ∨ (rcost ρ n (pf l) = c ∧ rwor ρ n (pf l) ≤ w)))
            unfold bt at h3
            split at h3 <;> omega))]
    · rw [bst_no (fun q => h2 q.2), stp_hop (Or.inl (by rw [hbr]; exact h2))]
  · rw [bst_no (fun q => h1 q.1), stp_lim (fun q => h1 (hlim.mp q))]
theorem rcost_nn {ρ : Mem} {n R F : Nat} (hr : RW ρ n R F) {l : List Int} (hm : l ∈ rEn ρ n) : 0 ≤ rcost ρ n (pf l) := by
  unfold rcost
  refine (sumI_bnd (m := 200) (fun k hk => ?_)).1
  unfold cst
  split
  · rename_i h
    have hmv : ρ 64 21 ≠ -5 ∧ pf l (k : Int) ≠ rbv ρ (k : Int) := of_decide_eq_true h
    have hb0 := hr.2.2.2.2.2.1.resolve_left hmv.1
    have hb2 : 0 ≤ rbv ρ (k : Int) ∧ rbv ρ (k : Int) ≤ 5 := hb0.2.2 (k : Int) (by omega) (by omega)
    have hd1 := hr.2.2.1 (k : Int) (by omega) (by omega)
    have hdb := dist_bnd (rEn_bnd hr hm (k : Int) (by omega) (by omega)) hb2
    have hmb := mul_bnd (a := ρ 69 (k : Int)) (A := 20) ⟨hd1.2.2.2.2.2.2.2.1, hd1.2.2.2.2.2.2.2.2.1⟩ hdb
    omega
  · omega
theorem least_eq {σ ρ : Mem} {n R F : Nat} (h : CA2 σ ρ n R F) {g : Nat → Bool} {asd : Int} (hg : ∀ p, rbA ρ p n R asd = bitsN (fun r => !rrk ρ p n (r : Int) && g r) R) : lc (cBest σ g 0 n R) = rleast ρ n R asd := by
  obtain ⟨hw, hr, hc, hf, hl⟩ := h
  unfold cBest rleast
  rw [hc.en]
  have hrel := fold_rel (f := stp (hopB 0) rchB σ g n R) (g := lsp (rokA ρ n R asd) (fun l => rcost ρ n (pf l))) (fun s t => (s = none ∧ t = -5) ∨ ∃ c w l, s = some (c, w, l) ∧ t = c ∧ 0 ≤ c) (rEn ρ n) none (-5) (Or.inl ⟨rfl, rfl⟩) (fun s t l hm hst => ?_)
  · rcases hrel with ⟨h1, h2⟩ | ⟨c, w, l, h1, h2, -⟩
    · rw [h1, h2]; rfl
    · rw [h1, h2]; rfl
  · have hlim := hc.lim hr hl hm
    have hco := hc.cost (pf l)
    have hbr : cbr σ g R (pf l) n = rbA ρ (pf l) n R asd := by rw [hc.br hw hf, hg]
    have hnn := rcost_nn hr hm
    by_cases hok : rokA ρ n R asd l
    · have e2 : ∀ t, lsp (rokA ρ n R asd) (fun l => rcost ρ n (pf l)) t l = if t = -5 ∨ rcost ρ n (pf l) < t then rcost ρ n (pf l) else t := fun t => by unfold lsp; rw [cd_t hok]; rfl
      rw [e2]
      have hb0 : cbr σ g R (pf l) n = 0 := by rw [hbr]; exact hok.2
      rcases hst with ⟨rfl, rfl⟩ | ⟨c, w, l0, rfl, rfl, hc0⟩
      · rw [if_pos (Or.inl rfl), stp_go (hlim.mpr hok.1) (fun q => by
          rcases q with q | q
          · exact q hb0
          · exact q)]
        refine Or.inr ⟨_, _, _, rfl, ?_, ?_⟩
        · exact hco.symm
        · rw [hco]; exact hnn
      · by_cases h3 : hopB 0 (some (t, w, l0)) (ccost σ (pf l) n) (cwor σ (pf l) n) (cbr σ g R (pf l) n)
        · rw [stp_hop h3]
          refine Or.inr ⟨t, w, l0, rfl, ?_, hc0⟩
          rcases h3 with q | q
          · exact absurd hb0 q
          · rw [hco] at q
            have q : ((0 : Int) ≠ 0 ∧ _) ∨ ((0 : Int) = 0 ∧ (t < rcost ρ n (pf l) ∨ (rcost ρ n (pf l) = t ∧ cwor σ (pf l) n ≤ w))) := q
            rcases q with q | q
            · exact absurd rfl q.1
            · rw [if_neg (by omega)]
        · rw [stp_go (hlim.mpr hok.1) h3]
          refine Or.inr ⟨_, _, _, rfl, ?_, ?_⟩
          · have h4 : ¬ (t < rcost ρ n (pf l) ∨ (rcost ρ n (pf l) = t ∧ cwor σ (pf l) n ≤ w)) := fun q => h3 (Or.inr (by
              show (_ ∧ _) ∨ (_ ∧ _)
              rw [hco]
              exact Or.inr ⟨rfl, q⟩))
            rw [hco]
            by_cases e : rcost ρ n (pf l) < t
            · rw [if_pos (Or.inr e)]
            · rw [if_neg (by omega)]; omega
          · rw [hco]; exact hnn
    · have e2 : lsp (rokA ρ n R asd) (fun l => rcost ρ n (pf l)) t l = t := by unfold lsp; rw [cd_f hok]; rfl
      rw [e2]
      have e1 : stp (hopB 0) rchB σ g n R s l = s := by
        by_cases h1 : rAlw ρ (pf l) n
        · exact stp_hop (Or.inl (by rw [hbr]; exact fun q => hok ⟨h1, q⟩))
        · exact stp_lim (fun q => h1 (hlim.mp q))
      rw [e1]
      exact hst
theorem near_eq {σ ρ : Mem} {n R F : Nat} (h : CA2 σ ρ n R F) (q : Int) : cNear σ n R q = rnear ρ n R q := by
  obtain ⟨hw, hr, hc, hf, hl⟩ := h
  unfold cNear rnear
  rw [hc.en]
  refine fold_eq _ _ (fun s l hm => ?_)
  have hlim := hc.lim hr hl hm
  have hco := hc.cost (pf l)
  have hbr := hc.brt hw hf (pf l)
  unfold nrp
  by_cases h1 : rAlw ρ (pf l) n
  · by_cases h2 : rbrk ρ (pf l) n R = 0 ∧ rcost ρ n (pf l) ≤ q
    · rw [stp_go (hlim.mpr h1) (fun z => by
        rw [hbr, hco] at z
        omega), cd_t ⟨⟨h1, h2.1⟩, h2.2⟩]
      rfl
    · rw [stp_hop (by rw [hbr, hco]; omega), cd_f (fun z => h2 ⟨z.1.2, z.2⟩), one_f, Int.add_zero]
  · rw [stp_lim (fun z => h1 (hlim.mp z)), cd_f (fun z => h1 z.1.1), one_f, Int.add_zero]
