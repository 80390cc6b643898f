/-! class and reference: clash, told, way -/
theorem and_full {m R : Nat} (h : m < 2 ^ R) : m &&& (2 ^ R - 1) = m := by
  rw [Nat.and_two_pow_sub_one_eq_mod, Nat.mod_eq_of_lt h]
theorem sub_trans9 {i j k : Nat} (h1 : i &&& j = i) (h2 : j &&& k = j) : i &&& k = i := by
  rw [← h1, Nat.and_assoc, h2]
theorem cCov_iff {σ ρ : Mem} {n R F : Nat} (h : CA2 σ ρ n R F) (j : Nat) : cCov σ n R j ↔ ∃ l, l ∈ rEn ρ n ∧ rAlw ρ (pf l) n ∧ rbrk ρ (pf l) n R &&& j = rbrk ρ (pf l) n R := by
  obtain ⟨hw, hr, hc, hf, hl⟩ := h
  have key : ∀ (L : List (List Int)), (∀ l ∈ L, l ∈ rEn ρ n) → ∀ s : Nat → Prop, (∀ i j : Nat, i &&& j = i → s i → s j) → ∀ j, (L.foldl (stp (fun (s : Nat → Prop) _ _ b => s (b &&& (2 ^ R - 1))) (fun s _ _ _ b => fun j => s j ∨ (b &&& (2 ^ R - 1)) &&& j = (b &&& (2 ^ R - 1))) σ (fun _ => true) n R) s j ↔ s j ∨ ∃ l, l ∈ L ∧ rAlw ρ (pf l) n ∧ rbrk ρ (pf l) n R &&& j = rbrk ρ (pf l) n R) := by
    intro L
    induction L with
    | nil => intro _ s _ j; exact ⟨fun q => Or.inl q, fun q => q.elim id (fun ⟨l, hm, _⟩ => by cases hm)⟩
    | cons x L ih =>
      intro hL s hs j
      have hm := hL x List.mem_cons_self
      have hlim := hc.lim hr hl hm
      have hbr := hc.brt hw hf (pf x)
      have hlt : rbrk ρ (pf x) n R < 2 ^ R := bitsN_lt _ _
      have hbf : cbr σ (fun _ => true) R (pf x) n &&& (2 ^ R - 1) = rbrk ρ (pf x) n R := by rw [hbr]; exact and_full hlt
      rw [List.foldl_cons]
      by_cases h1 : rAlw ρ (pf x) n
      · by_cases h2 : s (rbrk ρ (pf x) n R)
        · rw [stp_hop (by rw [hbf]; exact h2), ih (fun l hl => hL l (List.mem_cons_of_mem _ hl)) s hs j]
          constructor
          · rintro (q | ⟨l, a, b, c⟩)
            · exact Or.inl q
            · exact Or.inr ⟨l, List.mem_cons_of_mem _ a, b, c⟩
          · rintro (q | ⟨l, a, b, c⟩)
            · exact Or.inl q
            · rcases List.mem_cons.mp a with e | e
              · subst e; exact Or.inl (hs _ _ c h2)
              · exact Or.inr ⟨l, e, b, c⟩
        · rw [stp_go (hlim.mpr h1) (by rw [hbf]; exact h2), hbf, ih (fun l hl => hL l (List.mem_cons_of_mem _ hl)) _ (fun i j hij q => ?_) j]
          · constructor
            · rintro ((q | q) | ⟨l, a, b, c⟩)
              · exact Or.inl q
              · exact Or.inr ⟨x, List.mem_cons_self, h1, q⟩
              · exact Or.inr ⟨l, List.mem_cons_of_mem _ a, b, c⟩
            · rintro (q | ⟨l, a, b, c⟩)
              · exact Or.inl (Or.inl q)
              · rcases List.mem_cons.mp a with e | e
                · subst e; exact Or.inl (Or.inr c)
                · exact Or.inr ⟨l, e, b, c⟩
          · rcases q with q | q
            · exact Or.inl (hs _ _ hij q)
            · exact Or.inr (sub_trans9 q hij)
      · rw [stp_lim (fun z => h1 (hlim.mp z)), ih (fun l hl => hL l (List.mem_cons_of_mem _ hl)) s hs j]
        constructor
        · rintro (q | ⟨l, a, b, c⟩)
          · exact Or.inl q
          · exact Or.inr ⟨l, List.mem_cons_of_mem _ a, b, c⟩
        · rintro (q | ⟨l, a, b, c⟩)
          · exact Or.inl q
          · rcases List.mem_cons.mp a with e | e
            · subst e; exact absurd b h1
            · exact Or.inr ⟨l, e, b, c⟩
  unfold cCov
  rw [hc.en, key (rEn ρ n) (fun l h => h) (fun _ => False) (fun _ _ _ q => q) j]
  exact ⟨fun q => q.elim False.elim id, Or.inr⟩
theorem and_zero_iff {m t R : Nat} (hm : m < 2 ^ R) : m &&& cmp9 R t = m ↔ m &&& t = 0 := by
  constructor
  · intro h
    apply Nat.eq_of_testBit_eq
    intro i
    have h2 := congrArg (fun z => z.testBit i) h
    simp only [Nat.testBit_and, cmp9_test] at h2
    rw [Nat.testBit_and, Nat.zero_testBit]
    cases h3 : m.testBit i <;> cases h4 : t.testBit i <;> simp [h3, h4] at h2 ⊢
  · intro h
    apply Nat.eq_of_testBit_eq
    intro i
    have h2 := congrArg (fun z => z.testBit i) h
    simp only [Nat.testBit_and, Nat.zero_testBit] at h2
    rw [Nat.testBit_and, cmp9_test]
    cases h3 : m.testBit i with
    | false => rfl
    | true =>
      have hi : i < R := by
        refine Classical.byContradiction fun hn => ?_
        rw [Nat.testBit_lt_two_pow (Nat.lt_of_lt_of_le hm (Nat.pow_le_pow_right (by omega) (by omega)))] at h3
        cases h3
      rw [h3] at h2
      have h4 : t.testBit i = false := by simpa using h2
      rw [h4, decide_eq_true hi]
      rfl
theorem cov_rcl {σ ρ : Mem} {n R F : Nat} (h : CA2 σ ρ n R F) (t : Nat) : ¬ cCov σ n R (cmp9 R t) ↔ rcl ρ n R t := by
  rw [cCov_iff h]
  unfold rcl
  constructor
  · intro q l hl ha hz
    exact q ⟨l, hl, ha, (and_zero_iff (bitsN_lt _ _)).mpr hz⟩
  · rintro q ⟨l, hl, ha, hb⟩
    exact q l hl ha ((and_zero_iff (bitsN_lt _ _)).mp hb)
theorem CMin_cov {σ ρ : Mem} {n R F s : Nat} (h : CA2 σ ρ n R F) (hs : CMin (fun t => ¬ cCov σ n R (cmp9 R t)) R s) : CMin (rcl ρ n R) R s :=
  ⟨hs.1, (cov_rcl h s).mp hs.2.1, fun t a b => hs.2.2 t a ((cov_rcl h t).mpr b)⟩
/-- what told and way want: the plan in its range -/
def CP (σ : Mem) (n : Nat) : Prop := (∀ d : Int, 0 ≤ d → d < 6 → σ 11 d = σ 72 d) ∧ ∀ d : Int, 0 ≤ d → d < n → σ 12 d ≤ σ 11 d ∧ σ 11 d ≤ σ 13 d
theorem CP.bnd {σ : Mem} {n R F : Nat} (hw : CW σ n R F) (h : CP σ n) : ∀ i : Int, 0 ≤ i → i < n → 0 ≤ σ 11 i ∧ σ 11 i ≤ 5 := fun i a b => by
  have h1 := h.2 i a b
  have h2 := hw.2.2.1 i a b
  omega
theorem CP.rp {σ : Mem} {n R F : Nat} (hw : CW σ n R F) (h : CP σ n) : RP σ 72 n := fun i a b => by
  have hn := hw.1.2.1
  rw [← h.1 i a (by omega)]; exact h.bnd hw i a b
theorem cmvb_eq {σ : Mem} {n R F : Nat} (hw : CW σ n R F) (hc : CR σ σ n R) (h : CP σ n) : cmvb σ 11 n = rmvb σ n := bitsN_congr (fun d hd => by
  have hn := hw.1.2.1
  rw [hc.mvq _ (by omega) (by omega)]
  exact mv_congr (h.1 (d : Int) (by omega) (by omega)))
theorem told_eq {σ : Mem} {n R F : Nat} (hw : CW σ n R F) (hr : RW σ n R F) (hc : CR σ σ n R) (hf : ∀ f : Int, 0 ≤ f → f < 6 → σ 26 f = σ 74 f) (hl : ∀ p : Int, 0 ≤ p → p < 4 → σ 25 p = σ 73 p) (h : CP σ n) (what : Int) : ctold σ n R what = toldV σ n R what := by
  have hn := hw.1.2.1
  have hag : ∀ j : Nat, j < n → σ 11 (j : Int) = σ 72 (j : Int) := fun j hj => h.1 (j : Int) (by omega) (by omega)
  have e0 : ccost σ (σ 11) n = rcost σ n (σ 72) := by rw [hc.cost, rcost_congr hag]
  have e1 : cwor σ (σ 11) n = rwor σ n (σ 72) := by rw [hc.wor hn (h.bnd hw), rwor_congr hag]
  have e2 := cmvb_eq hw hc h
  have e4 : bitsN (pB σ 11 26 n) R = rbrk σ (σ 72) n R := by
    rw [← rbrk_congr hr hag]
    exact bitsN_congr (fun r hr => by rw [pB_F, hc.brk hw hf _ hr])
  have e6 : cAlw σ (σ 11) n ↔ rAlw σ (σ 72) n := by
    rw [← rAlw_congr hag]
    unfold cAlw rAlw
    constructor
    · intro q
      refine ⟨fun w a b => ?_, fun d a b => ?_⟩
      · rw [← hl w a b, ← hc.cnt]; exact q.1 w a b
      · have h1 := hc.1 d a b
        have h2 := h.2 d a b
        have h3 := q.2 d a b
        omega
    · intro q
      refine ⟨fun w a b => ?_, fun d a b => ?_⟩
      · have := q.1 w a b
        rw [← hl w a b, ← hc.cnt] at this; exact this
      · have h1 := hc.1 d a b
        have h3 := q.2 d a b
        omega
  have e6' : one (cd (cAlw σ (σ 11) n)) = one (cd (rAlw σ (σ 72) n)) := by
    by_cases z : rAlw σ (σ 72) n
    · rw [cd_t z, cd_t (e6.mpr z)]
    · rw [cd_f z, cd_f (fun q => z (e6.mp q))]
  unfold ctold toldV
  rw [e0, e1, e2, e4, e6', hc.2.2.1.1]
theorem cw_eq {σ : Mem} {n R F : Nat} (hw : CW σ n R F) (hr : RW σ n R F) (hc : CR σ σ n R) (hf : ∀ f : Int, 0 ≤ f → f < 6 → σ 26 f = σ 74 f) (h : CP σ n) (hb5 : σ 3 1 ≠ -5) : cw σ n R = (wres σ n R).2.2 := by
  have hn := hw.1.2.1
  have hM := cmvb_eq hw hc h
  have hbb : (fun left => cbb σ n R (cmvb σ 11 n ^^^ left)) = bbr σ n R := by
    funext left
    unfold cbb bbr
    congr 1
    have hgv : ∀ j : Nat, j < n → csv σ (cmvb σ 11 n ^^^ left) (j : Int) = gv σ left (j : Int) := by
      intro j hj
      unfold csv gv
      rw [Int.toNat_natCast, Nat.testBit_xor]
      have h1 : (cmvb σ 11 n).testBit j = mv (σ 3 1) (cbv σ) (σ 11) (j : Int) := by
        unfold cmvb
        rw [bitsN_test, decide_eq_true hj, Bool.true_and]
      have h2 := h.1 (j : Int) (by omega) (by omega)
      have h3 := hc.2.2.1.2 hb5 (j : Int) (by omega) (by omega)
      rw [h1]
      cases hm : mv (σ 3 1) (cbv σ) (σ 11) (j : Int) with
      | true =>
        cases left.testBit j
        · exact h2
        · exact h3
      | false =>
        have h4 : ¬ (σ 3 1 ≠ -5 ∧ σ 11 (j : Int) ≠ cbv σ (j : Int)) := of_decide_eq_false hm
        have h5 : σ 11 (j : Int) = cbv σ (j : Int) := Classical.not_not.mp (fun q => h4 ⟨hb5, q⟩)
        cases left.testBit j
        · show cbv σ (j : Int) = σ 72 (j : Int)
          rw [← h5]; exact h2
        · show σ 11 (j : Int) = rbv σ (j : Int)
          rw [h5]; exact h3
    rw [← rbrk_congr hr hgv]
    exact bitsN_congr (fun r hr => hc.brk hw hf _ hr)
  have hlt : rmvb σ n < 2 ^ n := bitsN_lt _ _
  have hpop : pop (rmvb σ n) 6 = pop (rmvb σ n) n := by
    have := pop_ext hlt (6 - n)
    rw [show n + (6 - n) = 6 by omega] at this
    exact this
  have hp6 := pop_bnd (rmvb σ n) 6
  unfold cw wres
  rw [hbb, hM, cm_six hn _ _ hlt, ← hpop]
  have := (wres_path (bbr_bnd σ n R) (n := 6) (m := (pop (rmvb σ n) 6).toNat) (left := rmvb σ n) (by omega) (by omega)).1
  rw [this]
