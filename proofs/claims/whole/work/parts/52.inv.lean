/-! what class and reference keep between the calls -/
def IV (σ : Mem) (n R F : Nat) : Prop := CW σ n R F ∧ RW σ n R F ∧
  (∀ d : Int, 0 ≤ d → d < n → σ 12 d = σ 65 d ∧ σ 13 d = σ 66 d ∧ σ 14 d = σ 67 d ∧ σ 15 d = σ 68 d ∧ σ 16 d = σ 69 d ∧ σ 17 d = σ 70 d) ∧
  (∀ d : Int, n ≤ d → d < 6 → σ 16 d = 0) ∧
  (∀ d v : Int, 0 ≤ d → d < 6 → 0 ≤ v → v < 6 → σ (19 + d.toNat) v = σ 71 (6 * d + v)) ∧
  (∀ d : Int, 0 ≤ d → d < 6 → σ 11 d = σ 72 d) ∧ (∀ d : Int, 0 ≤ d → d < n → σ 12 d ≤ σ 11 d ∧ σ 11 d ≤ σ 13 d) ∧
  (∀ p : Int, 0 ≤ p → p < 4 → σ 25 p = σ 73 p) ∧ (∀ f : Int, 0 ≤ f → f < 6 → σ 26 f = σ 74 f) ∧
  (∀ r : Int, 0 ≤ r → r < R → σ 27 r = σ 75 r ∧ σ 28 r = σ 76 r ∧ σ 29 r = σ 77 r ∧ σ 30 r = σ 78 r) ∧
  (σ 0 11 = σ 64 17 ∧ σ 3 0 = σ 64 18 ∧ σ 3 1 = σ 64 21 ∧ σ 4 0 = σ 64 22) ∧
  (0 ≤ σ 3 0 ∧ σ 3 0 ≤ 3 ∧ (σ 3 1 = -5 ∨ (0 ≤ σ 3 1 ∧ σ 3 1 < σ 3 0))) ∧
  (∀ k : Nat, (k : Int) < σ 3 0 → ∀ d : Int, 0 ≤ d → d < 6 → σ (34 + k) d = σ 79 (6 * k + d) ∧ σ (38 + k) d = σ 80 (6 * k + d) ∧ (d < n → 0 ≤ σ (34 + k) d ∧ σ (34 + k) d ≤ 5)) ∧
  (0 ≤ σ 4 0 ∧ σ 4 0 ≤ 8) ∧
  (∀ i : Nat, (i : Int) < σ 4 0 → σ 50 i = σ 81 i ∧ 0 ≤ σ 50 i ∧ σ 50 i ≤ n) ∧
  (∀ i : Nat, (i : Int) < σ 4 0 → ∀ d : Int, 0 ≤ d → d < σ 50 i → σ (42 + i) d = σ 82 (6 * i + d) ∧ σ 12 d ≤ σ (42 + i) d ∧ σ (42 + i) d ≤ σ 13 d)
def Inv (σ : Mem) : Prop := ∃ n R F : Nat, IV σ n R F
theorem IV.cw {σ : Mem} {n R F : Nat} (h : IV σ n R F) : CW σ n R F := h.1
theorem IV.rw {σ : Mem} {n R F : Nat} (h : IV σ n R F) : RW σ n R F := h.2.1
theorem IV.cp {σ : Mem} {n R F : Nat} (h : IV σ n R F) : CP σ n := ⟨h.2.2.2.2.2.1, h.2.2.2.2.2.2.1⟩
theorem IV.cr {σ : Mem} {n R F : Nat} (h : IV σ n R F) : CR σ σ n R := by
  obtain ⟨hcw, hrw, hdec, hper, hwor, hpl, hpr, hlim, hfac, hrul, ⟨hs1, hs2, hs3, hs4⟩, ⟨hk1, hk2, hk3⟩, hkp, hu, hus, huv⟩ := h
  have hn := hcw.1.2.1
  refine ⟨hdec, hwor, ⟨hs3, fun hne d a b => ?_⟩, hrul⟩
  have h3 := hk3.resolve_left hne
  have := (hkp (σ 3 1).toNat (by omega) d a (by omega)).1
  show σ (34 + (σ 3 1).toNat) d = σ 79 (6 * σ 64 21 + d)
  rw [this, ← hs3, Int.toNat_of_nonneg h3.1]
theorem IV.cbf {σ : Mem} {n R F : Nat} (h : IV σ n R F) (hne : σ 3 1 ≠ -5) {f : Int} (a : 0 ≤ f) (b : f < 6) : σ (38 + (σ 3 1).toNat) f = σ 80 (6 * σ 64 21 + f) := by
  obtain ⟨hcw, hrw, hdec, hper, hwor, hpl, hpr, hlim, hfac, hrul, ⟨hs1, hs2, hs3, hs4⟩, ⟨hk1, hk2, hk3⟩, hkp, hu, hus, huv⟩ := h
  have h3 := hk3.resolve_left hne
  have := (hkp (σ 3 1).toNat (by omega) f a b).2.1
  rw [this, ← hs3, Int.toNat_of_nonneg h3.1]
/-- the class's cells between the calls -/
def FrK (σ τ : Mem) : Prop := ∀ c : Nat, (c < 6 ∨ (11 ≤ c ∧ c ≤ 50)) → τ c = σ c
theorem FrC.frK {σ τ : Mem} (h : FrC σ τ) : FrK σ τ := fun c hc => h c (by omega)
theorem CB.frK {σ τ : Mem} {n : Nat} (hb : CB σ n) (h : FrK σ τ) : CB τ n := by
  have h3 : τ 3 = σ 3 := h 3 (by omega)
  by_cases hne : σ 3 1 = -5
  · exact Or.inl (by rw [h3]; exact hne)
  · have hr := hb.resolve_left hne
    have e : cbv τ = cbv σ := by
      funext d
      show τ (34 + (τ 3 1).toNat) d = σ (34 + (σ 3 1).toNat) d
      rw [h3, h (34 + (σ 3 1).toNat) (by omega)]
    exact Or.inr ⟨by rw [h3]; exact hr.1, by rw [h3]; exact hr.2.1, fun d a b => by rw [e]; exact hr.2.2 d a b⟩
theorem CW.frK {σ τ : Mem} {n R F : Nat} (hw : CW σ n R F) (h : FrK σ τ) : CW τ n R F := by
  obtain ⟨h1, h2, h3, h4, h5, h6, h7, h8, h9⟩ := hw
  refine ⟨?_, ?_, ?_, fun d v a b c e => ?_, ?_, h6.frK h, ?_, ?_, ?_⟩
  · rw [h 1 (by omega), h 2 (by omega)]; exact h1
  · rw [h 27 (by omega), h 28 (by omega), h 29 (by omega), h 30 (by omega)]; exact h2
  · rw [h 12 (by omega), h 13 (by omega), h 14 (by omega), h 15 (by omega), h 16 (by omega), h 17 (by omega)]; exact h3
  · rw [h (19 + d.toNat) (by omega)]; exact h4 d v a b c e
  · rw [h 25 (by omega)]; exact h5
  · rw [h 0 (by omega)]; exact h7
  · rw [h 31 (by omega), dwB_core (h 27 (by omega)) (h 28 (by omega)) (h 29 (by omega))]; exact h8
  · rw [h 32 (by omega), cvB_core (h 27 (by omega)) (h 29 (by omega))]; exact h9
theorem IV.fr {σ τ : Mem} {n R F : Nat} (hi : IV σ n R F) (h : FrK σ τ) (g : CoreW σ τ) : IV τ n R F := by
  obtain ⟨hcw, hrw, hdec, hper, hwor, hpl, hpr, hlim, hfac, hrul, ⟨hs1, hs2, hs3, hs4⟩, ⟨hk1, hk2, hk3⟩, hkp, hu, hus, huv⟩ := hi
  have e64 : ∀ j : Int, j ≠ 32 → j ≠ 33 → τ 64 j = σ 64 j := g.1
  have h3 : τ 3 = σ 3 := h 3 (by omega)
  have h4 : τ 4 = σ 4 := h 4 (by omega)
  have h50 : τ 50 = σ 50 := h 50 (by omega)
  refine ⟨hcw.frK h, hrw.coreW g, ?_, ?_, fun d v a b c e => ?_, ?_, ?_, ?_, ?_, ?_, ?_, ?_, fun k hk d a b => ?_, ?_, ?_, fun i hi d a b => ?_⟩
  · rw [h 12 (by omega), h 13 (by omega), h 14 (by omega), h 15 (by omega), h 16 (by omega), h 17 (by omega), g.2 65 (by omega) (by omega), g.2 66 (by omega) (by omega), g.2 67 (by omega) (by omega), g.2 68 (by omega) (by omega), g.2 69 (by omega) (by omega), g.2 70 (by omega) (by omega)]
    exact hdec
  · rw [h 16 (by omega)]; exact hper
  · rw [h (19 + d.toNat) (by omega), g.2 71 (by omega) (by omega)]; exact hwor d v a b c e
  · rw [h 11 (by omega), g.2 72 (by omega) (by omega)]; exact hpl
  · rw [h 11 (by omega), h 12 (by omega), h 13 (by omega)]; exact hpr
  · rw [h 25 (by omega), g.2 73 (by omega) (by omega)]; exact hlim
  · rw [h 26 (by omega), g.2 74 (by omega) (by omega)]; exact hfac
  · rw [h 27 (by omega), h 28 (by omega), h 29 (by omega), h 30 (by omega), g.2 75 (by omega) (by omega), g.2 76 (by omega) (by omega), g.2 77 (by omega) (by omega), g.2 78 (by omega) (by omega)]
    exact hrul
  · rw [h 0 (by omega), h3, h4, e64 17 (by decide) (by decide), e64 18 (by decide) (by decide), e64 21 (by decide) (by decide), e64 22 (by decide) (by decide)]
    exact ⟨hs1, hs2, hs3, hs4⟩
  · rw [h3]; exact ⟨hk1, hk2, hk3⟩
  · rw [h3] at hk
    rw [h (34 + k) (by omega), h (38 + k) (by omega), g.2 79 (by omega) (by omega), g.2 80 (by omega) (by omega)]
    exact hkp k hk d a b
  · rw [h4]; exact hu
  · rw [h4, h50, g.2 81 (by omega) (by omega)]; exact hus
  · rw [h4] at hi
    rw [h50] at b
    rw [h (42 + i) (by omega), h 12 (by omega), h 13 (by omega), g.2 82 (by omega) (by omega)]
    exact huv i hi d a b
/-- a search begins: the class's memory σa, the reference's ρ -/
theorem CR.an {σ σa ρ : Mem} {n R F : Nat} (hw : CW σ n R F) (h : CR σ σ n R) (hf : FrC σ σa) (hr : ∀ c : Nat, 64 ≤ c → c ≤ 80 → c ≠ 73 → c ≠ 74 → ρ c = σ c) : CR σa ρ n R := by
  have hcb := hw.2.2.2.2.2.1
  refine ⟨?_, fun d v a b c e => ?_, ⟨?_, fun hne d a b => ?_⟩, ?_⟩
  · rw [hf 12 (by omega), hf 13 (by omega), hf 14 (by omega), hf 15 (by omega), hf 16 (by omega), hf 17 (by omega), hr 65 (by omega) (by omega) (by omega) (by omega), hr 66 (by omega) (by omega) (by omega) (by omega), hr 67 (by omega) (by omega) (by omega) (by omega), hr 68 (by omega) (by omega) (by omega) (by omega), hr 69 (by omega) (by omega) (by omega) (by omega), hr 70 (by omega) (by omega) (by omega) (by omega)]
    exact h.1
  · rw [hf (19 + d.toNat) (by omega), hr 71 (by omega) (by omega) (by omega) (by omega)]; exact h.2.1 d v a b c e
  · rw [hf 3 (by omega), hr 64 (by omega) (by omega) (by omega) (by omega)]; exact h.2.2.1.1
  · rw [hf 3 (by omega)] at hne
    rw [cbv_frC hf hcb hne, h.2.2.1.2 hne d a b]
    show σ 79 (6 * σ 64 21 + d) = ρ 79 (6 * ρ 64 21 + d)
    rw [hr 79 (by omega) (by omega) (by omega) (by omega), hr 64 (by omega) (by omega) (by omega) (by omega)]
  · rw [hf 27 (by omega), hf 28 (by omega), hf 29 (by omega), hf 30 (by omega), hr 75 (by omega) (by omega) (by omega) (by omega), hr 76 (by omega) (by omega) (by omega) (by omega), hr 77 (by omega) (by omega) (by omega) (by omega), hr 78 (by omega) (by omega) (by omega) (by omega)]
    exact h.2.2.2
theorem IV.an {σ σa ρ : Mem} {n R F : Nat} {ff lm : Int → Int} (hi : IV σ n R F) (an : AN σ σa ff lm) (hρ : RW ρ n R F) (hr : ∀ c : Nat, 64 ≤ c → c ≤ 80 → c ≠ 73 → c ≠ 74 → ρ c = σ c) (h1 : ∀ f : Int, 0 ≤ f → f < 6 → ff f = ρ 74 f) (h2 : ∀ p : Int, 0 ≤ p → p < 4 → lm p = ρ 73 p) : CA2 σa ρ n R F :=
  ⟨hi.cw.frC an.1, hρ, hi.cr.an hi.cw an.1 hr, fun f a b => by rw [an.2.1 f a b]; exact h1 f a b, fun p a b => by rw [an.2.2 p a b]; exact h2 p a b⟩
theorem core_fr {σ τ : Mem} (h : ∀ c : Nat, 64 ≤ c → c ≤ 82 → τ c = σ c) : CoreW σ τ := ⟨fun j _ _ => by rw [h 64 (by omega) (by omega)], fun c a b => h c (by omega) b⟩
theorem FrC.ceq {σ τ : Mem} (h : FrC σ τ) : CoreEq σ τ := fun c a _ => h c (by omega)
theorem IV.lim {σ : Mem} {n R F : Nat} (h : IV σ n R F) : ∀ p : Int, 0 ≤ p → p < 4 → σ 25 p = σ 73 p := h.2.2.2.2.2.2.2.1
theorem IV.fac {σ : Mem} {n R F : Nat} (h : IV σ n R F) : ∀ f : Int, 0 ≤ f → f < 6 → σ 26 f = σ 74 f := h.2.2.2.2.2.2.2.2.1
theorem IV.wf {σ : Mem} {n R F : Nat} (h : IV σ n R F) : σ 0 11 = σ 64 17 := h.2.2.2.2.2.2.2.2.2.2.1.1
theorem IV.bs {σ : Mem} {n R F : Nat} (h : IV σ n R F) : σ 3 1 = σ 64 21 := h.2.2.2.2.2.2.2.2.2.2.1.2.2.1
/-- a call of both -/
abbrev Both (Mc Mr : MD) (d : Nat) (a : List AV) (σ : Mem) : Prop := Run Mc d (.inr (some 0) :: a) σ (RI fun r σ1 => Run Mr d (.inr (some 64) :: a) σ1 (RI fun r' σ2 => r = r' ∧ Inv σ2))
theorem bits_clr2 (f : Nat → Bool) (R r : Nat) : clr (bitsN f R) r = bitsN (fun q => f q && !decide (q = r)) R := by
  apply Nat.eq_of_testBit_eq
  intro i
  rw [clr_test, bitsN_test, bitsN_test]
  by_cases e : r = i
  · subst e; simp
  · have : ¬ i = r := fun q => e q.symm
    simp [e, this]
theorem b_least {σ : Mem} {d : Nat} (hd : 20 ≤ d) (h : Inv σ) : Both mX11_least mX12_least d [] σ := by
  obtain ⟨n, R, F, hi⟩ := h
  refine X11_least hi.cw (by omega) (fun hn => ?_) (fun hn σa υ an hf => ?_)
  · refine X12_least hi.rw (by omega) (fun _ => ⟨rfl, n, R, F, hi⟩) (fun q => absurd hn q)
  · have hr := hi.rw.core hf.ceq
    refine X12_least hr (by omega) (fun q => absurd q hn) (fun _ τ t1 => ⟨?_, n, R, F, hi.fr (fun c hc => by rw [t1 c (by omega)]; exact hf c (by omega)) (core_fr (fun c a b => by rw [t1 c (by omega)]; exact hf c (by omega)))⟩)
    exact least_eq (hi.an an hr (fun c a b _ _ => hf c (by omega)) (fun f a b => by rw [hf 74 (by omega)]; exact hi.fac f a b) (fun p a b => by rw [hf 73 (by omega)]; exact hi.lim p a b)) (fun p => by
      unfold rbA
      rw [if_pos (by decide)]
      exact bitsN_congr (fun r hr => by rw [Bool.and_true]))
theorem b_without {σ : Mem} {d : Nat} {r : Int} (hd : 20 ≤ d) (h : Inv σ) : Both mX11_without mX12_without d [.inl r] σ := by
  obtain ⟨n, R, F, hi⟩ := h
  refine X11_without hi.cw (by omega) (fun hn => ?_) (fun hn => ?_) (fun hn σa υ an hf => ?_)
  · refine X12_without hi.rw (by omega) (fun _ => ⟨rfl, n, R, F, hi⟩) (fun q => absurd q.1 (by omega)) (fun q => absurd q.1 (by omega))
  · refine X12_without hi.rw (by omega) (fun q => by omega) (fun _ => ⟨rfl, n, R, F, hi⟩) (fun q => absurd hn.2 q.2)
  · have hr := hi.rw.core hf.ceq
    refine X12_without hr (by omega) (fun q => by omega) (fun q => absurd q.2 hn.2) (fun _ τ t1 => ⟨?_, n, R, F, hi.fr (fun c hc => by rw [t1 c (by omega)]; exact hf c (by omega)) (core_fr (fun c a b => by rw [t1 c (by omega)]; exact hf c (by omega)))⟩)
    exact least_eq (hi.an an hr (fun c a b _ _ => hf c (by omega)) (fun f a b => by rw [hf 74 (by omega)]; exact hi.fac f a b) (fun p a b => by rw [hf 73 (by omega)]; exact hi.lim p a b)) (fun p => by
      unfold rbA
      rw [if_neg (by omega)]
      exact bits_clr2 _ R _)
theorem b_spare {σ : Mem} {d : Nat} {p : Int} (hd : 20 ≤ d) (h : Inv σ) : Both mX11_spare mX12_spare d [.inl p] σ := by
  obtain ⟨n, R, F, hi⟩ := h
  refine X11_spare hi.cw (by omega) (fun hn => ?_) (fun hn => ?_) (fun hn σa υ an hf => ?_)
  · refine X12_spare hi.rw (by omega) (fun _ => ⟨rfl, n, R, F, hi⟩) (fun q => absurd hn q.1) (fun q => absurd hn q.1)
  · refine X12_spare hi.rw (by omega) (fun q => absurd q hn.1) (fun _ => ⟨rfl, n, R, F, hi⟩) (fun q => absurd hn.2 q.2)
  · have hr := hi.rw.core hf.ceq
    refine X12_spare hr (by omega) (fun q => absurd q hn.1) (fun q => absurd q.2 hn.2) (fun _ τ t1 => ⟨?_, n, R, F, hi.fr (fun c hc => by rw [t1 c (by omega)]; exact hf c (by omega)) (core_fr (fun c a b => by rw [t1 c (by omega)]; exact hf c (by omega)))⟩)
    have hr2 : RW (wr υ 73 p 0) n R F := by
      obtain ⟨q1, q2, q3, q4, q5, q6, q7⟩ := hr
      refine ⟨?_, ?_, ?_, ?_, fun w a b => ?_, ?_, ?_⟩
      · rw [wr_ne (by decide)]; exact q1
      · rw [wr_ne (by decide), wr_ne (by decide), wr_ne (by decide), wr_ne (by decide)]; exact q2
      · rw [wr_ne (by decide), wr_ne (by decide), wr_ne (by decide), wr_ne (by decide), wr_ne (by decide), wr_ne (by decide)]; exact q3
      · rw [wr_ne (by decide)]; exact q4
      · rw [wr_at]
        split
        · omega
        · exact q5 w a b
      · rw [wr_ne (by decide), wr_ne (by decide)]; exact q6
      · rw [wr_ne (by decide)]; exact q7
    exact least_eq (hi.an an hr2 (fun c a b e _ => by rw [wr_ne e]; exact hf c (by omega)) (fun f a b => by rw [wr_ne (by decide), hf 74 (by omega)]; exact hi.fac f a b) (fun w a b => by
      rw [wr_at]
      show (if w = p then 0 else σ 25 w) = _
      split
      · rfl
      · rw [hf 73 (by omega)]; exact hi.lim w a b)) (fun p => by
      unfold rbA
      rw [if_pos (by decide)]
      exact bitsN_congr (fun r hr => by rw [Bool.and_true]))
theorem b_near {σ : Mem} {d : Nat} {q : Int} (hd : 20 ≤ d) (h : Inv σ) : Both mX11_near mX12_near d [.inl q] σ := by
  obtain ⟨n, R, F, hi⟩ := h
  refine X11_near hi.cw (by omega) (fun hn => ?_) (fun hn => ?_) (fun hn σa υ an hf => ?_)
  · refine X12_near hi.rw (by omega) (fun _ => ⟨rfl, n, R, F, hi⟩) (fun q => absurd hn q.1) (fun q => absurd hn q.1)
  · refine X12_near hi.rw (by omega) (fun q => absurd q hn.1) (fun _ => ⟨rfl, n, R, F, hi⟩) (fun q => absurd hn.2 q.2)
  · have hr := hi.rw.core hf.ceq
    refine X12_near hr (by omega) (fun q => absurd q hn.1) (fun q => absurd q.2 hn.2) (fun _ τ t1 => ⟨?_, n, R, F, hi.fr (fun c hc => by rw [t1 c (by omega)]; exact hf c (by omega)) (core_fr (fun c a b => by rw [t1 c (by omega)]; exact hf c (by omega)))⟩)
    exact near_eq (hi.an an hr (fun c a b _ _ => hf c (by omega)) (fun f a b => by rw [hf 74 (by omega)]; exact hi.fac f a b) (fun p a b => by rw [hf 73 (by omega)]; exact hi.lim p a b)) q
theorem b_clash {σ : Mem} {d : Nat} {ii : Int} (hd : 20 ≤ d) (h : Inv σ) : Both mX11_clash mX12_clash d [.inl ii] σ := by
  obtain ⟨n, R, F, hi⟩ := h
  have hR := hi.cw.1.2.2.2.1
  refine X11_clash hi.cw (by omega) (fun hn => ?_) (fun hn σa υ an hf hz => ?_) (fun hn σa υ an hf s hs => ?_)
  · exact X12_clash hi.rw (by omega) (fun _ => ⟨rfl, n, R, F, hi⟩) (fun q => absurd hn q) (fun q => absurd hn q)
  · have hr := hi.rw.core hf.ceq
    have ca := hi.an an hr (fun c a b _ _ => hf c (by omega)) (fun f a b => by rw [hf 74 (by omega)]; exact hi.fac f a b) (fun p a b => by rw [hf 73 (by omega)]; exact hi.lim p a b)
    refine X12_clash hr (by omega) (fun q => absurd q hn) (fun _ _ τ t1 => ⟨rfl, n, R, F, hi.fr (fun c hc => by rw [t1 c (by omega) (by omega)]; exact hf c (by omega)) (core_fr (fun c a b => by rw [t1 c (by omega) (by omega)]; exact hf c (by omega)))⟩) (fun _ s hs => ?_)
    exact absurd (hz s hs.1) ((cov_rcl ca s).mpr hs.2.1)
  · have hr := hi.rw.core hf.ceq
    have ca := hi.an an hr (fun c a b _ _ => hf c (by omega)) (fun f a b => by rw [hf 74 (by omega)]; exact hi.fac f a b) (fun p a b => by rw [hf 73 (by omega)]; exact hi.lim p a b)
    have hs2 := CMin_cov ca hs
    refine X12_clash hr (by omega) (fun q => absurd q hn) (fun _ hz => absurd hs2.2.1 (hz s hs2.1)) (fun _ t ht τ t1 => ⟨?_, n, R, F, hi.fr (fun c hc => by rw [t1 c (by omega) (by omega)]; exact hf c (by omega)) (core_fr (fun c a b => by rw [t1 c (by omega) (by omega)]; exact hf c (by omega)))⟩)
    rw [CMin.uniq hR hs2 ht]
theorem b_told {σ : Mem} {d : Nat} {what : Int} (hd : 20 ≤ d) (h : Inv σ) : Both mX11_told mX12_told d [.inl what] σ := by
  obtain ⟨n, R, F, hi⟩ := h
  refine X11_told hi.cw (hi.cp.bnd hi.cw) (by omega) ?_
  exact X12_told hi.rw (hi.cp.rp hi.cw) (by omega) ⟨told_eq hi.cw hi.rw hi.cr hi.fac hi.lim hi.cp what, n, R, F, hi⟩
