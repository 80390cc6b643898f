/-! keep, undo, run -/
theorem CW.frW {σ τ : Mem} {n R F : Nat} (hw : CW σ n R F) (h : ∀ c : Nat, (c < 4 ∨ (12 ≤ c ∧ c ≤ 36)) → τ c = σ c) : CW τ n R F := by
  obtain ⟨h1, h2, h3, h4, h5, h6, h7, h8, h9⟩ := hw
  refine ⟨?_, ?_, ?_, fun d v a b c e => ?_, ?_, ?_, ?_, ?_, ?_⟩
  · rw [h 1 (by omega), h 2 (by omega)]; exact h1
  · rw [h 27 (by omega), h 28 (by omega), h 29 (by omega), h 30 (by omega)]; exact h2
  · rw [h 12 (by omega), h 13 (by omega), h 14 (by omega), h 15 (by omega), h 16 (by omega), h 17 (by omega)]; exact h3
  · rw [h (19 + d.toNat) (by omega)]; exact h4 d v a b c e
  · rw [h 25 (by omega)]; exact h5
  · exact CB_of (by rw [h 3 (by omega)]) (fun k hk d => by rw [h (34 + k) (by omega)]) h6
  · rw [h 0 (by omega)]; exact h7
  · rw [h 31 (by omega), dwB_core (h 27 (by omega)) (h 28 (by omega)) (h 29 (by omega))]; exact h8
  · rw [h 32 (by omega), cvB_core (h 27 (by omega)) (h 29 (by omega))]; exact h9
theorem RW.frW {σ τ : Mem} {n R F : Nat} (hw : RW σ n R F) (h : ∀ j : Int, (j = 0 ∨ j = 10 ∨ j = 12 ∨ j = 17 ∨ j = 21) → τ 64 j = σ 64 j) (g : ∀ c : Nat, ((65 ≤ c ∧ c ≤ 71) ∨ c = 73 ∨ (75 ≤ c ∧ c ≤ 79)) → τ c = σ c) : RW τ n R F := by
  obtain ⟨h1, h2, h3, h4, h5, h6, h7⟩ := hw
  refine ⟨?_, ?_, ?_, ?_, ?_, ?_, ?_⟩
  · rw [h 0 (by omega), h 10 (by omega), h 12 (by omega)]; exact h1
  · rw [g 75 (by omega), g 76 (by omega), g 77 (by omega), g 78 (by omega)]; exact h2
  · rw [g 65 (by omega), g 66 (by omega), g 67 (by omega), g 68 (by omega), g 69 (by omega), g 70 (by omega)]; exact h3
  · rw [g 71 (by omega)]; exact h4
  · rw [g 73 (by omega)]; exact h5
  · rw [h 21 (by omega), g 79 (by omega)]; exact h6
  · rw [h 17 (by omega)]; exact h7
/-- the plan and what may be undone have changed, nothing else -/
theorem IV.plan {σ τ : Mem} {n R F : Nat} (hi : IV σ n R F) (hc : ∀ c : Nat, (c < 4 ∨ (12 ≤ c ∧ c ≤ 41)) → τ c = σ c) (h64 : ∀ j : Int, (j = 0 ∨ j = 10 ∨ j = 12 ∨ j = 17 ∨ j = 18 ∨ j = 21) → τ 64 j = σ 64 j) (hg : ∀ c : Nat, ((65 ≤ c ∧ c ≤ 71) ∨ (73 ≤ c ∧ c ≤ 80)) → τ c = σ c)
    (hpl : ∀ d : Int, 0 ≤ d → d < 6 → τ 11 d = τ 72 d) (hpr : ∀ d : Int, 0 ≤ d → d < n → σ 12 d ≤ τ 11 d ∧ τ 11 d ≤ σ 13 d) (h4 : τ 4 0 = τ 64 22) (huu : 0 ≤ τ 4 0 ∧ τ 4 0 ≤ 8)
    (hus : ∀ i : Nat, (i : Int) < τ 4 0 → τ 50 i = τ 81 i ∧ 0 ≤ τ 50 i ∧ τ 50 i ≤ n) (huv : ∀ i : Nat, (i : Int) < τ 4 0 → ∀ d : Int, 0 ≤ d → d < τ 50 i → τ (42 + i) d = τ 82 (6 * i + d) ∧ σ 12 d ≤ τ (42 + i) d ∧ τ (42 + i) d ≤ σ 13 d) : IV τ n R F := by
  obtain ⟨hcw, hrw, hdec, hper, hwor, -, -, hlim, hfac, hrul, ⟨hs1, hs2, hs3, hs4⟩, ⟨hk1, hk2, hk3⟩, hkp, -, -, -⟩ := hi
  have h3 : τ 3 = σ 3 := hc 3 (by omega)
  have h12 : τ 12 = σ 12 := hc 12 (by omega)
  have h13 : τ 13 = σ 13 := hc 13 (by omega)
  refine ⟨hcw.frW (fun c a => hc c (by omega)), hrw.frW (fun j a => h64 j (by omega)) (fun c a => hg c (by omega)), ?_, ?_, fun d v a b c e => ?_, hpl, by rw [h12, h13]; exact hpr, ?_, ?_, ?_, ?_, ?_, fun k hk d a b => ?_, huu, hus, by rw [h12, h13]; exact huv⟩
  · rw [h12, h13, hc 14 (by omega), hc 15 (by omega), hc 16 (by omega), hc 17 (by omega), hg 65 (by omega), hg 66 (by omega), hg 67 (by omega), hg 68 (by omega), hg 69 (by omega), hg 70 (by omega)]
    exact hdec
  · rw [hc 16 (by omega)]; exact hper
  · rw [hc (19 + d.toNat) (by omega), hg 71 (by omega)]; exact hwor d v a b c e
  · rw [hc 25 (by omega), hg 73 (by omega)]; exact hlim
  · rw [hc 26 (by omega), hg 74 (by omega)]; exact hfac
  · rw [hc 27 (by omega), hc 28 (by omega), hc 29 (by omega), hc 30 (by omega), hg 75 (by omega), hg 76 (by omega), hg 77 (by omega), hg 78 (by omega)]
    exact hrul
  · rw [hc 0 (by omega), h3, h64 17 (by omega), h64 18 (by omega), h64 21 (by omega)]
    exact ⟨hs1, hs2, hs3, h4⟩
  · rw [h3]; exact ⟨hk1, hk2, hk3⟩
  · rw [h3] at hk
    rw [hc (34 + k) (by omega), hc (38 + k) (by omega), hg 79 (by omega), hg 80 (by omega)]
    exact hkp k hk d a b
theorem b_undo {σ : Mem} {d : Nat} (hd : 20 ≤ d) (h : Inv σ) : Both mX11_undo mX12_undo d [] σ := by
  obtain ⟨n, R, F, hi⟩ := h
  have hi0 := hi
  obtain ⟨⟨c1, c2, c3, c4, c5, c6, c7, c8, c9⟩, ⟨r1, r2, r3, r4, r5, r6, r7⟩, hdec, hper, hwor, hpl, hpr, hlim, hfac, hrul, hsc, hkk, hkp, huu, hus, huv⟩ := hi0
  have hn6 := c1.2.1
  have hs4 := hsc.2.2.2
  by_cases h0 : σ 4 0 = 0
  · refine X11_undo (u := σ 4 0) (sz := 0) rfl huu (fun q => absurd h0 q) (by omega) (by omega) (fun _ => ?_) (fun q => absurd h0 q)
    exact X12_undo (u := σ 4 0) (q := 0) (by omega) huu (fun q => absurd h0 q) (by omega) (fun _ => ⟨rfl, n, R, F, hi⟩) (fun q => absurd h0 q)
  · obtain ⟨u, hu⟩ : ∃ u : Nat, σ 4 0 - 1 = (u : Int) := ⟨(σ 4 0 - 1).toNat, by omega⟩
    have hq := hus u (by omega)
    obtain ⟨sz, hsz⟩ : ∃ sz : Nat, σ 50 (u : Int) = sz := ⟨(σ 50 (u : Int)).toNat, by omega⟩
    refine X11_undo (u := σ 4 0) (sz := sz) rfl huu (fun _ => by rw [hu]; exact hsz) (by omega) (by omega) (fun q => absurd q h0) (fun _ => ?_)
    rw [hu, Int.toNat_natCast]
    have e64 : ∀ c : Nat, c ≠ 11 → c ≠ 4 → (cp (wr σ 4 0 (u : Int)) (42 + u) 0 11 0 (sz : Int)) c = σ c := fun c a b => by rw [cp_ne a, wr_ne b]
    refine X12_undo (u := σ 4 0) (q := sz) (by rw [e64 64 (by decide) (by decide)]; omega) huu (fun _ => by rw [hu, e64 81 (by decide) (by decide), ← hq.1]; exact hsz) (by omega) (fun q => absurd q h0) (fun _ τ t1 t2 => ⟨hu.symm, n, R, F, ?_⟩)
    rw [hu, e64 82 (by decide) (by decide), e64 72 (by decide) (by decide)] at t2
    have t3 : ∀ c : Nat, c ≠ 72 → c ≠ 64 → c ≠ 11 → c ≠ 4 → τ c = σ c := fun c a b e f => by rw [t1 c a, wr_ne b, e64 c e f]
    have t11 : ∀ j : Int, τ 11 j = if 0 ≤ j ∧ j < (sz : Int) then σ (42 + u) j else σ 11 j := fun j => by
      rw [t1 11 (by decide), wr_ne (by decide), cp_at]
      by_cases e : 0 ≤ j ∧ j < (sz : Int)
      · rw [if_pos (by omega), if_pos e, wr_ne (by omega), show (0 : Int) + (j - 0) = j by omega]
      · rw [if_neg (by omega), if_neg e, wr_ne (by decide)]
    have t4 : τ 4 0 = (u : Int) := by rw [t1 4 (by decide), wr_ne (by decide), cp_ne (by decide), wr_eq]
    have t64 : ∀ j : Int, τ 64 j = if j = 22 then (u : Int) else σ 64 j := fun j => by rw [t1 64 (by decide), wr_at, hu, e64 64 (by decide) (by decide)]
    refine hi.plan (fun c a => t3 c (by omega) (by omega) (by omega) (by omega)) (fun j a => by rw [t64, if_neg (by omega)]) (fun c a => t3 c (by omega) (by omega) (by omega) (by omega)) (fun j a b => ?_) (fun j a b => ?_) (by rw [t4, t64, if_pos rfl]) (by omega) (fun i hk => ?_) (fun i hk j a b => ?_)
    · rw [t11, t2]
      by_cases e : 0 ≤ j ∧ j < (sz : Int)
      · rw [if_pos e, if_pos e]; exact (huv u (by omega) j a (by omega)).1
      · rw [if_neg e, if_neg e]; exact hpl j a b
    · rw [t11]
      by_cases e : 0 ≤ j ∧ j < (sz : Int)
      · rw [if_pos e]; exact (huv u (by omega) j a (by omega)).2
      · rw [if_neg e]; exact hpr j a b
    · rw [t4] at hk
      rw [t3 50 (by decide) (by decide) (by decide) (by decide), t3 81 (by decide) (by decide) (by decide) (by decide)]
      exact hus i (by omega)
    · rw [t4] at hk
      rw [t3 50 (by decide) (by decide) (by decide) (by decide)] at b
      rw [t3 (42 + i) (by omega) (by omega) (by omega) (by omega), t3 82 (by decide) (by decide) (by decide) (by decide)]
      exact huv i (by omega) j a b
theorem b_run {σ : Mem} {d : Nat} (hd : 20 ≤ d) (h : Inv σ) : Both mX11_run mX12_run d [] σ := by
  obtain ⟨n, R, F, hi⟩ := h
  have hi0 := hi
  obtain ⟨⟨c1, c2, c3, c4, c5, c6, c7, c8, c9⟩, ⟨r1, r2, r3, r4, r5, r6, r7⟩, hdec, hper, hwor, hpl, hpr, hlim, hfac, hrul, hsc, hkk, hkp, huu, hus, huv⟩ := hi0
  have hn6 := c1.2.1
  have hs4 := hsc.2.2.2
  refine X11_run hi.cw huu (by omega) (fun hn => ?_) (fun hn σa υ an hz hf => ?_) (fun hn σa c w l an hz υ hf => ?_)
  · exact X12_run hi.rw (by omega) (by omega) (fun _ => ⟨rfl, n, R, F, hi⟩) (fun q => absurd hn q) (fun q => absurd hn q)
  · have hr := hi.rw.core hf.ceq
    have ca := hi.an an hr (fun c a b _ _ => hf c (by omega)) (fun f a b => by rw [hf 74 (by omega)]; exact hi.fac f a b) (fun p a b => by rw [hf 73 (by omega)]; exact hi.lim p a b)
    have hb := best_eq ca
    have h64 : υ 64 = σ 64 := hf 64 (by omega)
    rw [h64, ← hi.wf, hz] at hb
    refine X12_run hr (by rw [h64]; omega) (by omega) (fun q => absurd q hn) (fun _ _ τ t1 => ⟨rfl, n, R, F, hi.fr (fun c hc => by rw [t1 c (by omega) (by omega)]; exact hf c (by omega)) (core_fr (fun c a b => by rw [t1 c (by omega) (by omega)]; exact hf c (by omega)))⟩) (fun _ c w l e => ?_)
    rw [e] at hb
    cases hb
  · have hceq : CoreEq σ υ := fun c a b => hf.1 c (by omega)
    have hr := hi.rw.core hceq
    have ca := hi.an an hr (fun c a b _ _ => hf.1 c (by omega)) (fun f a b => by rw [hf.1 74 (by omega)]; exact hi.fac f a b) (fun p a b => by rw [hf.1 73 (by omega)]; exact hi.lim p a b)
    have hb := best_eq ca
    have h64 : υ 64 = σ 64 := hf.1 64 (by omega)
    rw [h64, ← hi.wf, hz] at hb
    have hbs := rbest_some hb.symm
    refine X12_run hr (by rw [h64]; omega) (by omega) (fun q => absurd q hn) (fun _ e => by rw [e] at hb; cases hb) (fun _ c2 w2 l2 e τ t => ?_)
    rw [e] at hb
    cases hb
    refine ⟨hbs.2.2.1, n, R, F, ?_⟩
    obtain ⟨f1, f2, f3, f4, f5⟩ := hf
    obtain ⟨g1, g2, g3, g4, g5⟩ := t
    have eu : u1 υ = cu1 σ := by unfold u1 cu1; rw [h64, hs4]
    have hcu : 0 ≤ cu1 σ ∧ cu1 σ ≤ 7 ∧ cu1 σ ≤ σ 4 0 ∧ (σ 4 0 = 8 → cu1 σ = 7) ∧ (σ 4 0 ≠ 8 → cu1 σ = σ 4 0) := by unfold cu1; split <;> omega
    have hm := rEn_mem hr hbs.1
    have e12 : ∀ j : Int, 0 ≤ j → j < n → σ 12 j ≤ pf l j ∧ pf l j ≤ σ 13 j := fun j a b => by
      have h1 := hm j a b
      have h2 := hdec j a b
      rw [f1 65 (by omega), f1 66 (by omega)] at h1
      omega
    have t4 : τ 4 0 = cu1 σ + 1 := by rw [g1 4 (by decide) (by decide) (by decide) (by decide) (by decide) (by decide)]; exact f2
    have t50 : ∀ j : Int, τ 50 j = if j = cu1 σ then (n : Int) else cum σ j := fun j => by rw [g1 50 (by decide) (by decide) (by decide) (by decide) (by decide) (by decide)]; exact f3 j
    have h50 : ∀ i : Nat, (i : Int) < cu1 σ → cum σ (i : Int) = um1 υ (i : Int) ∧ 0 ≤ cum σ (i : Int) ∧ cum σ (i : Int) ≤ n := fun i hk => by
      unfold cum um1
      rw [h64, ← hs4, f1 81 (by omega)]
      by_cases e8 : σ 4 0 = 8
      · rw [if_pos (by omega), if_pos (by omega)]
        have := hus (i + 1) (by omega)
        rw [show ((i + 1 : Nat) : Int) = (i : Int) + 1 by omega] at this
        exact this
      · rw [if_neg (by omega), if_neg (by omega)]
        exact hus i (by omega)
    refine hi.plan (fun c a => by rw [g1 c (by omega) (by omega) (by omega) (by omega) (by omega) (by omega)]; exact f1 c (by omega)) (fun j a => by rw [g2, if_neg (by omega), h64]) (fun c a => by rw [g1 c (by omega) (by omega) (by omega) (by omega) (by omega) (by omega)]; exact f1 c (by omega)) (fun j a b => ?_) (fun j a b => ?_) (by rw [t4, g2, if_pos rfl, eu]) (by omega) (fun i hk => ?_) (fun i hk j a b => ?_)
    · rw [g1 11 (by decide) (by decide) (by decide) (by decide) (by decide) (by decide), f5, g3, f1 72 (by omega)]
      by_cases e : 0 ≤ j ∧ j < (n : Int)
      · rw [if_pos e, if_pos e]
      · rw [if_neg e, if_neg e]; exact hpl j a b
    · rw [g1 11 (by decide) (by decide) (by decide) (by decide) (by decide) (by decide), f5, if_pos ⟨a, b⟩]
      exact e12 j a b
    · rw [t4] at hk
      rw [t50, g4, eu]
      by_cases e : (i : Int) = cu1 σ
      · rw [if_pos e, if_pos e]; omega
      · rw [if_neg e, if_neg e]
        exact h50 i (by omega)
    · rw [t4] at hk
      rw [t50] at b
      rw [g1 (42 + i) (by omega) (by omega) (by omega) (by omega) (by omega) (by omega), g5, eu]
      by_cases e : (i : Int) = cu1 σ
      · rw [if_pos e] at b
        rw [f4 i j (by omega) a (by omega), if_pos e, if_pos (by omega), f1 72 (by omega), show 6 * (i : Int) + j - 6 * cu1 σ = j by omega]
        exact ⟨hpl j a (by omega), hpr j a b⟩
      · rw [if_neg e] at b
        have h5 := h50 i (by omega)
        rw [f4 i j (by omega) a (by omega), if_neg e, if_neg (by omega)]
        unfold cuv uv1
        unfold cum at b h5
        rw [h64, ← hs4, f1 82 (by omega)]
        by_cases e8 : σ 4 0 = 8
        · rw [if_pos (by omega)] at b
          rw [if_pos (by omega), if_pos (by omega)]
          have := huv (i + 1) (by omega) j a (by rw [show ((i + 1 : Nat) : Int) = (i : Int) + 1 by omega]; exact b)
          rw [show 42 + (i + 1) = 43 + i by omega, show 6 * ((i + 1 : Nat) : Int) + j = 6 * (i : Int) + j + 6 by omega] at this
          exact this
        · rw [if_neg (by omega)] at b
          rw [if_neg (by omega), if_neg (by omega)]
          exact huv i (by omega) j a b
theorem b_keep {σ : Mem} {d : Nat} (hd : 20 ≤ d) (h : Inv σ) : Both mX11_keep mX12_keep d [] σ := by
  obtain ⟨n, R, F, hi⟩ := h
  have hi0 := hi
  obtain ⟨⟨c1, c2, c3, c4, c5, c6, c7, c8, c9⟩, ⟨r1, r2, r3, r4, r5, r6, r7⟩, hdec, hper, hwor, hpl, hpr, hlim, hfac, hrul, hsc, hkk, hkp, huu, hus, huv⟩ := hi0
  have hn6 := c1.2.1
  have hs2 := hsc.2.1
  obtain ⟨kp, hk0⟩ : ∃ kp : Nat, σ 3 0 = kp := ⟨(σ 3 0).toNat, by omega⟩
  have hk3 : kp ≤ 3 := by omega
  refine X11_keep c1.1 hk0 hk3 (by omega) (fun q => ?_) (fun q => ?_) (fun q => ?_)
  · exact X12_keep (kp := kp) r1.1 hn6 (by omega) hk3 (fun _ => ⟨rfl, n, R, F, hi⟩) (fun z => absurd q z.1) (fun z => absurd q z.1)
  · exact X12_keep (kp := kp) r1.1 hn6 (by omega) hk3 (fun z => absurd z q.1) (fun _ => ⟨rfl, n, R, F, hi⟩) (fun z => by omega)
  · have m1 : ∀ c : Nat, c ≠ 3 → c ≠ 34 + kp → c ≠ 38 + kp → (wr (wr (cp (cp σ 11 0 (34 + kp) 0 6) 26 0 (38 + kp) 0 6) 3 1 (kp : Int)) 3 0 ((kp : Int) + 1)) c = σ c := fun c a b e => by rw [wr_ne a, wr_ne a, cp_ne e, cp_ne b]
    have m2 : (wr (wr (cp (cp σ 11 0 (34 + kp) 0 6) 26 0 (38 + kp) 0 6) 3 1 (kp : Int)) 3 0 ((kp : Int) + 1)) 3 0 = (kp : Int) + 1 := wr_eq
    have m3 : (wr (wr (cp (cp σ 11 0 (34 + kp) 0 6) 26 0 (38 + kp) 0 6) 3 1 (kp : Int)) 3 0 ((kp : Int) + 1)) 3 1 = (kp : Int) := by rw [wr_at, if_neg (by decide), wr_eq]
    have m4 : ∀ j : Int, 0 ≤ j → j < 6 → (wr (wr (cp (cp σ 11 0 (34 + kp) 0 6) 26 0 (38 + kp) 0 6) 3 1 (kp : Int)) 3 0 ((kp : Int) + 1)) (34 + kp) j = σ 11 j := fun j a b => by
      rw [wr_ne (by omega), wr_ne (by omega), cp_ne (by omega), cp_at, if_pos (by omega), show (0 : Int) + (j - 0) = j by omega]
    have m5 : ∀ j : Int, 0 ≤ j → j < 6 → (wr (wr (cp (cp σ 11 0 (34 + kp) 0 6) 26 0 (38 + kp) 0 6) 3 1 (kp : Int)) 3 0 ((kp : Int) + 1)) (38 + kp) j = σ 26 j := fun j a b => by
      rw [wr_ne (by omega), wr_ne (by omega), cp_at, if_pos (by omega), cp_ne (by omega), show (0 : Int) + (j - 0) = j by omega]
    generalize (wr (wr (cp (cp σ 11 0 (34 + kp) 0 6) 26 0 (38 + kp) 0 6) 3 1 (kp : Int)) 3 0 ((kp : Int) + 1)) = υ at m1 m2 m3 m4 m5 ⊢
    have u64 : υ 64 = σ 64 := m1 64 (by omega) (by omega) (by omega)
    refine X12_keep (kp := kp) (n := n) (by rw [u64]; exact r1.1) hn6 (by rw [u64]; omega) hk3 (fun z => absurd z q.1) (fun z => by omega) (fun _ τ t1 t2 t3 => ⟨rfl, n, R, F, ?_⟩)
    rw [m1 72 (by omega) (by omega) (by omega), m1 79 (by omega) (by omega) (by omega)] at t2
    rw [m1 74 (by omega) (by omega) (by omega), m1 80 (by omega) (by omega) (by omega)] at t3
    have n1 : ∀ c : Nat, c ≠ 3 → c ≠ 34 + kp → c ≠ 38 + kp → c ≠ 64 → c ≠ 79 → c ≠ 80 → (wr (wr τ 64 21 (kp : Int)) 64 18 ((kp : Int) + 1)) c = σ c := fun c a b e f g h => by rw [wr_ne f, wr_ne f, t1 c g h, m1 c a b e]
    have n2 : ∀ c : Nat, c ≠ 64 → c ≠ 79 → c ≠ 80 → (wr (wr τ 64 21 (kp : Int)) 64 18 ((kp : Int) + 1)) c = υ c := fun c f g h => by rw [wr_ne f, wr_ne f, t1 c g h]
    have n3 : ∀ j : Int, (wr (wr τ 64 21 (kp : Int)) 64 18 ((kp : Int) + 1)) 64 j = if j = 18 then (kp : Int) + 1 else if j = 21 then (kp : Int) else σ 64 j := fun j => by rw [wr_at, wr_at, t1 64 (by decide) (by decide), u64]
    have n4 : (wr (wr τ 64 21 (kp : Int)) 64 18 ((kp : Int) + 1)) 79 = τ 79 := by rw [wr_ne (by decide), wr_ne (by decide)]
    have n5 : (wr (wr τ 64 21 (kp : Int)) 64 18 ((kp : Int) + 1)) 80 = τ 80 := by rw [wr_ne (by decide), wr_ne (by decide)]
    generalize (wr (wr τ 64 21 (kp : Int)) 64 18 ((kp : Int) + 1)) = ω at n1 n2 n3 n4 n5 ⊢
    rw [← n2 3 (by decide) (by decide) (by decide)] at m2 m3
    have hpb : ∀ j : Int, 0 ≤ j → j < n → 0 ≤ σ 11 j ∧ σ 11 j ≤ 5 := hi.cp.bnd hi.cw
    have hcw : CW ω n R F := by
      refine ⟨?_, ?_, ?_, fun d v a b c e => ?_, ?_, Or.inr ⟨by omega, by omega, fun j a b => ?_⟩, ?_, ?_, ?_⟩
      · rw [n1 1 (by omega) (by omega) (by omega) (by omega) (by omega) (by omega), n1 2 (by omega) (by omega) (by omega) (by omega) (by omega) (by omega)]; exact c1
      · rw [n1 27 (by omega) (by omega) (by omega) (by omega) (by omega) (by omega), n1 28 (by omega) (by omega) (by omega) (by omega) (by omega) (by omega), n1 29 (by omega) (by omega) (by omega) (by omega) (by omega) (by omega), n1 30 (by omega) (by omega) (by omega) (by omega) (by omega) (by omega)]; exact c2
      · rw [n1 12 (by omega) (by omega) (by omega) (by omega) (by omega) (by omega), n1 13 (by omega) (by omega) (by omega) (by omega) (by omega) (by omega), n1 14 (by omega) (by omega) (by omega) (by omega) (by omega) (by omega), n1 15 (by omega) (by omega) (by omega) (by omega) (by omega) (by omega), n1 16 (by omega) (by omega) (by omega) (by omega) (by omega) (by omega), n1 17 (by omega) (by omega) (by omega) (by omega) (by omega) (by omega)]; exact c3
      · rw [n1 (19 + d.toNat) (by omega) (by omega) (by omega) (by omega) (by omega) (by omega)]; exact c4 d v a b c e
      · rw [n1 25 (by omega) (by omega) (by omega) (by omega) (by omega) (by omega)]; exact c5
      · show 0 ≤ ω (34 + (ω 3 1).toNat) j ∧ ω (34 + (ω 3 1).toNat) j ≤ 5
        rw [m3, Int.toNat_natCast, n2 (34 + kp) (by omega) (by omega) (by omega), m4 j a (by omega)]
        exact hpb j a b
      · rw [n1 0 (by omega) (by omega) (by omega) (by omega) (by omega) (by omega)]; exact c7
      · rw [n1 31 (by omega) (by omega) (by omega) (by omega) (by omega) (by omega), dwB_core (n1 27 (by omega) (by omega) (by omega) (by omega) (by omega) (by omega)) (n1 28 (by omega) (by omega) (by omega) (by omega) (by omega) (by omega)) (n1 29 (by omega) (by omega) (by omega) (by omega) (by omega) (by omega))]; exact c8
      · rw [n1 32 (by omega) (by omega) (by omega) (by omega) (by omega) (by omega), cvB_core (n1 27 (by omega) (by omega) (by omega) (by omega) (by omega) (by omega)) (n1 29 (by omega) (by omega) (by omega) (by omega) (by omega) (by omega))]; exact c9
    have hw64 : ∀ j : Int, j ≠ 18 → j ≠ 21 → ω 64 j = σ 64 j := fun j a b => by rw [n3, if_neg a, if_neg b]
    have n18 : ω 64 18 = (kp : Int) + 1 := by rw [n3, if_pos rfl]
    have n21 : ω 64 21 = (kp : Int) := by rw [n3, if_neg (by decide), if_pos rfl]
    have hrw : RW ω n R F := by
      refine ⟨?_, ?_, ?_, ?_, ?_, Or.inr ⟨by omega, by omega, fun j a b => ?_⟩, ?_⟩
      · rw [hw64 0 (by decide) (by decide), hw64 10 (by decide) (by decide), hw64 12 (by decide) (by decide)]; exact r1
      · rw [n1 75 (by omega) (by omega) (by omega) (by omega) (by omega) (by omega), n1 76 (by omega) (by omega) (by omega) (by omega) (by omega) (by omega), n1 77 (by omega) (by omega) (by omega) (by omega) (by omega) (by omega), n1 78 (by omega) (by omega) (by omega) (by omega) (by omega) (by omega)]; exact r2
      · rw [n1 65 (by omega) (by omega) (by omega) (by omega) (by omega) (by omega), n1 66 (by omega) (by omega) (by omega) (by omega) (by omega) (by omega), n1 67 (by omega) (by omega) (by omega) (by omega) (by omega) (by omega), n1 68 (by omega) (by omega) (by omega) (by omega) (by omega) (by omega), n1 69 (by omega) (by omega) (by omega) (by omega) (by omega) (by omega), n1 70 (by omega) (by omega) (by omega) (by omega) (by omega) (by omega)]; exact r3
      · rw [n1 71 (by omega) (by omega) (by omega) (by omega) (by omega) (by omega)]; exact r4
      · rw [n1 73 (by omega) (by omega) (by omega) (by omega) (by omega) (by omega)]; exact r5
      · rw [n21, n4, t2, if_pos (by omega), show 6 * (kp : Int) + j - 6 * (kp : Int) = j by omega, ← hpl j a (by omega)]
        exact hpb j a b
      · rw [hw64 17 (by decide) (by decide)]; exact r7
    refine ⟨hcw, hrw, ?_, ?_, fun d v a b c e => ?_, ?_, ?_, ?_, ?_, ?_, ?_, ?_, fun k hk j a b => ?_, ?_, fun i hk => ?_, fun i hk j a b => ?_⟩
    · rw [n1 12 (by omega) (by omega) (by omega) (by omega) (by omega) (by omega), n1 13 (by omega) (by omega) (by omega) (by omega) (by omega) (by omega), n1 14 (by omega) (by omega) (by omega) (by omega) (by omega) (by omega), n1 15 (by omega) (by omega) (by omega) (by omega) (by omega) (by omega), n1 16 (by omega) (by omega) (by omega) (by omega) (by omega) (by omega), n1 17 (by omega) (by omega) (by omega) (by omega) (by omega) (by omega), n1 65 (by omega) (by omega) (by omega) (by omega) (by omega) (by omega), n1 66 (by omega) (by omega) (by omega) (by omega) (by omega) (by omega), n1 67 (by omega) (by omega) (by omega) (by omega) (by omega) (by omega), n1 68 (by omega) (by omega) (by omega) (by omega) (by omega) (by omega), n1 69 (by omega) (by omega) (by omega) (by omega) (by omega) (by omega), n1 70 (by omega) (by omega) (by omega) (by omega) (by omega) (by omega)]
      exact hdec
    · rw [n1 16 (by omega) (by omega) (by omega) (by omega) (by omega) (by omega)]; exact hper
    · rw [n1 (19 + d.toNat) (by omega) (by omega) (by omega) (by omega) (by omega) (by omega), n1 71 (by omega) (by omega) (by omega) (by omega) (by omega) (by omega)]; exact hwor d v a b c e
    · rw [n1 11 (by omega) (by omega) (by omega) (by omega) (by omega) (by omega), n1 72 (by omega) (by omega) (by omega) (by omega) (by omega) (by omega)]; exact hpl
    · rw [n1 11 (by omega) (by omega) (by omega) (by omega) (by omega) (by omega), n1 12 (by omega) (by omega) (by omega) (by omega) (by omega) (by omega), n1 13 (by omega) (by omega) (by omega) (by omega) (by omega) (by omega)]; exact hpr
    · rw [n1 25 (by omega) (by omega) (by omega) (by omega) (by omega) (by omega), n1 73 (by omega) (by omega) (by omega) (by omega) (by omega) (by omega)]; exact hlim
    · rw [n1 26 (by omega) (by omega) (by omega) (by omega) (by omega) (by omega), n1 74 (by omega) (by omega) (by omega) (by omega) (by omega) (by omega)]; exact hfac
    · rw [n1 27 (by omega) (by omega) (by omega) (by omega) (by omega) (by omega), n1 28 (by omega) (by omega) (by omega) (by omega) (by omega) (by omega), n1 29 (by omega) (by omega) (by omega) (by omega) (by omega) (by omega), n1 30 (by omega) (by omega) (by omega) (by omega) (by omega) (by omega), n1 75 (by omega) (by omega) (by omega) (by omega) (by omega) (by omega), n1 76 (by omega) (by omega) (by omega) (by omega) (by omega) (by omega), n1 77 (by omega) (by omega) (by omega) (by omega) (by omega) (by omega), n1 78 (by omega) (by omega) (by omega) (by omega) (by omega) (by omega)]
      exact hrul
    · rw [n1 0 (by omega) (by omega) (by omega) (by omega) (by omega) (by omega), m2, m3, n18, n21, n1 4 (by omega) (by omega) (by omega) (by omega) (by omega) (by omega), hw64 17 (by decide) (by decide), hw64 22 (by decide) (by decide)]
      exact ⟨hsc.1, rfl, rfl, hsc.2.2.2⟩
    · rw [m2, m3]; omega
    · rw [m2] at hk
      rw [n4, n5, t2, t3]
      by_cases e : k = kp
      · subst e
        rw [n2 (34 + k) (by omega) (by omega) (by omega), n2 (38 + k) (by omega) (by omega) (by omega), m4 j a b, m5 j a b, if_pos (by omega), if_pos (by omega), show 6 * (k : Int) + j - 6 * (k : Int) = j by omega]
        exact ⟨hpl j a b, hfac j a b, fun z => hpb j a z⟩
      · rw [n1 (34 + k) (by omega) (by omega) (by omega) (by omega) (by omega) (by omega), n1 (38 + k) (by omega) (by omega) (by omega) (by omega) (by omega) (by omega), if_neg (by omega), if_neg (by omega)]
        exact hkp k (by omega) j a b
    · rw [n1 4 (by omega) (by omega) (by omega) (by omega) (by omega) (by omega)]; exact huu
    · rw [n1 4 (by omega) (by omega) (by omega) (by omega) (by omega) (by omega)] at hk
      rw [n1 50 (by omega) (by omega) (by omega) (by omega) (by omega) (by omega), n1 81 (by omega) (by omega) (by omega) (by omega) (by omega) (by omega)]; exact hus i hk
    · rw [n1 4 (by omega) (by omega) (by omega) (by omega) (by omega) (by omega)] at hk
      rw [n1 50 (by omega) (by omega) (by omega) (by omega) (by omega) (by omega)] at b
      rw [n1 (42 + i) (by omega) (by omega) (by omega) (by omega) (by omega) (by omega), n1 82 (by omega) (by omega) (by omega) (by omega) (by omega) (by omega), n1 12 (by omega) (by omega) (by omega) (by omega) (by omega) (by omega), n1 13 (by omega) (by omega) (by omega) (by omega) (by omega) (by omega)]
      exact huv i hk j a b
