set_option maxRecDepth 100000 in
set_option maxHeartbeats 4000000 in
theorem iv_decision {σ : Mem} {n R F : Nat} {lo hh pe : Int} (hi : IV σ n R F) (hn : n < 6) (hk0 : σ 3 0 ≤ 0) (hb : ¬ (lo < 0 ∨ 5 < lo ∨ hh < 0 ∨ 5 < hh ∨ hh < lo ∨ pe < 0 ∨ 3 < pe)) : IV (wr (wr (wr (wr (wr (wr (wr (wr (wr (wr (wr (wr (wr (wr (wr σ 12 (n : Int) lo) 13 (n : Int) hh) 14 (n : Int) pe) 15 (n : Int) 1) 17 (n : Int) (-5)) 1 0 ((n : Int) + 1)) 11 (n : Int) lo) 65 (n : Int) lo) 66 (n : Int) hh) 67 (n : Int) pe) 68 (n : Int) 1) 69 (n : Int) 0) 70 (n : Int) (-5)) 72 (n : Int) lo) 64 0 ((n : Int) + 1)) (n + 1) (R) (F) := by
  have hi0 := hi
  obtain ⟨⟨c1, c2, c3, c4, c5, c6, c7, c8, c9⟩, ⟨r1, r2, r3, r4, r5, r6, r7⟩, hdec, hper, hwor, hpl, hpr, hlim, hfac, hrul, hsc, hkk, hkp, huu, hus, huv⟩ := hi
  have hn6 := c1.2.1
  have hF6 := c1.2.2.2.2.2
  have hR12 := c1.2.2.2.1
  have hk3 := hkk.2.1
  have hu8 := huu.2
  refine ⟨⟨?_, ?_, ?_, ?_, ?_, ?_, ?_, ?_, ?_⟩, ⟨?_, ?_, ?_, ?_, ?_, ?_, ?_⟩, ?_, ?_, ?_, ?_, ?_, ?_, ?_, ?_, ?_, ?_, ?_, ?_, ?_, ?_⟩
  · exact by simp (disch := omega) only [wr_nj, wr_eq]; omega
  · exact fun r a b => by simp (disch := omega) only [wr_nj]; have q := c2 r a b; exact ⟨q.1, q.2.1, q.2.2.1, q.2.2.2.1, q.2.2.2.2.1, fun z => by have := q.2.2.2.2.2 z; omega⟩
  · exact fun d a b => by
      by_cases e : d = (n : Int)
      · subst e
        have q16 := hper (n : Int) (by omega) (by omega)
        simp (disch := omega) only [wr_nj, wr_eq]
        refine ⟨?_, ?_, ?_, ?_, ?_, ?_, ?_, ?_, ?_, ?_⟩ <;> first | omega | exact Or.inl trivial | trivial
      · simp (disch := omega) only [wr_nj]
        exact c3 d a (by omega)
  · exact fun d v a b c e => by (try simp (disch := omega) only [wr_nj]); exact c4 d v a b c e
  · exact fun p a b => by (try simp (disch := omega) only [wr_nj]); exact c5 p a b
  · exact Or.inl (by simp (disch := omega) only [wr_nj]; omega)
  · exact by (try simp (disch := omega) only [wr_nj]); exact c7
  · exact fun d a b => by rw [bits_dw (σ := σ) (fun r hr => by refine ⟨?_, ?_, ?_⟩ <;> simp (disch := omega) only [wr_nj])]; (try simp (disch := omega) only [wr_nj]); exact c8 d a b
  · exact fun v a b => by rw [bits_cv (σ := σ) (fun r hr => by refine ⟨?_, ?_⟩ <;> simp (disch := omega) only [wr_nj])]; (try simp (disch := omega) only [wr_nj]); exact c9 v a b
  · exact by simp (disch := omega) only [wr_nj, wr_eq]; omega
  · exact fun r a b => by simp (disch := omega) only [wr_nj]; have q := r2 r a b; exact ⟨q.1, q.2.1, q.2.2.1, q.2.2.2.1, q.2.2.2.2.1, fun z => by have := q.2.2.2.2.2 z; omega⟩
  · exact fun d a b => by
      by_cases e : d = (n : Int)
      · subst e
        simp (disch := omega) only [wr_nj, wr_eq]
        refine ⟨?_, ?_, ?_, ?_, ?_, ?_, ?_, ?_, ?_, ?_⟩ <;> first | omega | exact Or.inl trivial | trivial
      · simp (disch := omega) only [wr_nj]
        exact r3 d a (by omega)
  · exact fun i a b => by (try simp (disch := omega) only [wr_nj]); exact r4 i a b
  · exact fun p a b => by (try simp (disch := omega) only [wr_nj]); exact r5 p a b
  · exact Or.inl (by simp (disch := omega) only [wr_nj]; omega)
  · exact by (try simp (disch := omega) only [wr_nj]); exact r7
  · exact fun d a b => by
      by_cases e : d = (n : Int)
      · subst e
        have q16 := hper (n : Int) (by omega) (by omega)
        simp (disch := omega) only [wr_nj, wr_eq]
        refine ⟨?_, ?_, ?_, ?_, ?_, ?_⟩ <;> first | trivial | omega
      · simp (disch := omega) only [wr_nj]
        exact hdec d a (by omega)
  · exact fun d a b => by (try simp (disch := omega) only [wr_nj]); exact hper d (by omega) b
  · exact fun d v a b c e => by (try simp (disch := omega) only [wr_nj]); exact hwor d v a b c e
  · exact fun d a b => by
      have q := hpl d a b
      by_cases e : d = (n : Int)
      · subst e
        simp (disch := omega) only [wr_nj, wr_eq]
      · simp (disch := omega) only [wr_nj]
        exact hpl d a b
  · exact fun d a b => by
      by_cases e : d = (n : Int)
      · subst e
        simp (disch := omega) only [wr_nj, wr_eq]
        omega
      · simp (disch := omega) only [wr_nj]
        exact hpr d a (by omega)
  · exact fun p a b => by (try simp (disch := omega) only [wr_nj]); exact hlim p a b
  · exact fun f a b => by (try simp (disch := omega) only [wr_nj]); exact hfac f a b
  · exact fun r a b => by (try simp (disch := omega) only [wr_nj]); exact hrul r a b
  · exact by (try simp (disch := omega) only [wr_nj]); exact hsc
  · exact by (try simp (disch := omega) only [wr_nj]); exact hkk
  · exact fun k hk d a b => by
      simp (disch := omega) only [wr_nj] at hk
      omega
  · exact by (try simp (disch := omega) only [wr_nj]); exact huu
  · exact fun i hk => by
      simp (disch := omega) only [wr_nj] at hk
      have q := hus i hk
      (try simp (disch := omega) only [wr_nj])
      omega
  · exact fun i hk d a b => by
      simp (disch := omega) only [wr_nj] at hk
      have hk2 : i < 8 := by omega
      simp (disch := omega) only [wr_nj] at b
      have q := hus i hk
      (try simp (disch := omega) only [wr_nj])
      exact huv i hk d a b
set_option maxRecDepth 100000 in
set_option maxHeartbeats 4000000 in
theorem b_decision {σ : Mem} {d : Nat} {lo hh pe : Int} (hd : 20 ≤ d) (h : Inv σ) : Both mX11_decision mX12_decision d [.inl lo, .inl hh, .inl pe] σ := by
  obtain ⟨n, R, F, hi⟩ := h
  have hi0 := hi
  obtain ⟨⟨c1, c2, c3, c4, c5, c6, c7, c8, c9⟩, ⟨r1, r2, r3, r4, r5, r6, r7⟩, hdec, hper, hwor, hpl, hpr, hlim, hfac, hrul, hsc, hkk, hkp, huu, hus, huv⟩ := hi0
  have hn6 := c1.2.1
  have hF6 := c1.2.2.2.2.2
  have hR12 := c1.2.2.2.1
  have hk3 := hkk.2.1
  refine X11_decision c1.1 hn6 (by omega) (fun q => ?_) (fun q => ?_) (fun q => ?_) (fun q => ?_)
  · exact X12_decision r1.1 hn6 (by omega) (fun _ => ⟨rfl, n, R, F, hi⟩) (fun z => absurd q z.1) (fun z => absurd q z.1) (fun z => absurd q z.1)
  · exact X12_decision r1.1 hn6 (by omega) (fun z => absurd z q.1) (fun _ => ⟨rfl, n, R, F, hi⟩) (fun z => by omega) (fun z => by omega)
  · exact X12_decision r1.1 hn6 (by omega) (fun z => absurd z q.1) (fun z => by omega) (fun _ => ⟨rfl, n, R, F, hi⟩) (fun z => by omega)
  · refine X12_decision (n := n) (by simp (disch := omega) only [wr_nj]; exact r1.1) hn6 (by omega) (fun z => absurd z q.1) (fun z => ?_) (fun z => by omega) (fun z => ⟨rfl, n + 1, R, F, iv_decision hi q.2.2 q.2.1 q.1⟩)
    simp (disch := omega) only [wr_nj] at z
    omega
set_option maxRecDepth 100000 in
set_option maxHeartbeats 4000000 in
theorem bits_dw1 {σ τ : Mem} {R : Nat} {d : Int} (h : ∀ r : Nat, r < R → τ 27 (r : Int) = σ 27 (r : Int) ∧ τ 28 (r : Int) = σ 28 (r : Int) ∧ τ 29 (r : Int) = σ 29 (r : Int)) : bitsN (dwB τ d) (R + 1) = bitsN (dwB σ d) R + if dwB τ d R then 2 ^ R else 0 := by
  show bitsN (dwB τ d) R + _ = _
  rw [bits_dw h]
theorem bits_cv1 {σ τ : Mem} {R : Nat} {v : Int} (h : ∀ r : Nat, r < R → τ 27 (r : Int) = σ 27 (r : Int) ∧ τ 29 (r : Int) = σ 29 (r : Int)) : bitsN (cvB τ v) (R + 1) = bitsN (cvB σ v) R + if cvB τ v R then 2 ^ R else 0 := by
  show bitsN (cvB τ v) R + _ = _
  rw [bits_cv h]
theorem dwB_at {τ : Mem} {R : Nat} {kd a b d : Int} (h1 : τ 27 (R : Int) = kd) (h2 : τ 28 (R : Int) = a) (h3 : τ 29 (R : Int) = b) : dwB τ d R = (decide (kd ≠ 5) && decide (max a b = d)) := by unfold dwB; rw [h1, h2, h3]
theorem cvB_at {τ : Mem} {R : Nat} {kd b v : Int} (h1 : τ 27 (R : Int) = kd) (h3 : τ 29 (R : Int) = b) : cvB τ v R = (decide (kd = 5) && decide (b = v)) := by unfold cvB; rw [h1, h3]
set_option maxRecDepth 100000 in
set_option maxHeartbeats 4000000 in
theorem iv_rule5 {σ : Mem} {n R F : Nat} {kd a b f : Int} (hi : IV σ n R F) (hR : R < 12) (h1 : ¬ (kd < 0 ∨ 5 < kd ∨ (kd = 5 ∧ (b < 0 ∨ 5 < b)))) (h2 : ¬ ((kd ≠ 5 ∧ (a < 0 ∨ (n : Int) ≤ a ∨ b < 0 ∨ (n : Int) ≤ b)) ∨ f < 0 ∨ (F : Int) ≤ f)) (hkd : kd = 5) : IV (wr (wr (wr (wr (wr (wr (wr (wr (wr (wr (wr σ 27 (R : Int) kd) 28 (R : Int) a) 29 (R : Int) b) 30 (R : Int) f) 32 b (bor (σ 32 b) ((2 ^ R : Nat) : Int))) 2 2 ((R : Int) + 1)) 75 (R : Int) kd) 76 (R : Int) a) 77 (R : Int) b) 78 (R : Int) f) 64 12 ((R : Int) + 1)) (n) (R + 1) (F) := by
  have hi0 := hi
  obtain ⟨⟨c1, c2, c3, c4, c5, c6, c7, c8, c9⟩, ⟨r1, r2, r3, r4, r5, r6, r7⟩, hdec, hper, hwor, hpl, hpr, hlim, hfac, hrul, hsc, hkk, hkp, huu, hus, huv⟩ := hi
  have hn6 := c1.2.1
  have hF6 := c1.2.2.2.2.2
  have hR12 := c1.2.2.2.1
  have hk3 := hkk.2.1
  have hu8 := huu.2
  refine ⟨⟨?_, ?_, ?_, ?_, ?_, ?_, ?_, ?_, ?_⟩, ⟨?_, ?_, ?_, ?_, ?_, ?_, ?_⟩, ?_, ?_, ?_, ?_, ?_, ?_, ?_, ?_, ?_, ?_, ?_, ?_, ?_, ?_⟩
  · exact by simp (disch := omega) only [wr_nj, wr_eq]; omega
  · exact fun r a1 b1 => by
      by_cases e : r = (R : Int)
      · subst e
        simp (disch := omega) only [wr_nj, wr_eq]
        exact ⟨by omega, by omega, by omega, by omega, fun z => by omega, fun z => by omega⟩
      · simp (disch := omega) only [wr_nj]
        exact c2 r a1 (by omega)
  · exact fun d a b => by (try simp (disch := omega) only [wr_nj]); exact c3 d a b
  · exact fun d v a b c e => by (try simp (disch := omega) only [wr_nj]); exact c4 d v a b c e
  · exact fun p a b => by (try simp (disch := omega) only [wr_nj]); exact c5 p a b
  · exact CB_of (by (try simp (disch := omega) only [wr_nj])) (fun k hk d => by (try simp (disch := omega) only [wr_nj])) c6
  · exact by (try simp (disch := omega) only [wr_nj]); exact c7
  · exact fun d' a1 b1 => by
      rw [bits_dw1 (σ := σ) (fun r hr => by refine ⟨?_, ?_, ?_⟩ <;> simp (disch := omega) only [wr_nj]), dwB_at (kd := kd) (a := a) (b := b) (by simp (disch := omega) only [wr_nj, wr_eq]) (by simp (disch := omega) only [wr_nj, wr_eq]) (by simp (disch := omega) only [wr_nj, wr_eq]), decide_eq_false (show ¬ (kd ≠ 5) from fun z => z hkd), Bool.false_and]
      simp (disch := omega) only [wr_nj]
      rw [c8 d' a1 b1]
      rfl
  · exact fun v a1 b1 => by
      rw [bits_cv1 (σ := σ) (fun r hr => by refine ⟨?_, ?_⟩ <;> simp (disch := omega) only [wr_nj]), cvB_at (kd := kd) (b := b) (by simp (disch := omega) only [wr_nj, wr_eq]) (by simp (disch := omega) only [wr_nj, wr_eq]), decide_eq_true hkd, Bool.true_and]
      by_cases e : b = v
      · subst e
        simp (disch := omega) only [wr_nj, wr_eq]
        rw [c9 b a1 b1, bor_pow (bitsN_lt _ _) (by omega)]
        rfl
      · rw [decide_eq_false e]
        simp (disch := omega) only [wr_nj]
        rw [c9 v a1 b1]
        rfl
  · exact by simp (disch := omega) only [wr_nj, wr_eq]; omega
  · exact fun r a1 b1 => by
      by_cases e : r = (R : Int)
      · subst e
        simp (disch := omega) only [wr_nj, wr_eq]
        exact ⟨by omega, by omega, by omega, by omega, fun z => by omega, fun z => by omega⟩
      · simp (disch := omega) only [wr_nj]
        exact r2 r a1 (by omega)
  · exact fun d a b => by (try simp (disch := omega) only [wr_nj]); exact r3 d a b
  · exact fun i a b => by (try simp (disch := omega) only [wr_nj]); exact r4 i a b
  · exact fun p a b => by (try simp (disch := omega) only [wr_nj]); exact r5 p a b
  · exact by (try simp (disch := omega) only [wr_nj]); exact r6
  · exact by (try simp (disch := omega) only [wr_nj]); exact r7
  · exact fun d a b => by (try simp (disch := omega) only [wr_nj]); exact hdec d a b
  · exact fun d a b => by (try simp (disch := omega) only [wr_nj]); exact hper d a b
  · exact fun d v a b c e => by (try simp (disch := omega) only [wr_nj]); exact hwor d v a b c e
  · exact fun d a b => by (try simp (disch := omega) only [wr_nj]); exact hpl d a b
  · exact fun d a b => by (try simp (disch := omega) only [wr_nj]); exact hpr d a b
  · exact fun p a b => by (try simp (disch := omega) only [wr_nj]); exact hlim p a b
  · exact fun f a b => by (try simp (disch := omega) only [wr_nj]); exact hfac f a b
  · exact fun r a1 b1 => by
      by_cases e : r = (R : Int)
      · subst e
        simp (disch := omega) only [wr_nj, wr_eq]
        exact ⟨trivial, trivial, trivial, trivial⟩
      · simp (disch := omega) only [wr_nj]
        exact hrul r a1 (by omega)
  · exact by (try simp (disch := omega) only [wr_nj]); exact hsc
  · exact by (try simp (disch := omega) only [wr_nj]); exact hkk
  · exact fun k hk d a b => by
      (try simp (disch := omega) only [wr_nj] at hk)
      have hk2 : k < 3 := by omega
      (try simp (disch := omega) only [wr_nj])
      exact hkp k hk d a b
  · exact by (try simp (disch := omega) only [wr_nj]); exact huu
  · exact fun i hk => by (try simp (disch := omega) only [wr_nj] at hk); (try simp (disch := omega) only [wr_nj]); exact hus i hk
  · exact fun i hk d a b => by
      (try simp (disch := omega) only [wr_nj] at hk)
      have hk2 : i < 8 := by omega
      (try simp (disch := omega) only [wr_nj] at b)
      (try simp (disch := omega) only [wr_nj])
      exact huv i hk d a b
set_option maxRecDepth 100000 in
set_option maxHeartbeats 4000000 in
theorem iv_rule {σ : Mem} {n R F : Nat} {kd a b f : Int} (hi : IV σ n R F) (hR : R < 12) (h1 : ¬ (kd < 0 ∨ 5 < kd ∨ (kd = 5 ∧ (b < 0 ∨ 5 < b)))) (h2 : ¬ ((kd ≠ 5 ∧ (a < 0 ∨ (n : Int) ≤ a ∨ b < 0 ∨ (n : Int) ≤ b)) ∨ f < 0 ∨ (F : Int) ≤ f)) (hkd : kd ≠ 5) : IV (wr (wr (wr (wr (wr (wr (wr (wr (wr (wr (wr σ 27 (R : Int) kd) 28 (R : Int) a) 29 (R : Int) b) 30 (R : Int) f) 31 (max a b) (bor (σ 31 (max a b)) ((2 ^ R : Nat) : Int))) 2 2 ((R : Int) + 1)) 75 (R : Int) kd) 76 (R : Int) a) 77 (R : Int) b) 78 (R : Int) f) 64 12 ((R : Int) + 1)) (n) (R + 1) (F) := by
  have hi0 := hi
  obtain ⟨⟨c1, c2, c3, c4, c5, c6, c7, c8, c9⟩, ⟨r1, r2, r3, r4, r5, r6, r7⟩, hdec, hper, hwor, hpl, hpr, hlim, hfac, hrul, hsc, hkk, hkp, huu, hus, huv⟩ := hi
  have hn6 := c1.2.1
  have hF6 := c1.2.2.2.2.2
  have hR12 := c1.2.2.2.1
  have hk3 := hkk.2.1
  have hu8 := huu.2
  refine ⟨⟨?_, ?_, ?_, ?_, ?_, ?_, ?_, ?_, ?_⟩, ⟨?_, ?_, ?_, ?_, ?_, ?_, ?_⟩, ?_, ?_, ?_, ?_, ?_, ?_, ?_, ?_, ?_, ?_, ?_, ?_, ?_, ?_⟩
  · exact by simp (disch := omega) only [wr_nj, wr_eq]; omega
  · exact fun r a1 b1 => by
      by_cases e : r = (R : Int)
      · subst e
        simp (disch := omega) only [wr_nj, wr_eq]
        exact ⟨by omega, by omega, by omega, by omega, fun z => by omega, fun z => by omega⟩
      · simp (disch := omega) only [wr_nj]
        exact c2 r a1 (by omega)
  · exact fun d a b => by (try simp (disch := omega) only [wr_nj]); exact c3 d a b
  · exact fun d v a b c e => by (try simp (disch := omega) only [wr_nj]); exact c4 d v a b c e
  · exact fun p a b => by (try simp (disch := omega) only [wr_nj]); exact c5 p a b
  · exact CB_of (by (try simp (disch := omega) only [wr_nj])) (fun k hk d => by (try simp (disch := omega) only [wr_nj])) c6
  · exact by (try simp (disch := omega) only [wr_nj]); exact c7
  · exact fun d' a1 b1 => by
      rw [bits_dw1 (σ := σ) (fun r hr => by refine ⟨?_, ?_, ?_⟩ <;> simp (disch := omega) only [wr_nj]), dwB_at (kd := kd) (a := a) (b := b) (by simp (disch := omega) only [wr_nj, wr_eq]) (by simp (disch := omega) only [wr_nj, wr_eq]) (by simp (disch := omega) only [wr_nj, wr_eq]), decide_eq_true hkd, Bool.true_and]
      generalize hm : max a b = m
      by_cases e : m = d'
      · subst e
        simp (disch := omega) only [wr_nj, wr_eq]
        rw [c8 m a1 b1, bor_pow (bitsN_lt _ _) (by omega)]
        rfl
      · rw [decide_eq_false e]
        simp (disch := omega) only [wr_nj]
        rw [c8 d' a1 b1]
        rfl
  · exact fun v a1 b1 => by
      rw [bits_cv1 (σ := σ) (fun r hr => by refine ⟨?_, ?_⟩ <;> simp (disch := omega) only [wr_nj]), cvB_at (kd := kd) (b := b) (by simp (disch := omega) only [wr_nj, wr_eq]) (by simp (disch := omega) only [wr_nj, wr_eq]), decide_eq_false hkd, Bool.false_and]
      simp (disch := omega) only [wr_nj]
      rw [c9 v a1 b1]
      rfl
  · exact by simp (disch := omega) only [wr_nj, wr_eq]; omega
  · exact fun r a1 b1 => by
      by_cases e : r = (R : Int)
      · subst e
        simp (disch := omega) only [wr_nj, wr_eq]
        exact ⟨by omega, by omega, by omega, by omega, fun z => by omega, fun z => by omega⟩
      · simp (disch := omega) only [wr_nj]
        exact r2 r a1 (by omega)
  · exact fun d a b => by (try simp (disch := omega) only [wr_nj]); exact r3 d a b
  · exact fun i a b => by (try simp (disch := omega) only [wr_nj]); exact r4 i a b
  · exact fun p a b => by (try simp (disch := omega) only [wr_nj]); exact r5 p a b
  · exact by (try simp (disch := omega) only [wr_nj]); exact r6
  · exact by (try simp (disch := omega) only [wr_nj]); exact r7
  · exact fun d a b => by (try simp (disch := omega) only [wr_nj]); exact hdec d a b
  · exact fun d a b => by (try simp (disch := omega) only [wr_nj]); exact hper d a b
  · exact fun d v a b c e => by (try simp (disch := omega) only [wr_nj]); exact hwor d v a b c e
  · exact fun d a b => by (try simp (disch := omega) only [wr_nj]); exact hpl d a b
  · exact fun d a b => by (try simp (disch := omega) only [wr_nj]); exact hpr d a b
  · exact fun p a b => by (try simp (disch := omega) only [wr_nj]); exact hlim p a b
  · exact fun f a b => by (try simp (disch := omega) only [wr_nj]); exact hfac f a b
  · exact fun r a1 b1 => by
      by_cases e : r = (R : Int)
      · subst e
        simp (disch := omega) only [wr_nj, wr_eq]
        exact ⟨trivial, trivial, trivial, trivial⟩
      · simp (disch := omega) only [wr_nj]
        exact hrul r a1 (by omega)
  · exact by (try simp (disch := omega) only [wr_nj]); exact hsc
  · exact by (try simp (disch := omega) only [wr_nj]); exact hkk
  · exact fun k hk d a b => by
      (try simp (disch := omega) only [wr_nj] at hk)
      have hk2 : k < 3 := by omega
      (try simp (disch := omega) only [wr_nj])
      exact hkp k hk d a b
  · exact by (try simp (disch := omega) only [wr_nj]); exact huu
  · exact fun i hk => by (try simp (disch := omega) only [wr_nj] at hk); (try simp (disch := omega) only [wr_nj]); exact hus i hk
  · exact fun i hk d a b => by
      (try simp (disch := omega) only [wr_nj] at hk)
      have hk2 : i < 8 := by omega
      (try simp (disch := omega) only [wr_nj] at b)
      (try simp (disch := omega) only [wr_nj])
      exact huv i hk d a b
set_option maxRecDepth 100000 in
set_option maxHeartbeats 4000000 in
theorem b_rule {σ : Mem} {d : Nat} {kd a b f : Int} (hd : 20 ≤ d) (h : Inv σ) : Both mX11_rule mX12_rule d [.inl kd, .inl a, .inl b, .inl f] σ := by
  obtain ⟨n, R, F, hi⟩ := h
  have hi0 := hi
  obtain ⟨⟨c1, c2, c3, c4, c5, c6, c7, c8, c9⟩, ⟨r1, r2, r3, r4, r5, r6, r7⟩, hdec, hper, hwor, hpl, hpr, hlim, hfac, hrul, hsc, hkk, hkp, huu, hus, huv⟩ := hi0
  have hn6 := c1.2.1
  have hF6 := c1.2.2.2.2.2
  have hR12 := c1.2.2.2.1
  have hk3 := hkk.2.1
  refine X11_rule c1.1 hn6 (by omega) c1.2.2.2.2.1 hF6 c1.2.2.1 hR12 (fun q => ?_) (fun q => ?_) (fun q => ?_) (fun q => ?_) (fun q => ?_)
  · exact X12_rule r1.1 hn6 (by omega) r1.2.2.2.2.1 hF6 r1.2.2.1 hR12 (fun _ => ⟨rfl, n, R, F, hi⟩) (fun z => absurd q z.1) (fun z => absurd q z.1) (fun z => absurd q z.1)
  · exact X12_rule r1.1 hn6 (by omega) r1.2.2.2.2.1 hF6 r1.2.2.1 hR12 (fun z => absurd z q.1) (fun _ => ⟨rfl, n, R, F, hi⟩) (fun z => absurd q.2 z.2.1) (fun z => absurd q.2 z.2.1)
  · exact X12_rule r1.1 hn6 (by omega) r1.2.2.2.2.1 hF6 r1.2.2.1 hR12 (fun z => absurd z q.1) (fun z => absurd z.2 q.2.1) (fun _ => ⟨rfl, n, R, F, hi⟩) (fun z => by omega)
  · exact X12_rule (n := n) (R := R) (F := F) (by simp (disch := omega) only [wr_nj]; exact r1.1) hn6 (by omega) (by simp (disch := omega) only [wr_nj]; exact r1.2.2.2.2.1) hF6 (by simp (disch := omega) only [wr_nj]; exact r1.2.2.1) hR12 (fun z => absurd z q.1) (fun z => absurd z.2 q.2.1) (fun z => by omega) (fun z => ⟨rfl, n, R + 1, F, iv_rule5 hi q.2.2.1 q.1 q.2.1 q.2.2.2⟩)
  · exact X12_rule (n := n) (R := R) (F := F) (by simp (disch := omega) only [wr_nj]; exact r1.1) hn6 (by omega) (by simp (disch := omega) only [wr_nj]; exact r1.2.2.2.2.1) hF6 (by simp (disch := omega) only [wr_nj]; exact r1.2.2.1) hR12 (fun z => absurd z q.1) (fun z => absurd z.2 q.2.1) (fun z => by omega) (fun z => ⟨rfl, n, R + 1, F, iv_rule hi q.2.2.1 q.1 q.2.1 q.2.2.2⟩)
set_option maxRecDepth 100000 in
set_option maxHeartbeats 4000000 in
theorem iv_base {σ : Mem} {n R F : Nat} {k : Int} (hi : IV σ n R F) (hk : 0 ≤ k ∧ k < σ 3 0) : IV (wr (wr σ 3 1 k) 64 21 k) (n) (R) (F) := by
  have hi0 := hi
  obtain ⟨⟨c1, c2, c3, c4, c5, c6, c7, c8, c9⟩, ⟨r1, r2, r3, r4, r5, r6, r7⟩, hdec, hper, hwor, hpl, hpr, hlim, hfac, hrul, hsc, hkk, hkp, huu, hus, huv⟩ := hi
  have hn6 := c1.2.1
  have hF6 := c1.2.2.2.2.2
  have hR12 := c1.2.2.2.1
  have hk3 := hkk.2.1
  have hu8 := huu.2
  refine ⟨⟨?_, ?_, ?_, ?_, ?_, ?_, ?_, ?_, ?_⟩, ⟨?_, ?_, ?_, ?_, ?_, ?_, ?_⟩, ?_, ?_, ?_, ?_, ?_, ?_, ?_, ?_, ?_, ?_, ?_, ?_, ?_, ?_⟩
  · exact by (try simp (disch := omega) only [wr_nj]); exact c1
  · exact fun r a b => by (try simp (disch := omega) only [wr_nj]); exact c2 r a b
  · exact fun d a b => by (try simp (disch := omega) only [wr_nj]); exact c3 d a b
  · exact fun d v a b c e => by (try simp (disch := omega) only [wr_nj]); exact c4 d v a b c e
  · exact fun p a b => by (try simp (disch := omega) only [wr_nj]); exact c5 p a b
  · exact by
      refine Or.inr ⟨?_, ?_, fun d a b => ?_⟩
      · simp (disch := omega) only [wr_nj, wr_eq]; omega
      · simp (disch := omega) only [wr_nj, wr_eq]; omega
      · have q := (hkp k.toNat (by omega) d a (by omega)).2.2 b
        have e : cbv (wr (wr σ 3 1 k) 64 21 k) d = σ (34 + k.toNat) d := by
          show (wr (wr σ 3 1 k) 64 21 k) (34 + ((wr (wr σ 3 1 k) 64 21 k) 3 1).toNat) d = _
          have e1 : (wr (wr σ 3 1 k) 64 21 k) 3 1 = k := by simp (disch := omega) only [wr_nj, wr_eq]
          rw [e1]
          simp (disch := omega) only [wr_nj]
        rw [e]; exact q
  · exact by (try simp (disch := omega) only [wr_nj]); exact c7
  · exact fun d a b => by rw [bits_dw (σ := σ) (fun r hr => by refine ⟨?_, ?_, ?_⟩ <;> simp (disch := omega) only [wr_nj])]; (try simp (disch := omega) only [wr_nj]); exact c8 d a b
  · exact fun v a b => by rw [bits_cv (σ := σ) (fun r hr => by refine ⟨?_, ?_⟩ <;> simp (disch := omega) only [wr_nj])]; (try simp (disch := omega) only [wr_nj]); exact c9 v a b
  · exact by (try simp (disch := omega) only [wr_nj]); exact r1
  · exact fun r a b => by (try simp (disch := omega) only [wr_nj]); exact r2 r a b
  · exact fun d a b => by (try simp (disch := omega) only [wr_nj]); exact r3 d a b
  · exact fun i a b => by (try simp (disch := omega) only [wr_nj]); exact r4 i a b
  · exact fun p a b => by (try simp (disch := omega) only [wr_nj]); exact r5 p a b
  · exact by
      refine Or.inr ⟨?_, ?_, fun d a b => ?_⟩
      · rw [wr_eq]; omega
      · rw [wr_eq]; omega
      · have q := hkp k.toNat (by omega) d a (by omega)
        have q2 := q.2.2 b
        rw [q.1, Int.toNat_of_nonneg hk.1] at q2
        rw [wr_eq]
        simp (disch := omega) only [wr_nj]
        exact q2
  · exact by (try simp (disch := omega) only [wr_nj]); exact r7
  · exact fun d a b => by (try simp (disch := omega) only [wr_nj]); exact hdec d a b
  · exact fun d a b => by (try simp (disch := omega) only [wr_nj]); exact hper d a b
  · exact fun d v a b c e => by (try simp (disch := omega) only [wr_nj]); exact hwor d v a b c e
  · exact fun d a b => by (try simp (disch := omega) only [wr_nj]); exact hpl d a b
  · exact fun d a b => by (try simp (disch := omega) only [wr_nj]); exact hpr d a b
  · exact fun p a b => by (try simp (disch := omega) only [wr_nj]); exact hlim p a b
  · exact fun f a b => by (try simp (disch := omega) only [wr_nj]); exact hfac f a b
  · exact fun r a b => by (try simp (disch := omega) only [wr_nj]); exact hrul r a b
  · exact by simp (disch := omega) only [wr_nj, wr_eq]; exact ⟨hsc.1, hsc.2.1, trivial, hsc.2.2.2⟩
  · exact by simp (disch := omega) only [wr_nj, wr_eq]; exact ⟨hkk.1, hkk.2.1, Or.inr hk⟩
  · exact fun k hk d a b => by
      (try simp (disch := omega) only [wr_nj] at hk)
      have hk2 : k < 3 := by omega
      (try simp (disch := omega) only [wr_nj])
      exact hkp k hk d a b
  · exact by (try simp (disch := omega) only [wr_nj]); exact huu
  · exact fun i hk => by (try simp (disch := omega) only [wr_nj] at hk); (try simp (disch := omega) only [wr_nj]); exact hus i hk
  · exact fun i hk d a b => by
      (try simp (disch := omega) only [wr_nj] at hk)
      have hk2 : i < 8 := by omega
      (try simp (disch := omega) only [wr_nj] at b)
      (try simp (disch := omega) only [wr_nj])
      exact huv i hk d a b
set_option maxRecDepth 100000 in
set_option maxHeartbeats 4000000 in
theorem b_base {σ : Mem} {d : Nat} {k : Int} (hd : 20 ≤ d) (h : Inv σ) : Both mX11_base mX12_base d [.inl k] σ := by
  obtain ⟨n, R, F, hi⟩ := h
  have hi0 := hi
  obtain ⟨⟨c1, c2, c3, c4, c5, c6, c7, c8, c9⟩, ⟨r1, r2, r3, r4, r5, r6, r7⟩, hdec, hper, hwor, hpl, hpr, hlim, hfac, hrul, hsc, hkk, hkp, huu, hus, huv⟩ := hi0
  have hn6 := c1.2.1
  have hF6 := c1.2.2.2.2.2
  have hR12 := c1.2.2.2.1
  have hk3 := hkk.2.1
  obtain ⟨kp, hkp0⟩ : ∃ kp : Nat, σ 3 0 = kp := ⟨(σ 3 0).toNat, by omega⟩
  have hs0 := hsc.2.1
  refine X11_base (by omega) hkp0 (by omega) (fun q => ?_) (fun q => ?_)
  · exact X12_base (kp := kp) (by omega) (by omega) (by omega) (fun _ => ⟨rfl, n, R, F, hi⟩) (fun z => by omega)
  · refine X12_base (kp := kp) (by omega) (by simp (disch := omega) only [wr_nj]; omega) (by omega) (fun z => by omega) (fun z => ⟨?_, n, R, F, iv_base hi (by omega)⟩)
    simp (disch := omega) only [wr_nj]
    exact hsc.2.2.1
set_option maxRecDepth 100000 in
set_option maxHeartbeats 4000000 in
theorem b_old {σ : Mem} {d : Nat} {k j : Int} (hd : 20 ≤ d) (h : Inv σ) : Both mX11_old mX12_old d [.inl k, .inl j] σ := by
  obtain ⟨n, R, F, hi⟩ := h
  have hi0 := hi
  obtain ⟨⟨c1, c2, c3, c4, c5, c6, c7, c8, c9⟩, ⟨r1, r2, r3, r4, r5, r6, r7⟩, hdec, hper, hwor, hpl, hpr, hlim, hfac, hrul, hsc, hkk, hkp, huu, hus, huv⟩ := hi0
  have hn6 := c1.2.1
  have hF6 := c1.2.2.2.2.2
  have hR12 := c1.2.2.2.1
  have hk3 := hkk.2.1
  obtain ⟨kp, hkp0⟩ : ∃ kp : Nat, σ 3 0 = kp := ⟨(σ 3 0).toNat, by omega⟩
  have hs0 := hsc.2.1
  refine X11_old c1.1 hn6 (by omega) hkp0 (by omega) (fun q => ?_) (fun q => ?_)
  · exact X12_old (kp := kp) r1.1 hn6 (by omega) (by omega) (by omega) (fun _ => ⟨rfl, n, R, F, hi⟩) (fun z => by omega)
  · refine X12_old (kp := kp) r1.1 hn6 (by omega) (by omega) (by omega) (fun z => by omega) (fun z => ⟨?_, n, R, F, hi⟩)
    have q := (hkp k.toNat (by omega) j (by omega) (by omega)).1
    rw [q, Int.toNat_of_nonneg (by omega)]
