set_option maxRecDepth 100000 in
set_option maxHeartbeats 4000000 in
theorem wr_nj {σ : Mem} {c c' : Nat} {i v j : Int} (h : c' ≠ c ∨ j ≠ i) : wr σ c i v c' j = σ c' j := by
  rcases h with h | h
  · rw [wr_ne h]
  · by_cases e : c' = c
    · subst e; rw [wr_at, if_neg h]
    · rw [wr_ne e]
theorem CB_of {σ τ : Mem} {n : Nat} (h3 : τ 3 1 = σ 3 1) (h : ∀ k : Nat, k < 3 → ∀ d : Int, τ (34 + k) d = σ (34 + k) d) (hb : CB σ n) : CB τ n := by
  by_cases hne : σ 3 1 = -5
  · exact Or.inl (by rw [h3]; exact hne)
  · have hr := hb.resolve_left hne
    have e : cbv τ = cbv σ := by
      funext d
      show τ (34 + (τ 3 1).toNat) d = σ (34 + (σ 3 1).toNat) d
      rw [h3, h _ (by omega)]
    exact Or.inr ⟨by rw [h3]; exact hr.1, by rw [h3]; exact hr.2.1, fun d a b => by rw [e]; exact hr.2.2 d a b⟩
theorem bits_dw {σ τ : Mem} {R : Nat} {d : Int} (h : ∀ r : Nat, r < R → τ 27 (r : Int) = σ 27 (r : Int) ∧ τ 28 (r : Int) = σ 28 (r : Int) ∧ τ 29 (r : Int) = σ 29 (r : Int)) : bitsN (dwB τ d) R = bitsN (dwB σ d) R := bitsN_congr (fun r hr => by
  have := h r hr
  unfold dwB
  rw [this.1, this.2.1, this.2.2])
theorem bits_cv {σ τ : Mem} {R : Nat} {v : Int} (h : ∀ r : Nat, r < R → τ 27 (r : Int) = σ 27 (r : Int) ∧ τ 29 (r : Int) = σ 29 (r : Int)) : bitsN (cvB τ v) R = bitsN (cvB σ v) R := bitsN_congr (fun r hr => by
  have := h r hr
  unfold cvB
  rw [this.1, this.2])
set_option maxRecDepth 100000 in
set_option maxHeartbeats 4000000 in
theorem iv_weight {σ : Mem} {n R F : Nat} {k w p : Int} (hi : IV σ n R F) (hk : 0 ≤ k ∧ k < n) (hw : ¬ (w < 0 ∨ 100 < w ∨ p < 0 ∨ 20 < p)) : IV (wr (wr (wr (wr σ 15 k w) 16 k p) 68 k w) 69 k p) (n) (R) (F) := by
  have hi0 := hi
  obtain ⟨⟨c1, c2, c3, c4, c5, c6, c7, c8, c9⟩, ⟨r1, r2, r3, r4, r5, r6, r7⟩, hdec, hper, hwor, hpl, hpr, hlim, hfac, hrul, hsc, hkk, hkp, huu, hus, huv⟩ := hi
  have hn6 := c1.2.1
  have hF6 := c1.2.2.2.2.2
  have hR12 := c1.2.2.2.1
  have hk3 := hkk.2.1
  have hu8 := huu.2
  refine ⟨⟨?_, ?_, ?_, ?_, ?_, ?_, ?_, ?_, ?_⟩, ⟨?_, ?_, ?_, ?_, ?_, ?_, ?_⟩, ?_, ?_, ?_, ?_, ?_, ?_, ?_, ?_, ?_, ?_, ?_, ?_, ?_, ?_⟩
  · exact by (try simp (disch := omega) only [wr_nj]); exact c1
  · exact fun r a b => by (try simp (disch := omega) only [wr_nj]); exact c2 r a b
  · exact fun d a b => by
      have q := c3 d a b
      by_cases e : d = k
      · subst e
        simp (disch := omega) only [wr_nj, wr_eq]
        omega
      · simp (disch := omega) only [wr_nj]
        exact c3 d a b
  · exact fun d v a b c e => by (try simp (disch := omega) only [wr_nj]); exact c4 d v a b c e
  · exact fun p a b => by (try simp (disch := omega) only [wr_nj]); exact c5 p a b
  · exact CB_of (by (try simp (disch := omega) only [wr_nj])) (fun k hk d => by (try simp (disch := omega) only [wr_nj])) c6
  · exact by (try simp (disch := omega) only [wr_nj]); exact c7
  · exact fun d a b => by rw [bits_dw (σ := σ) (fun r hr => by refine ⟨?_, ?_, ?_⟩ <;> simp (disch := omega) only [wr_nj])]; (try simp (disch := omega) only [wr_nj]); exact c8 d a b
  · exact fun v a b => by rw [bits_cv (σ := σ) (fun r hr => by refine ⟨?_, ?_⟩ <;> simp (disch := omega) only [wr_nj])]; (try simp (disch := omega) only [wr_nj]); exact c9 v a b
  · exact by (try simp (disch := omega) only [wr_nj]); exact r1
  · exact fun r a b => by (try simp (disch := omega) only [wr_nj]); exact r2 r a b
  · exact fun d a b => by
      have q := r3 d a b
      by_cases e : d = k
      · subst e
        simp (disch := omega) only [wr_nj, wr_eq]
        omega
      · simp (disch := omega) only [wr_nj]
        exact r3 d a b
  · exact fun i a b => by (try simp (disch := omega) only [wr_nj]); exact r4 i a b
  · exact fun p a b => by (try simp (disch := omega) only [wr_nj]); exact r5 p a b
  · exact by (try simp (disch := omega) only [wr_nj]); exact r6
  · exact by (try simp (disch := omega) only [wr_nj]); exact r7
  · exact fun d a b => by
      have q := hdec d a b
      by_cases e : d = k
      · subst e
        simp (disch := omega) only [wr_nj, wr_eq]
        refine ⟨?_, ?_, ?_, ?_, ?_, ?_⟩ <;> first | trivial | omega
      · simp (disch := omega) only [wr_nj]
        exact hdec d a b
  · exact fun d a b => by (try simp (disch := omega) only [wr_nj]); exact hper d a b
  · exact fun d v a b c e => by (try simp (disch := omega) only [wr_nj]); exact hwor d v a b c e
  · exact fun d a b => by (try simp (disch := omega) only [wr_nj]); exact hpl d a b
  · exact fun d a b => by (try simp (disch := omega) only [wr_nj]); exact hpr d a b
  · exact fun p a b => by (try simp (disch := omega) only [wr_nj]); exact hlim p a b
  · exact fun f a b => by (try simp (disch := omega) only [wr_nj]); exact hfac f a b
  · exact fun r a b => by (try simp (disch := omega) only [wr_nj]); exact hrul r a b
  · exact by (try simp (disch := omega) only [wr_nj]); exact hsc
  · exact by (try simp (disch := omega) only [wr_nj]); exact hkk
  · exact fun k hk d a b => by
      (try simp (disch := omega) only [wr_nj] at hk)
      have hk2 : k < 3 := by omega
      (try simp (disch := omega) only [wr_nj])
      exact hkp k hk d a b
  · exact by (try simp (disch := omega) only [wr_nj]); exact huu
  · exact fun i hk => by (try simp (disch := omega) only [wr_nj] at hk); (try simp (disch := omega) only [wr_nj]); exact hus i hk
  · exact fun i hk d a b => by
      (try simp (disch := omega) only [wr_nj] at hk)
      have hk2 : i < 8 := by omega
      (try simp (disch := omega) only [wr_nj] at b)
      (try simp (disch := omega) only [wr_nj])
      exact huv i hk d a b
set_option maxRecDepth 100000 in
set_option maxHeartbeats 4000000 in
theorem b_weight {σ : Mem} {d : Nat} {k w p : Int} (hd : 20 ≤ d) (h : Inv σ) : Both mX11_weight mX12_weight d [.inl k, .inl w, .inl p] σ := by
  obtain ⟨n, R, F, hi⟩ := h
  have hi0 := hi
  obtain ⟨⟨c1, c2, c3, c4, c5, c6, c7, c8, c9⟩, ⟨r1, r2, r3, r4, r5, r6, r7⟩, hdec, hper, hwor, hpl, hpr, hlim, hfac, hrul, hsc, hkk, hkp, huu, hus, huv⟩ := hi0
  have hn6 := c1.2.1
  have hF6 := c1.2.2.2.2.2
  have hR12 := c1.2.2.2.1
  have hk3 := hkk.2.1
  refine X11_weight c1.1 hn6 (by omega) (fun q => ?_) (fun q => ?_) (fun q => ?_)
  · exact X12_weight r1.1 hn6 (by omega) (fun _ => ⟨rfl, n, R, F, hi⟩) (fun z => by omega) (fun z => by omega)
  · exact X12_weight r1.1 hn6 (by omega) (fun z => by omega) (fun _ => ⟨rfl, n, R, F, hi⟩) (fun z => by omega)
  · exact X12_weight (by rw [wr_ne (by decide), wr_ne (by decide)]; exact r1.1) hn6 (by omega) (fun z => by omega) (fun z => by omega) (fun z => ⟨rfl, n, R, F, iv_weight hi q.1 q.2⟩)
set_option maxRecDepth 100000 in
set_option maxHeartbeats 4000000 in
theorem iv_worth {σ : Mem} {n R F : Nat} {k v w : Int} (hi : IV σ n R F) (hk : 0 ≤ k ∧ k < n) (hw : ¬ (v < 0 ∨ 5 < v ∨ w < 0 ∨ 100 < w)) : IV (wr (wr σ (19 + k.toNat) v w) 71 (6 * k + v) w) (n) (R) (F) := by
  have hi0 := hi
  obtain ⟨⟨c1, c2, c3, c4, c5, c6, c7, c8, c9⟩, ⟨r1, r2, r3, r4, r5, r6, r7⟩, hdec, hper, hwor, hpl, hpr, hlim, hfac, hrul, hsc, hkk, hkp, huu, hus, huv⟩ := hi
  have hn6 := c1.2.1
  have hF6 := c1.2.2.2.2.2
  have hR12 := c1.2.2.2.1
  have hk3 := hkk.2.1
  have hu8 := huu.2
  refine ⟨⟨?_, ?_, ?_, ?_, ?_, ?_, ?_, ?_, ?_⟩, ⟨?_, ?_, ?_, ?_, ?_, ?_, ?_⟩, ?_, ?_, ?_, ?_, ?_, ?_, ?_, ?_, ?_, ?_, ?_, ?_, ?_, ?_⟩
  · exact by (try simp (disch := omega) only [wr_nj]); exact c1
  · exact fun r a b => by (try simp (disch := omega) only [wr_nj]); exact c2 r a b
  · exact fun d a b => by (try simp (disch := omega) only [wr_nj]); exact c3 d a b
  · exact fun d u a b c e => by
      have q := c4 d u a b c e
      by_cases e1 : d = k ∧ u = v
      · obtain ⟨rfl, rfl⟩ := e1
        simp (disch := omega) only [wr_nj, wr_eq]
        omega
      · simp (disch := omega) only [wr_nj]
        exact q
  · exact fun p a b => by (try simp (disch := omega) only [wr_nj]); exact c5 p a b
  · exact CB_of (by (try simp (disch := omega) only [wr_nj])) (fun k hk d => by (try simp (disch := omega) only [wr_nj])) c6
  · exact by (try simp (disch := omega) only [wr_nj]); exact c7
  · exact fun d a b => by rw [bits_dw (σ := σ) (fun r hr => by refine ⟨?_, ?_, ?_⟩ <;> simp (disch := omega) only [wr_nj])]; (try simp (disch := omega) only [wr_nj]); exact c8 d a b
  · exact fun v a b => by rw [bits_cv (σ := σ) (fun r hr => by refine ⟨?_, ?_⟩ <;> simp (disch := omega) only [wr_nj])]; (try simp (disch := omega) only [wr_nj]); exact c9 v a b
  · exact by (try simp (disch := omega) only [wr_nj]); exact r1
  · exact fun r a b => by (try simp (disch := omega) only [wr_nj]); exact r2 r a b
  · exact fun d a b => by (try simp (disch := omega) only [wr_nj]); exact r3 d a b
  · exact fun i a b => by
      have q := r4 i a b
      by_cases e1 : i = 6 * k + v
      · rw [e1, wr_eq]; omega
      · simp (disch := omega) only [wr_nj]
        exact q
  · exact fun p a b => by (try simp (disch := omega) only [wr_nj]); exact r5 p a b
  · exact by (try simp (disch := omega) only [wr_nj]); exact r6
  · exact by (try simp (disch := omega) only [wr_nj]); exact r7
  · exact fun d a b => by (try simp (disch := omega) only [wr_nj]); exact hdec d a b
  · exact fun d a b => by (try simp (disch := omega) only [wr_nj]); exact hper d a b
  · exact fun d u a b c e => by
      have q := hwor d u a b c e
      by_cases e1 : d = k ∧ u = v
      · obtain ⟨rfl, rfl⟩ := e1
        simp (disch := omega) only [wr_nj, wr_eq]
      · simp (disch := omega) only [wr_nj]
        exact q
  · exact fun d a b => by (try simp (disch := omega) only [wr_nj]); exact hpl d a b
  · exact fun d a b => by (try simp (disch := omega) only [wr_nj]); exact hpr d a b
  · exact fun p a b => by (try simp (disch := omega) only [wr_nj]); exact hlim p a b
  · exact fun f a b => by (try simp (disch := omega) only [wr_nj]); exact hfac f a b
  · exact fun r a b => by (try simp (disch := omega) only [wr_nj]); exact hrul r a b
  · exact by (try simp (disch := omega) only [wr_nj]); exact hsc
  · exact by (try simp (disch := omega) only [wr_nj]); exact hkk
  · exact fun k hk d a b => by
      (try simp (disch := omega) only [wr_nj] at hk)
      have hk2 : k < 3 := by omega
      (try simp (disch := omega) only [wr_nj])
      exact hkp k hk d a b
  · exact by (try simp (disch := omega) only [wr_nj]); exact huu
  · exact fun i hk => by (try simp (disch := omega) only [wr_nj] at hk); (try simp (disch := omega) only [wr_nj]); exact hus i hk
  · exact fun i hk d a b => by
      (try simp (disch := omega) only [wr_nj] at hk)
      have hk2 : i < 8 := by omega
      (try simp (disch := omega) only [wr_nj] at b)
      (try simp (disch := omega) only [wr_nj])
      exact huv i hk d a b
set_option maxRecDepth 100000 in
set_option maxHeartbeats 4000000 in
theorem b_worth {σ : Mem} {d : Nat} {k v w : Int} (hd : 20 ≤ d) (h : Inv σ) : Both mX11_worth mX12_worth d [.inl k, .inl v, .inl w] σ := by
  obtain ⟨n, R, F, hi⟩ := h
  have hi0 := hi
  obtain ⟨⟨c1, c2, c3, c4, c5, c6, c7, c8, c9⟩, ⟨r1, r2, r3, r4, r5, r6, r7⟩, hdec, hper, hwor, hpl, hpr, hlim, hfac, hrul, hsc, hkk, hkp, huu, hus, huv⟩ := hi0
  have hn6 := c1.2.1
  have hF6 := c1.2.2.2.2.2
  have hR12 := c1.2.2.2.1
  have hk3 := hkk.2.1
  refine X11_worth c1.1 hn6 (by omega) (fun q => ?_) (fun q => ?_) (fun q => ?_)
  · exact X12_worth r1.1 hn6 (by omega) (fun _ => ⟨rfl, n, R, F, hi⟩) (fun z => by omega) (fun z => by omega)
  · exact X12_worth r1.1 hn6 (by omega) (fun z => by omega) (fun _ => ⟨rfl, n, R, F, hi⟩) (fun z => by omega)
  · refine X12_worth (by rw [wr_ne (by omega)]; exact r1.1) hn6 (by omega) (fun z => by omega) (fun z => by omega) (fun z => ⟨?_, n, R, F, iv_worth hi q.1 q.2⟩)
    rw [wr_ne (by omega)]
    exact hwor k v (by omega) (by omega) (by omega) (by omega)
set_option maxRecDepth 100000 in
set_option maxHeartbeats 4000000 in
theorem iv_pin {σ : Mem} {n R F : Nat} {k v : Int} (hi : IV σ n R F) (hk : 0 ≤ k ∧ k < n) (hv : v = -5 ∨ (σ 12 k ≤ v ∧ v ≤ σ 13 k)) : IV (wr (wr σ 17 k v) 70 k v) (n) (R) (F) := by
  have hi0 := hi
  obtain ⟨⟨c1, c2, c3, c4, c5, c6, c7, c8, c9⟩, ⟨r1, r2, r3, r4, r5, r6, r7⟩, hdec, hper, hwor, hpl, hpr, hlim, hfac, hrul, hsc, hkk, hkp, huu, hus, huv⟩ := hi
  have hn6 := c1.2.1
  have hF6 := c1.2.2.2.2.2
  have hR12 := c1.2.2.2.1
  have hk3 := hkk.2.1
  have hu8 := huu.2
  refine ⟨⟨?_, ?_, ?_, ?_, ?_, ?_, ?_, ?_, ?_⟩, ⟨?_, ?_, ?_, ?_, ?_, ?_, ?_⟩, ?_, ?_, ?_, ?_, ?_, ?_, ?_, ?_, ?_, ?_, ?_, ?_, ?_, ?_⟩
  · exact by (try simp (disch := omega) only [wr_nj]); exact c1
  · exact fun r a b => by (try simp (disch := omega) only [wr_nj]); exact c2 r a b
  · exact fun d a b => by
      have q := c3 d a b
      by_cases e : d = k
      · subst e
        simp (disch := omega) only [wr_nj, wr_eq]
        omega
      · simp (disch := omega) only [wr_nj]
        exact c3 d a b
  · exact fun d v a b c e => by (try simp (disch := omega) only [wr_nj]); exact c4 d v a b c e
  · exact fun p a b => by (try simp (disch := omega) only [wr_nj]); exact c5 p a b
  · exact CB_of (by (try simp (disch := omega) only [wr_nj])) (fun k hk d => by (try simp (disch := omega) only [wr_nj])) c6
  · exact by (try simp (disch := omega) only [wr_nj]); exact c7
  · exact fun d a b => by rw [bits_dw (σ := σ) (fun r hr => by refine ⟨?_, ?_, ?_⟩ <;> simp (disch := omega) only [wr_nj])]; (try simp (disch := omega) only [wr_nj]); exact c8 d a b
  · exact fun v a b => by rw [bits_cv (σ := σ) (fun r hr => by refine ⟨?_, ?_⟩ <;> simp (disch := omega) only [wr_nj])]; (try simp (disch := omega) only [wr_nj]); exact c9 v a b
  · exact by (try simp (disch := omega) only [wr_nj]); exact r1
  · exact fun r a b => by (try simp (disch := omega) only [wr_nj]); exact r2 r a b
  · exact fun d a b => by
      have q9 := hdec d a b
      have q := r3 d a b
      by_cases e : d = k
      · subst e
        simp (disch := omega) only [wr_nj, wr_eq]
        omega
      · simp (disch := omega) only [wr_nj]
        exact r3 d a b
  · exact fun i a b => by (try simp (disch := omega) only [wr_nj]); exact r4 i a b
  · exact fun p a b => by (try simp (disch := omega) only [wr_nj]); exact r5 p a b
  · exact by (try simp (disch := omega) only [wr_nj]); exact r6
  · exact by (try simp (disch := omega) only [wr_nj]); exact r7
  · exact fun d a b => by
      have q := hdec d a b
      by_cases e : d = k
      · subst e
        simp (disch := omega) only [wr_nj, wr_eq]
        refine ⟨?_, ?_, ?_, ?_, ?_, ?_⟩ <;> first | trivial | omega
      · simp (disch := omega) only [wr_nj]
        exact hdec d a b
  · exact fun d a b => by (try simp (disch := omega) only [wr_nj]); exact hper d a b
  · exact fun d v a b c e => by (try simp (disch := omega) only [wr_nj]); exact hwor d v a b c e
  · exact fun d a b => by (try simp (disch := omega) only [wr_nj]); exact hpl d a b
  · exact fun d a b => by (try simp (disch := omega) only [wr_nj]); exact hpr d a b
  · exact fun p a b => by (try simp (disch := omega) only [wr_nj]); exact hlim p a b
  · exact fun f a b => by (try simp (disch := omega) only [wr_nj]); exact hfac f a b
  · exact fun r a b => by (try simp (disch := omega) only [wr_nj]); exact hrul r a b
  · exact by (try simp (disch := omega) only [wr_nj]); exact hsc
  · exact by (try simp (disch := omega) only [wr_nj]); exact hkk
  · exact fun k hk d a b => by
      (try simp (disch := omega) only [wr_nj] at hk)
      have hk2 : k < 3 := by omega
      (try simp (disch := omega) only [wr_nj])
      exact hkp k hk d a b
  · exact by (try simp (disch := omega) only [wr_nj]); exact huu
  · exact fun i hk => by (try simp (disch := omega) only [wr_nj] at hk); (try simp (disch := omega) only [wr_nj]); exact hus i hk
  · exact fun i hk d a b => by
      (try simp (disch := omega) only [wr_nj] at hk)
      have hk2 : i < 8 := by omega
      (try simp (disch := omega) only [wr_nj] at b)
      (try simp (disch := omega) only [wr_nj])
      exact huv i hk d a b
set_option maxRecDepth 100000 in
set_option maxHeartbeats 4000000 in
theorem b_pin {σ : Mem} {d : Nat} {k v : Int} (hd : 20 ≤ d) (h : Inv σ) : Both mX11_pin mX12_pin d [.inl k, .inl v] σ := by
  obtain ⟨n, R, F, hi⟩ := h
  have hi0 := hi
  obtain ⟨⟨c1, c2, c3, c4, c5, c6, c7, c8, c9⟩, ⟨r1, r2, r3, r4, r5, r6, r7⟩, hdec, hper, hwor, hpl, hpr, hlim, hfac, hrul, hsc, hkk, hkp, huu, hus, huv⟩ := hi0
  have hn6 := c1.2.1
  have hF6 := c1.2.2.2.2.2
  have hR12 := c1.2.2.2.1
  have hk3 := hkk.2.1
  refine X11_pin c1.1 hn6 (by omega) (fun q => ?_) (fun q => ?_) (fun q => ?_)
  · exact X12_pin r1.1 hn6 (by omega) (fun _ => ⟨rfl, n, R, F, hi⟩) (fun z => by omega) (fun z => by omega)
  · have q9 := hdec k q.1.1 q.1.2
    exact X12_pin r1.1 hn6 (by omega) (fun z => by omega) (fun _ => ⟨rfl, n, R, F, hi⟩) (fun z => by omega)
  · have q9 := hdec k q.1.1 q.1.2
    refine X12_pin (by rw [wr_ne (by decide)]; exact r1.1) hn6 (by omega) (fun z => by omega) (fun z => ?_) (fun z => ⟨rfl, n, R, F, iv_pin hi q.1 q.2⟩)
    simp (disch := omega) only [wr_nj] at z
    omega
set_option maxRecDepth 100000 in
set_option maxHeartbeats 4000000 in
theorem iv_limit {σ : Mem} {n R F : Nat} {w v : Int} (hi : IV σ n R F) (hw : ¬ (w < 0 ∨ 3 < w ∨ v < 0 ∨ 6 < v)) : IV (wr (wr σ 25 w v) 73 w v) (n) (R) (F) := by
  have hi0 := hi
  obtain ⟨⟨c1, c2, c3, c4, c5, c6, c7, c8, c9⟩, ⟨r1, r2, r3, r4, r5, r6, r7⟩, hdec, hper, hwor, hpl, hpr, hlim, hfac, hrul, hsc, hkk, hkp, huu, hus, huv⟩ := hi
  have hn6 := c1.2.1
  have hF6 := c1.2.2.2.2.2
  have hR12 := c1.2.2.2.1
  have hk3 := hkk.2.1
  have hu8 := huu.2
  refine ⟨⟨?_, ?_, ?_, ?_, ?_, ?_, ?_, ?_, ?_⟩, ⟨?_, ?_, ?_, ?_, ?_, ?_, ?_⟩, ?_, ?_, ?_, ?_, ?_, ?_, ?_, ?_, ?_, ?_, ?_, ?_, ?_, ?_⟩
  · exact by (try simp (disch := omega) only [wr_nj]); exact c1
  · exact fun r a b => by (try simp (disch := omega) only [wr_nj]); exact c2 r a b
  · exact fun d a b => by (try simp (disch := omega) only [wr_nj]); exact c3 d a b
  · exact fun d v a b c e => by (try simp (disch := omega) only [wr_nj]); exact c4 d v a b c e
  · exact fun p a b => by
      have q := c5 p a b
      by_cases e : p = w
      · subst e
        simp (disch := omega) only [wr_nj, wr_eq]
        omega
      · simp (disch := omega) only [wr_nj]
        exact c5 p a b
  · exact CB_of (by (try simp (disch := omega) only [wr_nj])) (fun k hk d => by (try simp (disch := omega) only [wr_nj])) c6
  · exact by (try simp (disch := omega) only [wr_nj]); exact c7
  · exact fun d a b => by rw [bits_dw (σ := σ) (fun r hr => by refine ⟨?_, ?_, ?_⟩ <;> simp (disch := omega) only [wr_nj])]; (try simp (disch := omega) only [wr_nj]); exact c8 d a b
  · exact fun v a b => by rw [bits_cv (σ := σ) (fun r hr => by refine ⟨?_, ?_⟩ <;> simp (disch := omega) only [wr_nj])]; (try simp (disch := omega) only [wr_nj]); exact c9 v a b
  · exact by (try simp (disch := omega) only [wr_nj]); exact r1
  · exact fun r a b => by (try simp (disch := omega) only [wr_nj]); exact r2 r a b
  · exact fun d a b => by (try simp (disch := omega) only [wr_nj]); exact r3 d a b
  · exact fun i a b => by (try simp (disch := omega) only [wr_nj]); exact r4 i a b
  · exact fun p a b => by
      have q := r5 p a b
      by_cases e : p = w
      · subst e
        simp (disch := omega) only [wr_nj, wr_eq]
        omega
      · simp (disch := omega) only [wr_nj]
        exact r5 p a b
  · exact by (try simp (disch := omega) only [wr_nj]); exact r6
  · exact by (try simp (disch := omega) only [wr_nj]); exact r7
  · exact fun d a b => by (try simp (disch := omega) only [wr_nj]); exact hdec d a b
  · exact fun d a b => by (try simp (disch := omega) only [wr_nj]); exact hper d a b
  · exact fun d v a b c e => by (try simp (disch := omega) only [wr_nj]); exact hwor d v a b c e
  · exact fun d a b => by (try simp (disch := omega) only [wr_nj]); exact hpl d a b
  · exact fun d a b => by (try simp (disch := omega) only [wr_nj]); exact hpr d a b
  · exact fun p a b => by
      have q := hlim p a b
      by_cases e : p = w
      · subst e
        simp (disch := omega) only [wr_nj, wr_eq]
      · simp (disch := omega) only [wr_nj]
        exact hlim p a b
  · exact fun f a b => by (try simp (disch := omega) only [wr_nj]); exact hfac f a b
  · exact fun r a b => by (try simp (disch := omega) only [wr_nj]); exact hrul r a b
  · exact by (try simp (disch := omega) only [wr_nj]); exact hsc
  · exact by (try simp (disch := omega) only [wr_nj]); exact hkk
  · exact fun k hk d a b => by
      (try simp (disch := omega) only [wr_nj] at hk)
      have hk2 : k < 3 := by omega
      (try simp (disch := omega) only [wr_nj])
      exact hkp k hk d a b
  · exact by (try simp (disch := omega) only [wr_nj]); exact huu
  · exact fun i hk => by (try simp (disch := omega) only [wr_nj] at hk); (try simp (disch := omega) only [wr_nj]); exact hus i hk
  · exact fun i hk d a b => by
      (try simp (disch := omega) only [wr_nj] at hk)
      have hk2 : i < 8 := by omega
      (try simp (disch := omega) only [wr_nj] at b)
      (try simp (disch := omega) only [wr_nj])
      exact huv i hk d a b
set_option maxRecDepth 100000 in
set_option maxHeartbeats 4000000 in
theorem b_limit {σ : Mem} {d : Nat} {w v : Int} (hd : 20 ≤ d) (h : Inv σ) : Both mX11_limit mX12_limit d [.inl w, .inl v] σ := by
  obtain ⟨n, R, F, hi⟩ := h
  have hi0 := hi
  obtain ⟨⟨c1, c2, c3, c4, c5, c6, c7, c8, c9⟩, ⟨r1, r2, r3, r4, r5, r6, r7⟩, hdec, hper, hwor, hpl, hpr, hlim, hfac, hrul, hsc, hkk, hkp, huu, hus, huv⟩ := hi0
  have hn6 := c1.2.1
  have hF6 := c1.2.2.2.2.2
  have hR12 := c1.2.2.2.1
  have hk3 := hkk.2.1
  refine X11_limit (by omega) (fun q => ?_) (fun q => ?_)
  · exact X12_limit (by omega) (fun _ => ⟨rfl, n, R, F, hi⟩) (fun z => by omega)
  · refine X12_limit (by omega) (fun z => by omega) (fun z => ⟨?_, n, R, F, iv_limit hi q⟩)
    simp (disch := omega) only [wr_nj]
    exact hlim w (by omega) (by omega)
set_option maxRecDepth 100000 in
set_option maxHeartbeats 4000000 in
theorem iv_change {σ : Mem} {n R F : Nat} {k v : Int} (hi : IV σ n R F) (hk : 0 ≤ k ∧ k < F) : IV (wr (wr σ 26 k v) 74 k v) (n) (R) (F) := by
  have hi0 := hi
  obtain ⟨⟨c1, c2, c3, c4, c5, c6, c7, c8, c9⟩, ⟨r1, r2, r3, r4, r5, r6, r7⟩, hdec, hper, hwor, hpl, hpr, hlim, hfac, hrul, hsc, hkk, hkp, huu, hus, huv⟩ := hi
  have hn6 := c1.2.1
  have hF6 := c1.2.2.2.2.2
  have hR12 := c1.2.2.2.1
  have hk3 := hkk.2.1
  have hu8 := huu.2
  refine ⟨⟨?_, ?_, ?_, ?_, ?_, ?_, ?_, ?_, ?_⟩, ⟨?_, ?_, ?_, ?_, ?_, ?_, ?_⟩, ?_, ?_, ?_, ?_, ?_, ?_, ?_, ?_, ?_, ?_, ?_, ?_, ?_, ?_⟩
  · exact by (try simp (disch := omega) only [wr_nj]); exact c1
  · exact fun r a b => by (try simp (disch := omega) only [wr_nj]); exact c2 r a b
  · exact fun d a b => by (try simp (disch := omega) only [wr_nj]); exact c3 d a b
  · exact fun d v a b c e => by (try simp (disch := omega) only [wr_nj]); exact c4 d v a b c e
  · exact fun p a b => by (try simp (disch := omega) only [wr_nj]); exact c5 p a b
  · exact CB_of (by (try simp (disch := omega) only [wr_nj])) (fun k hk d => by (try simp (disch := omega) only [wr_nj])) c6
  · exact by (try simp (disch := omega) only [wr_nj]); exact c7
  · exact fun d a b => by rw [bits_dw (σ := σ) (fun r hr => by refine ⟨?_, ?_, ?_⟩ <;> simp (disch := omega) only [wr_nj])]; (try simp (disch := omega) only [wr_nj]); exact c8 d a b
  · exact fun v a b => by rw [bits_cv (σ := σ) (fun r hr => by refine ⟨?_, ?_⟩ <;> simp (disch := omega) only [wr_nj])]; (try simp (disch := omega) only [wr_nj]); exact c9 v a b
  · exact by (try simp (disch := omega) only [wr_nj]); exact r1
  · exact fun r a b => by (try simp (disch := omega) only [wr_nj]); exact r2 r a b
  · exact fun d a b => by (try simp (disch := omega) only [wr_nj]); exact r3 d a b
  · exact fun i a b => by (try simp (disch := omega) only [wr_nj]); exact r4 i a b
  · exact fun p a b => by (try simp (disch := omega) only [wr_nj]); exact r5 p a b
  · exact by (try simp (disch := omega) only [wr_nj]); exact r6
  · exact by (try simp (disch := omega) only [wr_nj]); exact r7
  · exact fun d a b => by (try simp (disch := omega) only [wr_nj]); exact hdec d a b
  · exact fun d a b => by (try simp (disch := omega) only [wr_nj]); exact hper d a b
  · exact fun d v a b c e => by (try simp (disch := omega) only [wr_nj]); exact hwor d v a b c e
  · exact fun d a b => by (try simp (disch := omega) only [wr_nj]); exact hpl d a b
  · exact fun d a b => by (try simp (disch := omega) only [wr_nj]); exact hpr d a b
  · exact fun p a b => by (try simp (disch := omega) only [wr_nj]); exact hlim p a b
  · exact fun f a b => by
      have q := hfac f a b
      by_cases e : f = k
      · subst e
        simp (disch := omega) only [wr_nj, wr_eq]
      · simp (disch := omega) only [wr_nj]
        exact hfac f a b
  · exact fun r a b => by (try simp (disch := omega) only [wr_nj]); exact hrul r a b
  · exact by (try simp (disch := omega) only [wr_nj]); exact hsc
  · exact by (try simp (disch := omega) only [wr_nj]); exact hkk
  · exact fun k hk d a b => by
      (try simp (disch := omega) only [wr_nj] at hk)
      have hk2 : k < 3 := by omega
      (try simp (disch := omega) only [wr_nj])
      exact hkp k hk d a b
  · exact by (try simp (disch := omega) only [wr_nj]); exact huu
  · exact fun i hk => by (try simp (disch := omega) only [wr_nj] at hk); (try simp (disch := omega) only [wr_nj]); exact hus i hk
  · exact fun i hk d a b => by
      (try simp (disch := omega) only [wr_nj] at hk)
      have hk2 : i < 8 := by omega
      (try simp (disch := omega) only [wr_nj] at b)
      (try simp (disch := omega) only [wr_nj])
      exact huv i hk d a b
set_option maxRecDepth 100000 in
set_option maxHeartbeats 4000000 in
theorem b_change {σ : Mem} {d : Nat} {k v : Int} (hd : 20 ≤ d) (h : Inv σ) : Both mX11_change mX12_change d [.inl k, .inl v] σ := by
  obtain ⟨n, R, F, hi⟩ := h
  have hi0 := hi
  obtain ⟨⟨c1, c2, c3, c4, c5, c6, c7, c8, c9⟩, ⟨r1, r2, r3, r4, r5, r6, r7⟩, hdec, hper, hwor, hpl, hpr, hlim, hfac, hrul, hsc, hkk, hkp, huu, hus, huv⟩ := hi0
  have hn6 := c1.2.1
  have hF6 := c1.2.2.2.2.2
  have hR12 := c1.2.2.2.1
  have hk3 := hkk.2.1
  refine X11_change c1.2.2.2.2.1 hF6 (by omega) (fun q => ?_) (fun q => ?_) (fun q => ?_)
  · exact X12_change r1.2.2.2.2.1 hF6 (by omega) (fun _ => ⟨rfl, n, R, F, hi⟩) (fun z => by omega) (fun z => by omega)
  · exact X12_change r1.2.2.2.2.1 hF6 (by omega) (fun z => by omega) (fun _ => ⟨rfl, n, R, F, hi⟩) (fun z => by omega)
  · refine X12_change (by rw [wr_ne (by decide)]; exact r1.2.2.2.2.1) hF6 (by omega) (fun z => by omega) (fun z => by omega) (fun z => ⟨?_, n, R, F, iv_change hi q.1⟩)
    simp (disch := omega) only [wr_nj]
    exact hfac k (by omega) (by omega)
set_option maxRecDepth 100000 in
set_option maxHeartbeats 4000000 in
theorem iv_fact {σ : Mem} {n R F : Nat} {v : Int} (hi : IV σ n R F) (hf : F < 6) : IV (wr (wr (wr (wr σ 26 (F : Int) v) 2 0 ((F : Int) + 1)) 74 (F : Int) v) 64 10 ((F : Int) + 1)) (n) (R) (F + 1) := by
  have hi0 := hi
  obtain ⟨⟨c1, c2, c3, c4, c5, c6, c7, c8, c9⟩, ⟨r1, r2, r3, r4, r5, r6, r7⟩, hdec, hper, hwor, hpl, hpr, hlim, hfac, hrul, hsc, hkk, hkp, huu, hus, huv⟩ := hi
  have hn6 := c1.2.1
  have hF6 := c1.2.2.2.2.2
  have hR12 := c1.2.2.2.1
  have hk3 := hkk.2.1
  have hu8 := huu.2
  refine ⟨⟨?_, ?_, ?_, ?_, ?_, ?_, ?_, ?_, ?_⟩, ⟨?_, ?_, ?_, ?_, ?_, ?_, ?_⟩, ?_, ?_, ?_, ?_, ?_, ?_, ?_, ?_, ?_, ?_, ?_, ?_, ?_, ?_⟩
  · exact by simp (disch := omega) only [wr_nj, wr_eq]; omega
  · exact fun r a b => by simp (disch := omega) only [wr_nj]; have q := c2 r a b; exact ⟨q.1, q.2.1, q.2.2.1, by omega, q.2.2.2.2⟩
  · exact fun d a b => by (try simp (disch := omega) only [wr_nj]); exact c3 d a b
  · exact fun d v a b c e => by (try simp (disch := omega) only [wr_nj]); exact c4 d v a b c e
  · exact fun p a b => by (try simp (disch := omega) only [wr_nj]); exact c5 p a b
  · exact CB_of (by (try simp (disch := omega) only [wr_nj])) (fun k hk d => by (try simp (disch := omega) only [wr_nj])) c6
  · exact by (try simp (disch := omega) only [wr_nj]); exact c7
  · exact fun d a b => by rw [bits_dw (σ := σ) (fun r hr => by refine ⟨?_, ?_, ?_⟩ <;> simp (disch := omega) only [wr_nj])]; (try simp (disch := omega) only [wr_nj]); exact c8 d a b
  · exact fun v a b => by rw [bits_cv (σ := σ) (fun r hr => by refine ⟨?_, ?_⟩ <;> simp (disch := omega) only [wr_nj])]; (try simp (disch := omega) only [wr_nj]); exact c9 v a b
  · exact by simp (disch := omega) only [wr_nj, wr_eq]; omega
  · exact fun r a b => by simp (disch := omega) only [wr_nj]; have q := r2 r a b; exact ⟨q.1, q.2.1, q.2.2.1, by omega, q.2.2.2.2⟩
  · exact fun d a b => by (try simp (disch := omega) only [wr_nj]); exact r3 d a b
  · exact fun i a b => by (try simp (disch := omega) only [wr_nj]); exact r4 i a b
  · exact fun p a b => by (try simp (disch := omega) only [wr_nj]); exact r5 p a b
  · exact by (try simp (disch := omega) only [wr_nj]); exact r6
  · exact by (try simp (disch := omega) only [wr_nj]); exact r7
  · exact fun d a b => by (try simp (disch := omega) only [wr_nj]); exact hdec d a b
  · exact fun d a b => by (try simp (disch := omega) only [wr_nj]); exact hper d a b
  · exact fun d v a b c e => by (try simp (disch := omega) only [wr_nj]); exact hwor d v a b c e
  · exact fun d a b => by (try simp (disch := omega) only [wr_nj]); exact hpl d a b
  · exact fun d a b => by (try simp (disch := omega) only [wr_nj]); exact hpr d a b
  · exact fun p a b => by (try simp (disch := omega) only [wr_nj]); exact hlim p a b
  · exact fun f a b => by
      have q := hfac f a b
      by_cases e : f = (F : Int)
      · subst e
        simp (disch := omega) only [wr_nj, wr_eq]
      · simp (disch := omega) only [wr_nj]
        exact hfac f a b
  · exact fun r a b => by (try simp (disch := omega) only [wr_nj]); exact hrul r a b
  · exact by (try simp (disch := omega) only [wr_nj]); exact hsc
  · exact by (try simp (disch := omega) only [wr_nj]); exact hkk
  · exact fun k hk d a b => by
      (try simp (disch := omega) only [wr_nj] at hk)
      have hk2 : k < 3 := by omega
      (try simp (disch := omega) only [wr_nj])
      exact hkp k hk d a b
  · exact by (try simp (disch := omega) only [wr_nj]); exact huu
  · exact fun i hk => by (try simp (disch := omega) only [wr_nj] at hk); (try simp (disch := omega) only [wr_nj]); exact hus i hk
  · exact fun i hk d a b => by
      (try simp (disch := omega) only [wr_nj] at hk)
      have hk2 : i < 8 := by omega
      (try simp (disch := omega) only [wr_nj] at b)
      (try simp (disch := omega) only [wr_nj])
      exact huv i hk d a b
set_option maxRecDepth 100000 in
set_option maxHeartbeats 4000000 in
theorem b_fact {σ : Mem} {d : Nat} {v : Int} (hd : 20 ≤ d) (h : Inv σ) : Both mX11_fact mX12_fact d [.inl v] σ := by
  obtain ⟨n, R, F, hi⟩ := h
  have hi0 := hi
  obtain ⟨⟨c1, c2, c3, c4, c5, c6, c7, c8, c9⟩, ⟨r1, r2, r3, r4, r5, r6, r7⟩, hdec, hper, hwor, hpl, hpr, hlim, hfac, hrul, hsc, hkk, hkp, huu, hus, huv⟩ := hi0
  have hn6 := c1.2.1
  have hF6 := c1.2.2.2.2.2
  have hR12 := c1.2.2.2.1
  have hk3 := hkk.2.1
  refine X11_fact c1.2.2.2.2.1 hF6 (by omega) (fun q => ?_) (fun q => ?_) (fun q => ?_) (fun q => ?_)
  · exact X12_fact r1.2.2.2.2.1 hF6 (by omega) (fun _ => ⟨rfl, n, R, F, hi⟩) (fun z => by omega) (fun z => by omega) (fun z => by omega)
  · exact X12_fact r1.2.2.2.2.1 hF6 (by omega) (fun z => by omega) (fun _ => ⟨rfl, n, R, F, hi⟩) (fun z => by omega) (fun z => by omega)
  · exact X12_fact r1.2.2.2.2.1 hF6 (by omega) (fun z => by omega) (fun z => by omega) (fun _ => ⟨rfl, n, R, F, hi⟩) (fun z => by omega)
  · refine X12_fact (F := F) (by simp (disch := omega) only [wr_nj]; exact r1.2.2.2.2.1) hF6 (by omega) (fun z => by omega) (fun z => ?_) (fun z => by omega) (fun z => ⟨rfl, n, R, F + 1, iv_fact hi (by omega)⟩)
    simp (disch := omega) only [wr_nj] at z
    omega
set_option maxRecDepth 100000 in
set_option maxHeartbeats 4000000 in
theorem iv_first {σ : Mem} {n R F : Nat} {v : Int} (hi : IV σ n R F) (hv : 0 ≤ v ∧ v ≤ 1) : IV (wr (wr σ 0 11 v) 64 17 v) (n) (R) (F) := by
  have hi0 := hi
  obtain ⟨⟨c1, c2, c3, c4, c5, c6, c7, c8, c9⟩, ⟨r1, r2, r3, r4, r5, r6, r7⟩, hdec, hper, hwor, hpl, hpr, hlim, hfac, hrul, hsc, hkk, hkp, huu, hus, huv⟩ := hi
  have hn6 := c1.2.1
  have hF6 := c1.2.2.2.2.2
  have hR12 := c1.2.2.2.1
  have hk3 := hkk.2.1
  have hu8 := huu.2
  refine ⟨⟨?_, ?_, ?_, ?_, ?_, ?_, ?_, ?_, ?_⟩, ⟨?_, ?_, ?_, ?_, ?_, ?_, ?_⟩, ?_, ?_, ?_, ?_, ?_, ?_, ?_, ?_, ?_, ?_, ?_, ?_, ?_, ?_⟩
  · exact by (try simp (disch := omega) only [wr_nj]); exact c1
  · exact fun r a b => by (try simp (disch := omega) only [wr_nj]); exact c2 r a b
  · exact fun d a b => by (try simp (disch := omega) only [wr_nj]); exact c3 d a b
  · exact fun d v a b c e => by (try simp (disch := omega) only [wr_nj]); exact c4 d v a b c e
  · exact fun p a b => by (try simp (disch := omega) only [wr_nj]); exact c5 p a b
  · exact CB_of (by (try simp (disch := omega) only [wr_nj])) (fun k hk d => by (try simp (disch := omega) only [wr_nj])) c6
  · exact by simp (disch := omega) only [wr_nj, wr_eq]; omega
  · exact fun d a b => by rw [bits_dw (σ := σ) (fun r hr => by refine ⟨?_, ?_, ?_⟩ <;> simp (disch := omega) only [wr_nj])]; (try simp (disch := omega) only [wr_nj]); exact c8 d a b
  · exact fun v a b => by rw [bits_cv (σ := σ) (fun r hr => by refine ⟨?_, ?_⟩ <;> simp (disch := omega) only [wr_nj])]; (try simp (disch := omega) only [wr_nj]); exact c9 v a b
  · exact by (try simp (disch := omega) only [wr_nj]); exact r1
  · exact fun r a b => by (try simp (disch := omega) only [wr_nj]); exact r2 r a b
  · exact fun d a b => by (try simp (disch := omega) only [wr_nj]); exact r3 d a b
  · exact fun i a b => by (try simp (disch := omega) only [wr_nj]); exact r4 i a b
  · exact fun p a b => by (try simp (disch := omega) only [wr_nj]); exact r5 p a b
  · exact by (try simp (disch := omega) only [wr_nj]); exact r6
  · exact by rw [wr_eq]; omega
  · exact fun d a b => by (try simp (disch := omega) only [wr_nj]); exact hdec d a b
  · exact fun d a b => by (try simp (disch := omega) only [wr_nj]); exact hper d a b
  · exact fun d v a b c e => by (try simp (disch := omega) only [wr_nj]); exact hwor d v a b c e
  · exact fun d a b => by (try simp (disch := omega) only [wr_nj]); exact hpl d a b
  · exact fun d a b => by (try simp (disch := omega) only [wr_nj]); exact hpr d a b
  · exact fun p a b => by (try simp (disch := omega) only [wr_nj]); exact hlim p a b
  · exact fun f a b => by (try simp (disch := omega) only [wr_nj]); exact hfac f a b
  · exact fun r a b => by (try simp (disch := omega) only [wr_nj]); exact hrul r a b
  · exact by simp (disch := omega) only [wr_nj, wr_eq]; exact ⟨trivial, hsc.2⟩
  · exact by (try simp (disch := omega) only [wr_nj]); exact hkk
  · exact fun k hk d a b => by
      (try simp (disch := omega) only [wr_nj] at hk)
      have hk2 : k < 3 := by omega
      (try simp (disch := omega) only [wr_nj])
      exact hkp k hk d a b
  · exact by (try simp (disch := omega) only [wr_nj]); exact huu
  · exact fun i hk => by (try simp (disch := omega) only [wr_nj] at hk); (try simp (disch := omega) only [wr_nj]); exact hus i hk
  · exact fun i hk d a b => by
      (try simp (disch := omega) only [wr_nj] at hk)
      have hk2 : i < 8 := by omega
      (try simp (disch := omega) only [wr_nj] at b)
      (try simp (disch := omega) only [wr_nj])
      exact huv i hk d a b
set_option maxRecDepth 100000 in
set_option maxHeartbeats 4000000 in
theorem b_first {σ : Mem} {d : Nat} {v : Int} (hd : 20 ≤ d) (h : Inv σ) : Both mX11_first mX12_first d [.inl v] σ := by
  obtain ⟨n, R, F, hi⟩ := h
  have hi0 := hi
  obtain ⟨⟨c1, c2, c3, c4, c5, c6, c7, c8, c9⟩, ⟨r1, r2, r3, r4, r5, r6, r7⟩, hdec, hper, hwor, hpl, hpr, hlim, hfac, hrul, hsc, hkk, hkp, huu, hus, huv⟩ := hi0
  have hn6 := c1.2.1
  have hF6 := c1.2.2.2.2.2
  have hR12 := c1.2.2.2.1
  have hk3 := hkk.2.1
  refine X11_first (by omega) c7 (fun q => ?_) (fun q => ?_)
  · exact X12_first (by omega) (fun _ => ⟨rfl, n, R, F, hi⟩) (fun z => by omega)
  · refine X12_first (by omega) (fun z => by omega) (fun z => ⟨?_, n, R, F, iv_first hi q⟩)
    simp (disch := omega) only [wr_nj]
    exact hsc.1
set_option maxRecDepth 100000 in
set_option maxHeartbeats 4000000 in
theorem iv_put {σ : Mem} {n R F : Nat} {k v : Int} (hi : IV σ n R F) (hk : 0 ≤ k ∧ k < n) (hv : σ 12 k ≤ v ∧ v ≤ σ 13 k) : IV (wr (wr σ 11 k v) 72 k v) (n) (R) (F) := by
  have hi0 := hi
  obtain ⟨⟨c1, c2, c3, c4, c5, c6, c7, c8, c9⟩, ⟨r1, r2, r3, r4, r5, r6, r7⟩, hdec, hper, hwor, hpl, hpr, hlim, hfac, hrul, hsc, hkk, hkp, huu, hus, huv⟩ := hi
  have hn6 := c1.2.1
  have hF6 := c1.2.2.2.2.2
  have hR12 := c1.2.2.2.1
  have hk3 := hkk.2.1
  have hu8 := huu.2
  refine ⟨⟨?_, ?_, ?_, ?_, ?_, ?_, ?_, ?_, ?_⟩, ⟨?_, ?_, ?_, ?_, ?_, ?_, ?_⟩, ?_, ?_, ?_, ?_, ?_, ?_, ?_, ?_, ?_, ?_, ?_, ?_, ?_, ?_⟩
  · exact by (try simp (disch := omega) only [wr_nj]); exact c1
  · exact fun r a b => by (try simp (disch := omega) only [wr_nj]); exact c2 r a b
  · exact fun d a b => by (try simp (disch := omega) only [wr_nj]); exact c3 d a b
  · exact fun d v a b c e => by (try simp (disch := omega) only [wr_nj]); exact c4 d v a b c e
  · exact fun p a b => by (try simp (disch := omega) only [wr_nj]); exact c5 p a b
  · exact CB_of (by (try simp (disch := omega) only [wr_nj])) (fun k hk d => by (try simp (disch := omega) only [wr_nj])) c6
  · exact by (try simp (disch := omega) only [wr_nj]); exact c7
  · exact fun d a b => by rw [bits_dw (σ := σ) (fun r hr => by refine ⟨?_, ?_, ?_⟩ <;> simp (disch := omega) only [wr_nj])]; (try simp (disch := omega) only [wr_nj]); exact c8 d a b
  · exact fun v a b => by rw [bits_cv (σ := σ) (fun r hr => by refine ⟨?_, ?_⟩ <;> simp (disch := omega) only [wr_nj])]; (try simp (disch := omega) only [wr_nj]); exact c9 v a b
  · exact by (try simp (disch := omega) only [wr_nj]); exact r1
  · exact fun r a b => by (try simp (disch := omega) only [wr_nj]); exact r2 r a b
  · exact fun d a b => by (try simp (disch := omega) only [wr_nj]); exact r3 d a b
  · exact fun i a b => by (try simp (disch := omega) only [wr_nj]); exact r4 i a b
  · exact fun p a b => by (try simp (disch := omega) only [wr_nj]); exact r5 p a b
  · exact by (try simp (disch := omega) only [wr_nj]); exact r6
  · exact by (try simp (disch := omega) only [wr_nj]); exact r7
  · exact fun d a b => by (try simp (disch := omega) only [wr_nj]); exact hdec d a b
  · exact fun d a b => by (try simp (disch := omega) only [wr_nj]); exact hper d a b
  · exact fun d v a b c e => by (try simp (disch := omega) only [wr_nj]); exact hwor d v a b c e
  · exact fun d a b => by
      have q := hpl d a b
      by_cases e : d = k
      · subst e
        simp (disch := omega) only [wr_nj, wr_eq]
      · simp (disch := omega) only [wr_nj]
        exact hpl d a b
  · exact fun d a b => by
      have q := hpr d a b
      by_cases e : d = k
      · subst e
        simp (disch := omega) only [wr_nj, wr_eq]
        omega
      · simp (disch := omega) only [wr_nj]
        exact hpr d a b
  · exact fun p a b => by (try simp (disch := omega) only [wr_nj]); exact hlim p a b
  · exact fun f a b => by (try simp (disch := omega) only [wr_nj]); exact hfac f a b
  · exact fun r a b => by (try simp (disch := omega) only [wr_nj]); exact hrul r a b
  · exact by (try simp (disch := omega) only [wr_nj]); exact hsc
  · exact by (try simp (disch := omega) only [wr_nj]); exact hkk
  · exact fun k hk d a b => by
      (try simp (disch := omega) only [wr_nj] at hk)
      have hk2 : k < 3 := by omega
      (try simp (disch := omega) only [wr_nj])
      exact hkp k hk d a b
  · exact by (try simp (disch := omega) only [wr_nj]); exact huu
  · exact fun i hk => by (try simp (disch := omega) only [wr_nj] at hk); (try simp (disch := omega) only [wr_nj]); exact hus i hk
  · exact fun i hk d a b => by
      (try simp (disch := omega) only [wr_nj] at hk)
      have hk2 : i < 8 := by omega
      (try simp (disch := omega) only [wr_nj] at b)
      (try simp (disch := omega) only [wr_nj])
      exact huv i hk d a b
set_option maxRecDepth 100000 in
set_option maxHeartbeats 4000000 in
theorem b_put {σ : Mem} {d : Nat} {k v : Int} (hd : 20 ≤ d) (h : Inv σ) : Both mX11_put mX12_put d [.inl k, .inl v] σ := by
  obtain ⟨n, R, F, hi⟩ := h
  have hi0 := hi
  obtain ⟨⟨c1, c2, c3, c4, c5, c6, c7, c8, c9⟩, ⟨r1, r2, r3, r4, r5, r6, r7⟩, hdec, hper, hwor, hpl, hpr, hlim, hfac, hrul, hsc, hkk, hkp, huu, hus, huv⟩ := hi0
  have hn6 := c1.2.1
  have hF6 := c1.2.2.2.2.2
  have hR12 := c1.2.2.2.1
  have hk3 := hkk.2.1
  refine X11_put c1.1 hn6 (by omega) (fun q => ?_) (fun q => ?_) (fun q => ?_)
  · exact X12_put r1.1 hn6 (by omega) (fun _ => ⟨rfl, n, R, F, hi⟩) (fun z => by omega) (fun z => by omega)
  · have q9 := hdec k q.1.1 q.1.2
    exact X12_put r1.1 hn6 (by omega) (fun z => by omega) (fun _ => ⟨rfl, n, R, F, hi⟩) (fun z => by omega)
  · have q9 := hdec k q.1.1 q.1.2
    refine X12_put (by rw [wr_ne (by decide)]; exact r1.1) hn6 (by omega) (fun z => by omega) (fun z => ?_) (fun z => ⟨?_, n, R, F, iv_put hi q.1 q.2⟩)
    · simp (disch := omega) only [wr_nj] at z
      omega
    · simp (disch := omega) only [wr_nj]
      exact hpl k (by omega) (by omega)
set_option maxRecDepth 100000 in
set_option maxHeartbeats 4000000 in
theorem b_value {σ : Mem} {d : Nat} {k : Int} (hd : 20 ≤ d) (h : Inv σ) : Both mX11_value mX12_value d [.inl k] σ := by
  obtain ⟨n, R, F, hi⟩ := h
  have hi0 := hi
  obtain ⟨⟨c1, c2, c3, c4, c5, c6, c7, c8, c9⟩, ⟨r1, r2, r3, r4, r5, r6, r7⟩, hdec, hper, hwor, hpl, hpr, hlim, hfac, hrul, hsc, hkk, hkp, huu, hus, huv⟩ := hi0
  have hn6 := c1.2.1
  have hF6 := c1.2.2.2.2.2
  have hR12 := c1.2.2.2.1
  have hk3 := hkk.2.1
  refine X11_value c1.1 hn6 (by omega) (fun q => ?_) (fun q => ?_)
  · exact X12_value r1.1 hn6 (by omega) (fun _ => ⟨rfl, n, R, F, hi⟩) (fun z => by omega)
  · exact X12_value r1.1 hn6 (by omega) (fun z => by omega) (fun _ => ⟨hpl k (by omega) (by omega), n, R, F, hi⟩)
