set_option maxRecDepth 100000 in
set_option maxHeartbeats 4000000 in
theorem X0_begin {d : Nat} {b : Int} {σ : Mem} {K : Mem → Prop} (hb : b = 0 ∨ b = 1) (hk0 : K (wr (wr σ 7 0 0) 7 3 b)) : Run mX0_begin d [.inr (some 7), .inl b] σ (RV K) := by
  refine Run_of (ls := [.inr (some 7), .inl b]) (by decide) (Nat.le_of_ble_eq_true rfl) rfl ?_
  refine v_aload0 1 dX0_begin_0 rfl ?_
  refine v_iconst 2 dX0_begin_1 rfl ⟨by decide +kernel, by decide⟩ ?_
  refine v_putZ 5 0 dX0_begin_2 rfl pX0_9 rfl rfl rfl (Or.inl rfl) ?_
  refine v_aload0 6 dX0_begin_5 rfl ?_
  refine v_iload1 7 dX0_begin_6 rfl ?_
  refine v_putZ 10 3 dX0_begin_7 rfl pX0_22 rfl rfl rfl hb ?_
  refine v_vretV dX0_begin_10 rfl ?_
  exact hk0
set_option maxRecDepth 100000 in
set_option maxHeartbeats 4000000 in
theorem X0_isHopeless {d : Nat} {c w : Int} {b : Nat} {σ : Mem} {K : Int → Mem → Prop} (ht : (b ≠ 0 ∨ (σ 7 0 ≠ 0 ∧ ((σ 7 3 ≠ 0 ∧ (w < σ 7 2 ∨ (w = σ 7 2 ∧ σ 7 1 ≤ c))) ∨ (σ 7 3 = 0 ∧ (σ 7 1 < c ∨ (c = σ 7 1 ∧ w ≤ σ 7 2)))))) → K 1 σ) (hf : ¬ (b ≠ 0 ∨ (σ 7 0 ≠ 0 ∧ ((σ 7 3 ≠ 0 ∧ (w < σ 7 2 ∨ (w = σ 7 2 ∧ σ 7 1 ≤ c))) ∨ (σ 7 3 = 0 ∧ (σ 7 1 < c ∨ (c = σ 7 1 ∧ w ≤ σ 7 2)))))) → K 0 σ) : Run mX0_isHopeless d [.inr (some 7), .inl c, .inl w, .inl (b : Int)] σ (RI K) := by
  refine Run_of (ls := [.inr (some 7), .inl c, .inl w, .inl (b : Int)]) (by decide) (Nat.le_of_ble_eq_true rfl) rfl ?_
  refine v_iload3 1 dX0_isHopeless_0 rfl ?_
  refine v_if_eq 6 4 dX0_isHopeless_1 rfl rfl (fun h1 => ?_) (fun h1 => ?_)
  · skip
    refine v_aload0 7 dX0_isHopeless_6 rfl ?_
    refine v_getI 10 0 dX0_isHopeless_7 rfl fX0_9 rfl rfl rfl ?_
    refine v_if_ne 15 13 dX0_isHopeless_10 rfl rfl (fun h10 => ?_) (fun h10 => ?_)
    · skip
      refine v_aload0 16 dX0_isHopeless_15 rfl ?_
      refine v_getI 19 3 dX0_isHopeless_16 rfl fX0_22 rfl rfl rfl ?_
      refine v_if_eq 52 22 dX0_isHopeless_19 rfl rfl (fun h19 => ?_) (fun h19 => ?_)
      · skip
        refine v_iload1 53 dX0_isHopeless_52 rfl ?_
        refine v_aload0 54 dX0_isHopeless_53 rfl ?_
        refine v_getI 57 1 dX0_isHopeless_54 rfl fX0_15 rfl rfl rfl ?_
        refine v_icmp_gt 76 60 dX0_isHopeless_57 rfl rfl (fun h57 => ?_) (fun h57 => ?_)
        · skip
          refine v_iconst 77 dX0_isHopeless_76 rfl ⟨by decide +kernel, by decide⟩ ?_
          refine v_goto 81 dX0_isHopeless_77 rfl ?_
          refine v_zretI dX0_isHopeless_81 rfl (Or.inr rfl) ?_
          first | exact ht (by omega) | exact hf (by omega)
        · skip
          refine v_iload1 61 dX0_isHopeless_60 rfl ?_
          refine v_aload0 62 dX0_isHopeless_61 rfl ?_
          refine v_getI 65 1 dX0_isHopeless_62 rfl fX0_15 rfl rfl rfl ?_
          refine v_icmp_ne 80 68 dX0_isHopeless_65 rfl rfl (fun h65 => ?_) (fun h65 => ?_)
          · skip
            refine v_iconst 81 dX0_isHopeless_80 rfl ⟨by decide +kernel, by decide⟩ ?_
            refine v_zretI dX0_isHopeless_81 rfl (Or.inl rfl) ?_
            first | exact ht (by omega) | exact hf (by omega)
          · skip
            refine v_iload2 69 dX0_isHopeless_68 rfl ?_
            refine v_aload0 70 dX0_isHopeless_69 rfl ?_
            refine v_getI 73 2 dX0_isHopeless_70 rfl fX0_19 rfl rfl rfl ?_
            refine v_icmp_gt 80 76 dX0_isHopeless_73 rfl rfl (fun h73 => ?_) (fun h73 => ?_)
            · skip
              refine v_iconst 81 dX0_isHopeless_80 rfl ⟨by decide +kernel, by decide⟩ ?_
              refine v_zretI dX0_isHopeless_81 rfl (Or.inl rfl) ?_
              first | exact ht (by omega) | exact hf (by omega)
            · skip
              refine v_iconst 77 dX0_isHopeless_76 rfl ⟨by decide +kernel, by decide⟩ ?_
              refine v_goto 81 dX0_isHopeless_77 rfl ?_
              refine v_zretI dX0_isHopeless_81 rfl (Or.inr rfl) ?_
              first | exact ht (by omega) | exact hf (by omega)
      · skip
        refine v_iload2 23 dX0_isHopeless_22 rfl ?_
        refine v_aload0 24 dX0_isHopeless_23 rfl ?_
        refine v_getI 27 2 dX0_isHopeless_24 rfl fX0_19 rfl rfl rfl ?_
        refine v_icmp_lt 46 30 dX0_isHopeless_27 rfl rfl (fun h27 => ?_) (fun h27 => ?_)
        · skip
          refine v_iconst 47 dX0_isHopeless_46 rfl ⟨by decide +kernel, by decide⟩ ?_
          refine v_goto 51 dX0_isHopeless_47 rfl ?_
          refine v_zretI dX0_isHopeless_51 rfl (Or.inr rfl) ?_
          first | exact ht (by omega) | exact hf (by omega)
        · skip
          refine v_iload2 31 dX0_isHopeless_30 rfl ?_
          refine v_aload0 32 dX0_isHopeless_31 rfl ?_
          refine v_getI 35 2 dX0_isHopeless_32 rfl fX0_19 rfl rfl rfl ?_
          refine v_icmp_ne 50 38 dX0_isHopeless_35 rfl rfl (fun h35 => ?_) (fun h35 => ?_)
          · skip
            refine v_iconst 51 dX0_isHopeless_50 rfl ⟨by decide +kernel, by decide⟩ ?_
            refine v_zretI dX0_isHopeless_51 rfl (Or.inl rfl) ?_
            first | exact ht (by omega) | exact hf (by omega)
          · skip
            refine v_iload1 39 dX0_isHopeless_38 rfl ?_
            refine v_aload0 40 dX0_isHopeless_39 rfl ?_
            refine v_getI 43 1 dX0_isHopeless_40 rfl fX0_15 rfl rfl rfl ?_
            refine v_icmp_lt 50 46 dX0_isHopeless_43 rfl rfl (fun h43 => ?_) (fun h43 => ?_)
            · skip
              refine v_iconst 51 dX0_isHopeless_50 rfl ⟨by decide +kernel, by decide⟩ ?_
              refine v_zretI dX0_isHopeless_51 rfl (Or.inl rfl) ?_
              first | exact ht (by omega) | exact hf (by omega)
            · skip
              refine v_iconst 47 dX0_isHopeless_46 rfl ⟨by decide +kernel, by decide⟩ ?_
              refine v_goto 51 dX0_isHopeless_47 rfl ?_
              refine v_zretI dX0_isHopeless_51 rfl (Or.inr rfl) ?_
              first | exact ht (by omega) | exact hf (by omega)
    · skip
      refine v_iconst 14 dX0_isHopeless_13 rfl ⟨by decide +kernel, by decide⟩ ?_
      refine v_zretI dX0_isHopeless_14 rfl (Or.inl rfl) ?_
      first | exact ht (by omega) | exact hf (by omega)
  · skip
    refine v_iconst 5 dX0_isHopeless_4 rfl ⟨by decide +kernel, by decide⟩ ?_
    refine v_zretI dX0_isHopeless_5 rfl (Or.inr rfl) ?_
    first | exact ht (by omega) | exact hf (by omega)
set_option maxRecDepth 100000 in
set_option maxHeartbeats 4000000 in
theorem X0_reach {d : Nat} {c w b : Int} {σ : Mem} {K : Mem → Prop} (hd : 1 ≤ d) (hk0 : K (cp (wr (wr (wr σ 7 0 1) 7 1 c) 7 2 w) 54 0 56 0 6)) : Run mX0_reach d [.inr (some 7), .inr (some 54), .inl c, .inl w, .inl b] σ (RV K) := by
  refine Run_of (ls := [.inr (some 7), .inr (some 54), .inl c, .inl w, .inl b]) (by decide) (Nat.le_of_ble_eq_true rfl) rfl ?_
  refine v_aload0 1 dX0_reach_0 rfl ?_
  refine v_iconst 2 dX0_reach_1 rfl ⟨by decide +kernel, by decide⟩ ?_
  refine v_putZ 5 0 dX0_reach_2 rfl pX0_9 rfl rfl rfl (Or.inr rfl) ?_
  refine v_aload0 6 dX0_reach_5 rfl ?_
  refine v_iload2 7 dX0_reach_6 rfl ?_
  refine v_putI 10 1 dX0_reach_7 rfl pX0_15 rfl rfl rfl ?_
  refine v_aload0 11 dX0_reach_10 rfl ?_
  refine v_iload3 12 dX0_reach_11 rfl ?_
  refine v_putI 15 2 dX0_reach_12 rfl pX0_19 rfl rfl rfl ?_
  refine v_aload1 16 dX0_reach_15 rfl ?_
  refine v_iconst 17 dX0_reach_16 rfl ⟨by decide +kernel, by decide⟩ ?_
  refine v_aload0 18 dX0_reach_17 rfl ?_
  refine v_getR 21 dX0_reach_18 rfl fX0_25 rfl rfl ?_
  refine v_iconst 22 dX0_reach_21 rfl ⟨by decide +kernel, by decide⟩ ?_
  refine v_bipush 24 dX0_reach_22 rfl ⟨by decide +kernel, by decide⟩ ?_
  refine v_copy 27 dX0_reach_24 rfl kX0_29 (by omega) rfl rfl (by omega) ?_
  refine v_vretV dX0_reach_27 rfl ?_
  exact hk0
set_option maxRecDepth 100000 in
set_option maxHeartbeats 4000000 in
def RelB (bw : Int) (n : Nat) (τ : Mem) (s : Option (Int × Int × List Int)) : Prop := τ 7 3 = bw ∧ match s with
  | none => τ 7 0 = 0
  | some (c, w, l) => τ 7 0 = 1 ∧ τ 7 1 = c ∧ τ 7 2 = w ∧ lst (τ 56) 0 n = l
def hopB (bw : Int) (s : Option (Int × Int × List Int)) (c w : Int) (b : Nat) : Prop := b ≠ 0 ∨ match s with
  | none => False
  | some (c0, w0, _) => (bw ≠ 0 ∧ (w < w0 ∨ (w = w0 ∧ c0 ≤ c))) ∨ (bw = 0 ∧ (c0 < c ∨ (c = c0 ∧ w ≤ w0)))
def rchB (_ : Option (Int × Int × List Int)) (l : List Int) (c w : Int) (_ : Nat) : Option (Int × Int × List Int) := some (c, w, l)
theorem GS_best (bw : Int) {n : Nat} (hn : n ≤ 6) : GS (RelB bw n) (hopB bw) rchB (fun _ => 0) mX0_isHopeless mX0_reach 7 n (fun c => c = 7 ∨ c = 56) := by
  refine ⟨⟨_, _, _, _, rfl, rfl, rfl⟩, kX10_82_0, kX10_88_0, fun c h => by omega, fun τ υ s h he => ?_, fun d τ s c w b K hd hr hb ht hf => ?_, fun d τ s c w b l K hd hr hb hl hwt hh hk => ?_, fun τ s c w b c' w' b' hr h1 h2 h3 h4 h5 => ?_, fun _ _ _ _ _ => Nat.zero_le _⟩
  · unfold RelB at *
    rw [he 7 (Or.inl rfl), he 56 (Or.inr rfl)]
    exact h
  · refine X0_isHopeless (fun h => ht ?_) (fun h => hf ?_)
    · unfold hopB
      rcases h with h | ⟨h1, h2⟩
      · exact Or.inl h
      · refine Or.inr ?_
        obtain ⟨e3, hs⟩ := hr
        cases s with
        | none => exact absurd hs h1
        | some q =>
          obtain ⟨c0, w0, l0⟩ := q
          obtain ⟨q0, q1, q2, q3⟩ : τ 7 0 = 1 ∧ τ 7 1 = c0 ∧ τ 7 2 = w0 ∧ lst (τ 56) 0 n = l0 := hs
          rw [e3, q1, q2] at h2
          exact h2
    · intro q
      refine h ?_
      unfold hopB at q
      rcases q with q | q
      · exact Or.inl q
      · obtain ⟨e3, hs⟩ := hr
        cases s with
        | none => exact q.elim
        | some z =>
          obtain ⟨c0, w0, l0⟩ := z
          obtain ⟨q0, q1, q2, q3⟩ : τ 7 0 = 1 ∧ τ 7 1 = c0 ∧ τ 7 2 = w0 ∧ lst (τ 56) 0 n = l0 := hs
          have q' : (bw ≠ 0 ∧ (w < w0 ∨ (w = w0 ∧ c0 ≤ c))) ∨ (bw = 0 ∧ (c0 < c ∨ (c = c0 ∧ w ≤ w0))) := q
          refine Or.inr ⟨by omega, ?_⟩
          rw [e3, q1, q2]
          exact q'
  · refine X0_reach hd (hk _ (fun c hc => ?_) ?_)
    · have h7 : c ≠ 7 := fun e => hc (Or.inl e)
      have h56 : c ≠ 56 := fun e => hc (Or.inr e)
      rw [cp_ne h56, wr_ne h7, wr_ne h7, wr_ne h7]
    · refine ⟨?_, ?_, ?_, ?_, ?_⟩
      · rw [cp_ne (by decide), wr_at, if_neg (by decide), wr_at, if_neg (by decide), wr_at, if_neg (by decide)]; exact hr.1
      · rw [cp_ne (by decide), wr_at, if_neg (by decide), wr_at, if_neg (by decide), wr_eq]
      · rw [cp_ne (by decide), wr_at, if_neg (by decide), wr_eq]
      · rw [cp_ne (by decide), wr_eq]
      · rw [← hl]
        refine lst_congr (fun j _ b => ?_)
        rw [cp_at, if_pos (by omega), wr_ne (by decide), wr_ne (by decide), wr_ne (by decide)]
        congr 1
        omega
  · unfold hopB at *
    rcases h1 with h | h
    · refine Or.inl (fun e => h ?_)
      rw [← h4, e]
      exact Nat.and_zero b
    · refine Or.inr ?_
      cases s with
      | none => exact h.elim
      | some z =>
        obtain ⟨c0, w0, l0⟩ := z
        have q' : (bw ≠ 0 ∧ (w < w0 ∨ (w = w0 ∧ c0 ≤ c))) ∨ (bw = 0 ∧ (c0 < c ∨ (c = c0 ∧ w ≤ w0))) := h
        show (bw ≠ 0 ∧ (w' < w0 ∨ (w' = w0 ∧ c0 ≤ c'))) ∨ (bw = 0 ∧ (c0 < c' ∨ (c' = c0 ∧ w' ≤ w0)))
        omega
set_option maxRecDepth 100000 in
set_option maxHeartbeats 4000000 in
theorem X2_begin {d : Nat} {q : Int} {σ : Mem} {K : Mem → Prop} (hk0 : K (wr (wr σ 8 0 0) 8 1 q)) : Run mX2_begin d [.inr (some 8), .inl q] σ (RV K) := by
  refine Run_of (ls := [.inr (some 8), .inl q]) (by decide) (Nat.le_of_ble_eq_true rfl) rfl ?_
  refine v_aload0 1 dX2_begin_0 rfl ?_
  refine v_iconst 2 dX2_begin_1 rfl ⟨by decide +kernel, by decide⟩ ?_
  refine v_putI 5 0 dX2_begin_2 rfl pX2_7 rfl rfl rfl ?_
  refine v_aload0 6 dX2_begin_5 rfl ?_
  refine v_iload1 7 dX2_begin_6 rfl ?_
  refine v_putI 10 1 dX2_begin_7 rfl pX2_13 rfl rfl rfl ?_
  refine v_vretV dX2_begin_10 rfl ?_
  exact hk0
set_option maxRecDepth 100000 in
set_option maxHeartbeats 4000000 in
theorem X2_isHopeless {d : Nat} {c w : Int} {b : Nat} {σ : Mem} {K : Int → Mem → Prop} (ht : b ≠ 0 ∨ σ 8 1 < c → K 1 σ) (hf : ¬ (b ≠ 0 ∨ σ 8 1 < c) → K 0 σ) : Run mX2_isHopeless d [.inr (some 8), .inl c, .inl w, .inl (b : Int)] σ (RI K) := by
  refine Run_of (ls := [.inr (some 8), .inl c, .inl w, .inl (b : Int)]) (by decide) (Nat.le_of_ble_eq_true rfl) rfl ?_
  refine v_iload3 1 dX2_isHopeless_0 rfl ?_
  refine v_if_ne 12 4 dX2_isHopeless_1 rfl rfl (fun h1 => ?_) (fun h1 => ?_)
  · skip
    refine v_iconst 13 dX2_isHopeless_12 rfl ⟨by decide +kernel, by decide⟩ ?_
    refine v_goto 17 dX2_isHopeless_13 rfl ?_
    refine v_zretI dX2_isHopeless_17 rfl (Or.inr rfl) ?_
    first | exact ht (by omega) | exact hf (by omega)
  · skip
    refine v_iload1 5 dX2_isHopeless_4 rfl ?_
    refine v_aload0 6 dX2_isHopeless_5 rfl ?_
    refine v_getI 9 1 dX2_isHopeless_6 rfl fX2_13 rfl rfl rfl ?_
    refine v_icmp_le 16 12 dX2_isHopeless_9 rfl rfl (fun h9 => ?_) (fun h9 => ?_)
    · skip
      refine v_iconst 17 dX2_isHopeless_16 rfl ⟨by decide +kernel, by decide⟩ ?_
      refine v_zretI dX2_isHopeless_17 rfl (Or.inl rfl) ?_
      first | exact ht (by omega) | exact hf (by omega)
    · skip
      refine v_iconst 13 dX2_isHopeless_12 rfl ⟨by decide +kernel, by decide⟩ ?_
      refine v_goto 17 dX2_isHopeless_13 rfl ?_
      refine v_zretI dX2_isHopeless_17 rfl (Or.inr rfl) ?_
      first | exact ht (by omega) | exact hf (by omega)
set_option maxRecDepth 100000 in
set_option maxHeartbeats 4000000 in
theorem X2_reach {d : Nat} {c w b : Int} {σ : Mem} {K : Mem → Prop} (hc : 0 ≤ σ 8 0 ∧ σ 8 0 ≤ 50000) (hk0 : K (wr σ 8 0 (σ 8 0 + 1))) : Run mX2_reach d [.inr (some 8), .inr (some 54), .inl c, .inl w, .inl b] σ (RV K) := by
  refine Run_of (ls := [.inr (some 8), .inr (some 54), .inl c, .inl w, .inl b]) (by decide) (Nat.le_of_ble_eq_true rfl) rfl ?_
  refine v_aload0 1 dX2_reach_0 rfl ?_
  refine v_dup 2 dX2_reach_1 rfl ?_
  refine v_getI 5 0 dX2_reach_2 rfl fX2_7 rfl rfl rfl ?_
  refine v_iconst 6 dX2_reach_5 rfl ⟨by decide +kernel, by decide⟩ ?_
  refine v_iadd 7 dX2_reach_6 rfl (⟨by omega, by omega⟩) ?_
  refine v_putI 10 0 dX2_reach_7 rfl pX2_7 rfl rfl rfl ?_
  refine v_vretV dX2_reach_10 rfl ?_
  exact hk0
set_option maxRecDepth 100000 in
set_option maxHeartbeats 4000000 in
def RelN (q : Int) (τ : Mem) (s : Int) : Prop := τ 8 0 = s ∧ τ 8 1 = q ∧ 0 ≤ s
theorem GS_count (q : Int) {n : Nat} : GS (RelN q) (fun _ c _ b => b ≠ 0 ∨ q < c) (fun s _ _ _ _ => s + 1) (fun s => s.toNat) mX2_isHopeless mX2_reach 8 n (fun c => c = 8) := by
  refine ⟨⟨_, _, _, _, rfl, rfl, rfl⟩, kX10_82_2, kX10_88_2, fun c h => by omega, fun τ υ s h he => ?_, fun d τ s c w b K hd hr hb ht hf => ?_, fun d τ s c w b l K hd hr hb hl hwt hh hk => ?_, fun τ s c w b c' w' b' hr h1 h2 h3 h4 h5 => ?_, fun s _ _ _ _ => by show (s + 1).toNat ≤ s.toNat + 1; omega⟩
  · unfold RelN at *
    rw [he 8 rfl]
    exact h
  · exact X2_isHopeless (fun h => ht (by rw [hr.2.1] at h; exact h)) (fun h => hf (by rw [hr.2.1] at h; exact h))
  · have hwt : s.toNat < 50000 := hwt
    refine X2_reach (by have := hr.1; have := hr.2.2; omega) (hk _ (fun c hc => wr_ne hc) ⟨?_, ?_, ?_⟩)
    · rw [wr_eq, hr.1]
    · rw [wr_at, if_neg (by decide)]; exact hr.2.1
    · have := hr.2.2
      show 0 ≤ s + 1
      omega
  · rcases h1 with h | h
    · refine Or.inl (fun e => h ?_)
      rw [← h4, e]
      exact Nat.and_zero b
    · exact Or.inr (by omega)
set_option maxRecDepth 100000 in
set_option maxHeartbeats 4000000 in
theorem next_sup : ∀ (s l j : Nat), l &&& s = l → l &&& j = l → s < j → (s + 1) ||| l ≤ j := by
  intro s
  induction s using Nat.strongRecOn with
  | ind s ih =>
    intro l j h1 h2 h3
    have hl1 : (l / 2) &&& (s / 2) = l / 2 := by rw [← Nat.and_div_two, h1]
    have hl2 : (l / 2) &&& (j / 2) = l / 2 := by rw [← Nat.and_div_two, h2]
    have hb1 : l % 2 = 1 → s % 2 = 1 := fun e => by
      have : (l &&& s) % 2 = 1 := by rw [h1]; exact e
      exact (Nat.and_mod_two_eq_one.mp this).2
    have hb2 : l % 2 = 1 → j % 2 = 1 := fun e => by
      have : (l &&& j) % 2 = 1 := by rw [h2]; exact e
      exact (Nat.and_mod_two_eq_one.mp this).2
    have hd := Nat.or_div_two (a := s + 1) (b := l)
    have hm := Nat.or_mod_two_eq_one (a := s + 1) (b := l)
    by_cases hs : s % 2 = 0
    · have e1 : (s + 1) / 2 = s / 2 := by omega
      have hl0 : l % 2 = 0 := by
        have : ¬ l % 2 = 1 := fun e => by have := hb1 e; omega
        omega
      have e2 : (s / 2) ||| (l / 2) = s / 2 := by
        apply Nat.eq_of_testBit_eq
        intro i
        rw [Nat.testBit_or]
        cases hq : (l / 2).testBit i with
        | false => simp
        | true =>
          have : ((l / 2) &&& (s / 2)).testBit i = true := by rw [hl1]; exact hq
          rw [Nat.testBit_and] at this
          simp [(Bool.and_eq_true_iff.mp this).2]
      rw [e1, e2] at hd
      omega
    · have e1 : (s + 1) / 2 = s / 2 + 1 := by omega
      have hlt : s / 2 < s := by omega
      have h5 := ih (s / 2) hlt (l / 2) (j / 2) hl1 hl2 (by omega)
      rw [e1] at hd
      have hm2 : ((s + 1) ||| l) % 2 = 1 → j % 2 = 1 := fun e => by
        rcases hm.mp e with q | q
        · omega
        · exact hb2 q
      omega
theorem or_sup {a l : Nat} : l &&& (a ||| l) = l := by
  apply Nat.eq_of_testBit_eq
  intro i
  rw [Nat.testBit_and, Nat.testBit_or]
  cases l.testBit i <;> simp
theorem and_lt {b R : Nat} : b &&& (2 ^ R - 1) < 2 ^ R := by
  have h := Nat.and_two_pow_sub_one_eq_mod b R
  rw [h]
  exact Nat.mod_lt _ (Nat.pow_pos (by omega))
def RelC (R : Nat) (τ : Mem) (s : Nat → Prop) : Prop := τ 9 0 = ((2 ^ R - 1 : Nat) : Int) ∧ (∀ j : Nat, j < 2 ^ R → τ 57 (j : Int) = one (cd (s j))) ∧ ∀ i j : Nat, j < 2 ^ R → i &&& j = i → s i → s j
set_option maxRecDepth 100000 in
set_option maxHeartbeats 4000000 in
theorem X1_isHopeless {d : Nat} {c w : Int} {b R : Nat} {s : Nat → Prop} {σ : Mem} {K : Int → Mem → Prop} (hR12 : R ≤ 12) (hr : RelC R σ s) (hb : b < 4096) (ht : s (b &&& (2 ^ R - 1)) → K 1 σ) (hf : ¬ s (b &&& (2 ^ R - 1)) → K 0 σ) : Run mX1_isHopeless d [.inr (some 9), .inl c, .inl w, .inl (b : Int)] σ (RI K) := by
  have hp1 : 0 < 2 ^ R := Nat.pow_pos (by omega)
  have hp2 : 2 ^ R ≤ 2 ^ 12 := Nat.pow_le_pow_right (by omega) hR12
  have hp3 : (2 : Nat) ^ 12 = 4096 := by decide
  have ha := and_lt (b := b) (R := R)
  refine Run_of (ls := [.inr (some 9), .inl c, .inl w, .inl (b : Int)]) (by decide) (Nat.le_of_ble_eq_true rfl) rfl ?_
  refine v_aload0 1 dX1_isHopeless_0 rfl ?_
  refine v_getR 4 dX1_isHopeless_1 rfl fX1_15 rfl rfl ?_
  refine v_iload3 5 dX1_isHopeless_4 rfl ?_
  refine v_aload0 6 dX1_isHopeless_5 rfl ?_
  refine v_getIe 9 0 (((2 ^ R - 1 : Nat) : Int)) dX1_isHopeless_6 rfl fX1_9 rfl rfl rfl (hr.1) ?_
  refine v_iand 10 dX1_isHopeless_9 rfl ?_
  rw [band_nat (by omega)]
  refine v_zalde 11 (one (cd (s (b &&& (2 ^ R - 1))))) dX1_isHopeless_10 rfl rfl (⟨by omega, by omega⟩) (hr.2.1 _ ha) ?_
  by_cases hs : s (b &&& (2 ^ R - 1))
  · rw [cd_t hs]
    exact v_zretI dX1_isHopeless_11 rfl (Or.inr rfl) (ht hs)
  rw [cd_f hs]
  refine v_zretI dX1_isHopeless_11 rfl (Or.inl rfl) ?_
  exact hf hs
set_option maxRecDepth 100000 in
set_option maxHeartbeats 4000000 in
theorem X1_reach {d : Nat} {c w : Int} {b R : Nat} {s : Nat → Prop} {σ : Mem} {K : Mem → Prop} (hR12 : R ≤ 12) (hr : RelC R σ s) (hb : b < 4096) (hk0 : ∀ τ : Mem, (∀ c, c ≠ 9 → c ≠ 57 → τ c = σ c) → RelC R τ (fun j => s j ∨ (b &&& (2 ^ R - 1)) &&& j = (b &&& (2 ^ R - 1))) → K τ) : Run mX1_reach d [.inr (some 9), .inr (some 54), .inl c, .inl w, .inl (b : Int)] σ (RV K) := by
  have hp1 : 0 < 2 ^ R := Nat.pow_pos (by omega)
  have hp2 : 2 ^ R ≤ 2 ^ 12 := Nat.pow_le_pow_right (by omega) hR12
  have hp3 : (2 : Nat) ^ 12 = 4096 := by decide
  have ha := and_lt (b := b) (R := R)
  refine Run_of (ls := [.inr (some 9), .inr (some 54), .inl c, .inl w, .inl (b : Int), .inr none, .inr none]) (by decide) (Nat.le_of_ble_eq_true rfl) rfl ?_
  refine v_iload4 2 dX1_reach_0 rfl ?_
  refine v_aload0 3 dX1_reach_2 rfl ?_
  refine v_getIe 6 0 (((2 ^ R - 1 : Nat) : Int)) dX1_reach_3 rfl fX1_9 rfl rfl rfl (hr.1) ?_
  refine v_iand 7 dX1_reach_6 rfl ?_
  rw [band_nat (by omega)]
  generalize hae : b &&& (2 ^ R - 1) = a at ha hk0 ⊢
  refine v_istore5 9 dX1_reach_7 rfl (by decide) ?_
  have L : ∀ (k : Nat) (x : Nat) (τ : Mem), 8192 - x < k → x < 8192 → a &&& x = a → (∀ c, c ≠ 57 → τ c = σ c) → (∀ j : Nat, j < 2 ^ R → τ 57 (j : Int) = one (cd (s j ∨ (a &&& j = a ∧ j < x)))) → V mX1_reach d (RV K) 13 [.inr (some 9), .inr (some 54), .inl c, .inl w, .inl (b : Int), .inl (a : Int), .inl (x : Int)] [] τ := by
    intro k
    induction k with
    | zero => intros; omega
    | succ k ih =>
        intro x τ hk hx hax g1 g2
        refine v_iload6 15 dX1_reach_13 rfl ?_
        refine v_aload0 16 dX1_reach_15 rfl ?_
        refine v_getIe 19 0 (((2 ^ R - 1 : Nat) : Int)) dX1_reach_16 rfl fX1_9 rfl rfl rfl (by rw [g1 9 (by decide)]; exact hr.1) ?_
        refine v_icmp_gt 42 22 dX1_reach_19 rfl rfl (fun h19 => ?_) (fun h19 => ?_)
        · skip
          refine v_vretV dX1_reach_42 rfl ?_
          refine hk0 τ (fun c p q => g1 c q) ⟨by rw [g1 9 (by decide)]; exact hr.1, fun j hj => ?_, fun i j hj hij hi => ?_⟩
          · rw [g2 j hj]
            congr 1
            refine cd_congr ⟨fun q => q.elim Or.inl (fun q => Or.inr q.1), fun q => q.elim Or.inl (fun q => Or.inr ⟨q, by omega⟩)⟩
          · rcases hi with q | q
            · exact Or.inl (hr.2.2 i j hj hij q)
            · refine Or.inr ?_
              rw [← q, Nat.and_assoc, hij]
        · skip
          have hx2 : x < 2 ^ R := by omega
          refine v_aload0 23 dX1_reach_22 rfl ?_
          refine v_getR 26 dX1_reach_23 rfl fX1_15 rfl rfl ?_
          refine v_iload6 28 dX1_reach_26 rfl ?_
          refine v_iconst 29 dX1_reach_28 rfl ⟨by decide +kernel, by decide⟩ ?_
          refine v_zast 30 dX1_reach_29 rfl rfl (⟨by omega, by omega⟩) (Or.inr rfl) ?_
          refine v_iload6 32 dX1_reach_30 rfl ?_
          refine v_iconst 33 dX1_reach_32 rfl ⟨by decide +kernel, by decide⟩ ?_
          refine v_iadd 34 dX1_reach_33 rfl (⟨by omega, by omega⟩) ?_
          refine v_iload5 36 dX1_reach_34 rfl ?_
          refine v_ior 37 dX1_reach_36 rfl ?_
          have e1 : ((x : Int) + 1) = ((x + 1 : Nat) : Int) := by omega
          rw [e1, bor_nat (by omega) (by omega)]
          have hor : (x + 1) ||| a < 2 ^ 13 := Nat.or_lt_two_pow (by omega) (by omega)
          have hor2 : x + 1 ≤ (x + 1) ||| a := Nat.left_le_or
          refine v_istore6 39 dX1_reach_37 rfl (by decide) ?_
          refine v_goto 13 dX1_reach_39 rfl ?_
          refine ih ((x + 1) ||| a) _ (by omega) (by omega) or_sup (fun c q => by rw [wr_ne q]; exact g1 c q) (fun j hj => ?_)
          rw [wr_at]
          by_cases ej : (j : Int) = (x : Int)
          · have ej2 : j = x := by omega
            subst ej2
            rw [if_pos rfl, cd_t (Or.inr ⟨hax, by omega⟩)]
            rfl
          · rw [if_neg ej, g2 j hj]
            congr 1
            refine cd_congr ⟨fun q => q.elim Or.inl (fun q => Or.inr ⟨q.1, by omega⟩), fun q => q.elim Or.inl (fun q => Or.inr ⟨q.1, ?_⟩)⟩
            by_cases hlt : x < j
            · have := next_sup x a j hax q.1 hlt
              omega
            · omega
  refine v_iload5 11 dX1_reach_9 rfl ?_
  refine v_istore6 13 dX1_reach_11 rfl (by decide) ?_
  refine L 8193 a σ (by omega) (by omega) (Nat.and_self a) (fun _ _ => rfl) (fun j hj => ?_)
  rw [hr.2.1 j hj]
  congr 1
  refine cd_congr ⟨Or.inl, fun q => q.elim id (fun q => ?_)⟩
  have h9 : a &&& j ≤ j := Nat.and_le_right
  rw [q.1] at h9
  omega
set_option maxRecDepth 100000 in
set_option maxHeartbeats 4000000 in
theorem GS_clash {R n : Nat} (hR12 : R ≤ 12) : GS (RelC R) (fun s _ _ b => s (b &&& (2 ^ R - 1))) (fun s _ _ _ b => fun j => s j ∨ (b &&& (2 ^ R - 1)) &&& j = (b &&& (2 ^ R - 1))) (fun _ => 0) mX1_isHopeless mX1_reach 9 n (fun c => c = 9 ∨ c = 57) := by
  refine ⟨⟨_, _, _, _, rfl, rfl, rfl⟩, kX10_82_1, kX10_88_1, fun c h => by omega, fun τ υ s h he => ?_, fun d τ s c w b K hd hr hb ht hf => X1_isHopeless hR12 hr hb ht hf, fun d τ s c w b l K hd hr hb hl hwt hh hk => X1_reach hR12 hr hb (fun τ2 t1 t2 => hk τ2 (fun c hc => t1 c (fun e => hc (Or.inl e)) (fun e => hc (Or.inr e))) t2), fun τ s c w b c' w' b' hr h1 h2 h3 h4 h5 => ?_, fun _ _ _ _ _ => Nat.zero_le _⟩
  · unfold RelC at *
    rw [he 9 (Or.inl rfl), he 57 (Or.inr rfl)]
    exact h
  · refine hr.2.2 (b &&& (2 ^ R - 1)) (b' &&& (2 ^ R - 1)) and_lt ?_ h1
    apply Nat.eq_of_testBit_eq
    intro i
    have h6 : (b &&& b').testBit i = b.testBit i := by rw [h4]
    rw [Nat.testBit_and] at h6
    rw [Nat.testBit_and, Nat.testBit_and, Nat.testBit_and]
    cases q1 : b.testBit i <;> cases q2 : b'.testBit i <;> cases q3 : (2 ^ R - 1).testBit i <;> simp [q1, q2] at h6 ⊢
set_option maxRecDepth 100000 in
set_option maxHeartbeats 4000000 in
theorem X1_begin {d : Nat} {R : Nat} {σ : Mem} {K : Mem → Prop} (hR12 : R ≤ 12) (hk0 : ∀ τ : Mem, (∀ c, c ≠ 9 → c ≠ 57 → τ c = σ c) → RelC R τ (fun _ => False) → K τ) : Run mX1_begin d [.inr (some 9), .inl (R : Int)] σ (RV K) := by
  have hp1 : 0 < 2 ^ R := Nat.pow_pos (by omega)
  have hp2 : 2 ^ R ≤ 2 ^ 12 := Nat.pow_le_pow_right (by omega) hR12
  have hp3 : (2 : Nat) ^ 12 = 4096 := by decide
  refine Run_of (ls := [.inr (some 9), .inl (R : Int), .inr none]) (by decide) (Nat.le_of_ble_eq_true rfl) rfl ?_
  refine v_aload0 1 dX1_begin_0 rfl ?_
  refine v_iconst 2 dX1_begin_1 rfl ⟨by decide +kernel, by decide⟩ ?_
  refine v_iload1 3 dX1_begin_2 rfl ?_
  refine v_ishl 4 dX1_begin_3 rfl ?_
  rw [bshl_one (by omega : R < 31)]
  refine v_iconst 5 dX1_begin_4 rfl ⟨by decide +kernel, by decide⟩ ?_
  refine v_isub 6 dX1_begin_5 rfl (⟨by omega, by omega⟩) ?_
  refine V_top (show ((2 ^ R : Nat) : Int) - 1 = ((2 ^ R - 1 : Nat) : Int) by omega) ?_
  refine v_putI 9 0 dX1_begin_6 rfl pX1_9 rfl rfl rfl ?_
  have L : ∀ (k : Nat) (i : Nat) (τ : Mem), 2 ^ R - i < k → i ≤ 2 ^ R → (∀ c, c ≠ 57 → τ c = wr σ 9 0 ((2 ^ R - 1 : Nat) : Int) c) → (∀ j : Nat, j < i → τ 57 (j : Int) = 0) → V mX1_begin d (RV K) 11 [.inr (some 9), .inl (R : Int), .inl (i : Int)] [] τ := by
    intro k
    induction k with
    | zero => intros; omega
    | succ k ih =>
        intro i τ hk hi g1 g2
        refine v_iload2 12 dX1_begin_11 rfl ?_
        refine v_aload0 13 dX1_begin_12 rfl ?_
        refine v_getIe 16 0 (((2 ^ R - 1 : Nat) : Int)) dX1_begin_13 rfl fX1_9 rfl rfl rfl (by rw [g1 9 (by decide), wr_eq]) ?_
        refine v_icmp_gt 32 19 dX1_begin_16 rfl rfl (fun h16 => ?_) (fun h16 => ?_)
        · skip
          refine v_vretV dX1_begin_32 rfl ?_
          refine hk0 τ (fun c p q => by rw [g1 c q, wr_ne p]) ⟨by rw [g1 9 (by decide), wr_eq], fun j hj => ?_, fun _ _ _ _ q => q.elim⟩
          rw [g2 j (by omega), cd_f (fun q => q)]
          rfl
        · skip
          refine v_aload0 20 dX1_begin_19 rfl ?_
          refine v_getR 23 dX1_begin_20 rfl fX1_15 rfl rfl ?_
          refine v_iload2 24 dX1_begin_23 rfl ?_
          refine v_iconst 25 dX1_begin_24 rfl ⟨by decide +kernel, by decide⟩ ?_
          refine v_zast 26 dX1_begin_25 rfl rfl (⟨by omega, by omega⟩) (Or.inl rfl) ?_
          refine v_iinc2 29 dX1_begin_26 rfl (by decide) rfl (⟨by omega, by omega⟩) ?_
          refine v_goto 11 dX1_begin_29 rfl ?_
          exact ih (i + 1) _ (by omega) (by omega) (fun c a => by rw [wr_ne a]; exact g1 c a) (fun j b => by
            rw [wr_at]
            by_cases ej : (j : Int) = (i : Int)
            · rw [if_pos ej]
            · rw [if_neg ej]; exact g2 j (by omega))
  refine v_iconst 10 dX1_begin_9 rfl ⟨by decide +kernel, by decide⟩ ?_
  refine v_istore2 11 dX1_begin_10 rfl (by decide) ?_
  exact L (2 ^ R + 1) 0 _ (by omega) (by omega) (fun _ _ => rfl) (fun j b => by omega)
set_option maxRecDepth 100000 in
set_option maxHeartbeats 4000000 in
def lessC (s t : Nat) : Prop := pop s 12 < pop t 12 ∨ (pop s 12 = pop t 12 ∧ rvj t 12 < rvj s 12)
set_option maxRecDepth 100000 in
set_option maxHeartbeats 4000000 in
theorem X1_isLess {d : Nat} {s t : Nat} {σ : Mem} {K : Int → Mem → Prop} (hs : s < 4096) (ht9 : t < 4096) (hd : 1 ≤ d) (ht : lessC s t → K 1 σ) (hf : ¬ lessC s t → K 0 σ) : Run mX1_isLess d [.inl (s : Int), .inl (t : Int)] σ (RI K) := by
  have hx : bxor (s : Int) (t : Int) = ((s ^^^ t : Nat) : Int) := bxor_nat (by omega) (by omega)
  have hx2 : s ^^^ t < 2 ^ 12 := Nat.xor_lt_two_pow (by omega) (by omega)
  have hib := isB_iff hs ht9
  unfold isB at hib
  unfold lessC at ht hf
  refine Run_of (ls := [.inl (s : Int), .inl (t : Int), .inr none, .inr none]) (by decide) (Nat.le_of_ble_eq_true rfl) rfl ?_
  refine v_iload0 1 dX1_isLess_0 rfl ?_
  refine v_csI1 mJ6_bitCount_0f7a4 4 dX1_isLess_1 rfl kX1_23 (by omega) (Nat.le_of_ble_eq_true rfl) ?_
  refine J6_bitCount_0f7a4 (by omega) ?_
  refine v_iload1 5 dX1_isLess_4 rfl ?_
  refine v_csI1 mJ6_bitCount_0f7a4 8 dX1_isLess_5 rfl kX1_23 (by omega) (Nat.le_of_ble_eq_true rfl) ?_
  refine J6_bitCount_0f7a4 (by omega) ?_
  refine v_csI2 mJ6_compare_7cf53 11 dX1_isLess_8 rfl kX1_29 (by omega) (Nat.le_of_ble_eq_true rfl) ?_
  refine J6_compare_7cf53 (fun h8 => ?_) (fun h8 => ?_) (fun h8 => ?_)
  · skip
    refine v_istore2 12 dX1_isLess_11 rfl (by decide) ?_
    refine v_iload0 13 dX1_isLess_12 rfl ?_
    refine v_iload1 14 dX1_isLess_13 rfl ?_
    refine v_ixor 15 dX1_isLess_14 rfl ?_
    refine v_istore3 16 dX1_isLess_15 rfl (by decide) ?_
    refine v_iload2 17 dX1_isLess_16 rfl ?_
    refine v_if_lt 33 20 dX1_isLess_17 rfl rfl (fun h17 => ?_) (fun h17 => ?_)
    · skip
      refine v_iconst 34 dX1_isLess_33 rfl ⟨by decide +kernel, by decide⟩ ?_
      refine v_goto 38 dX1_isLess_34 rfl ?_
      refine v_zretI dX1_isLess_38 rfl (Or.inr rfl) ?_
      exact ht (by omega)
    · skip
      refine v_iload2 21 dX1_isLess_20 rfl ?_
      refine v_if_ne 37 24 dX1_isLess_21 rfl rfl (fun h21 => ?_) (fun h21 => ?_)
      · skip
        refine v_iconst 38 dX1_isLess_37 rfl ⟨by decide +kernel, by decide⟩ ?_
        refine v_zretI dX1_isLess_38 rfl (Or.inl rfl) ?_
        exact hf (by omega)
      · skip
        refine v_iload0 25 dX1_isLess_24 rfl ?_
        refine v_iload3 26 dX1_isLess_25 rfl ?_
        refine v_iand 27 dX1_isLess_26 rfl ?_
        refine v_iload3 28 dX1_isLess_27 rfl ?_
        refine v_ineg 29 dX1_isLess_28 rfl (⟨by omega, by omega⟩) ?_
        refine v_iand 30 dX1_isLess_29 rfl ?_
        refine v_if_eq 37 33 dX1_isLess_30 rfl rfl (fun h30 => ?_) (fun h30 => ?_)
        · skip
          refine v_iconst 38 dX1_isLess_37 rfl ⟨by decide +kernel, by decide⟩ ?_
          refine v_zretI dX1_isLess_38 rfl (Or.inl rfl) ?_
          exact hf (by omega)
        · skip
          refine v_iconst 34 dX1_isLess_33 rfl ⟨by decide +kernel, by decide⟩ ?_
          refine v_goto 38 dX1_isLess_34 rfl ?_
          refine v_zretI dX1_isLess_38 rfl (Or.inr rfl) ?_
          exact ht (by omega)
  · skip
    refine v_istore2 12 dX1_isLess_11 rfl (by decide) ?_
    refine v_iload0 13 dX1_isLess_12 rfl ?_
    refine v_iload1 14 dX1_isLess_13 rfl ?_
    refine v_ixor 15 dX1_isLess_14 rfl ?_
    refine v_istore3 16 dX1_isLess_15 rfl (by decide) ?_
    refine v_iload2 17 dX1_isLess_16 rfl ?_
    refine v_if_lt 33 20 dX1_isLess_17 rfl rfl (fun h17 => ?_) (fun h17 => ?_)
    · skip
      refine v_iconst 34 dX1_isLess_33 rfl ⟨by decide +kernel, by decide⟩ ?_
      refine v_goto 38 dX1_isLess_34 rfl ?_
      refine v_zretI dX1_isLess_38 rfl (Or.inr rfl) ?_
      exact ht (by omega)
    · skip
      refine v_iload2 21 dX1_isLess_20 rfl ?_
      refine v_if_ne 37 24 dX1_isLess_21 rfl rfl (fun h21 => ?_) (fun h21 => ?_)
      · skip
        refine v_iconst 38 dX1_isLess_37 rfl ⟨by decide +kernel, by decide⟩ ?_
        refine v_zretI dX1_isLess_38 rfl (Or.inl rfl) ?_
        exact hf (by omega)
      · skip
        refine v_iload0 25 dX1_isLess_24 rfl ?_
        refine v_iload3 26 dX1_isLess_25 rfl ?_
        refine v_iand 27 dX1_isLess_26 rfl ?_
        refine v_iload3 28 dX1_isLess_27 rfl ?_
        refine v_ineg 29 dX1_isLess_28 rfl (⟨by omega, by omega⟩) ?_
        refine v_iand 30 dX1_isLess_29 rfl ?_
        refine v_if_eq 37 33 dX1_isLess_30 rfl rfl (fun h30 => ?_) (fun h30 => ?_)
        · skip
          refine v_iconst 38 dX1_isLess_37 rfl ⟨by decide +kernel, by decide⟩ ?_
          refine v_zretI dX1_isLess_38 rfl (Or.inl rfl) ?_
          exact hf (by omega)
        · skip
          refine v_iconst 34 dX1_isLess_33 rfl ⟨by decide +kernel, by decide⟩ ?_
          refine v_goto 38 dX1_isLess_34 rfl ?_
          refine v_zretI dX1_isLess_38 rfl (Or.inr rfl) ?_
          exact ht (by omega)
  · skip
    refine v_istore2 12 dX1_isLess_11 rfl (by decide) ?_
    refine v_iload0 13 dX1_isLess_12 rfl ?_
    refine v_iload1 14 dX1_isLess_13 rfl ?_
    refine v_ixor 15 dX1_isLess_14 rfl ?_
    refine v_istore3 16 dX1_isLess_15 rfl (by decide) ?_
    refine v_iload2 17 dX1_isLess_16 rfl ?_
    refine v_if_lt 33 20 dX1_isLess_17 rfl rfl (fun h17 => ?_) (fun h17 => ?_)
    · skip
      refine v_iconst 34 dX1_isLess_33 rfl ⟨by decide +kernel, by decide⟩ ?_
      refine v_goto 38 dX1_isLess_34 rfl ?_
      refine v_zretI dX1_isLess_38 rfl (Or.inr rfl) ?_
      exact ht (by omega)
    · skip
      refine v_iload2 21 dX1_isLess_20 rfl ?_
      refine v_if_ne 37 24 dX1_isLess_21 rfl rfl (fun h21 => ?_) (fun h21 => ?_)
      · skip
        refine v_iconst 38 dX1_isLess_37 rfl ⟨by decide +kernel, by decide⟩ ?_
        refine v_zretI dX1_isLess_38 rfl (Or.inl rfl) ?_
        exact hf (by omega)
      · skip
        refine v_iload0 25 dX1_isLess_24 rfl ?_
        refine v_iload3 26 dX1_isLess_25 rfl ?_
        refine v_iand 27 dX1_isLess_26 rfl ?_
        refine v_iload3 28 dX1_isLess_27 rfl ?_
        refine v_ineg 29 dX1_isLess_28 rfl (⟨by omega, by omega⟩) ?_
        refine v_iand 30 dX1_isLess_29 rfl ?_
        refine v_if_eq 37 33 dX1_isLess_30 rfl rfl (fun h30 => ?_) (fun h30 => ?_)
        · skip
          refine v_iconst 38 dX1_isLess_37 rfl ⟨by decide +kernel, by decide⟩ ?_
          refine v_zretI dX1_isLess_38 rfl (Or.inl rfl) ?_
          exact hf (by omega)
        · skip
          refine v_iconst 34 dX1_isLess_33 rfl ⟨by decide +kernel, by decide⟩ ?_
          refine v_goto 38 dX1_isLess_34 rfl ?_
          refine v_zretI dX1_isLess_38 rfl (Or.inr rfl) ?_
          exact ht (by omega)
set_option maxRecDepth 100000 in
set_option maxHeartbeats 4000000 in
def cmp9 (R t : Nat) : Nat := (2 ^ R - 1) ^^^ ((2 ^ R - 1) &&& t)
theorem cmp9_test (R t i : Nat) : (cmp9 R t).testBit i = (decide (i < R) && !t.testBit i) := by
  unfold cmp9
  rw [Nat.testBit_xor, Nat.testBit_and, Nat.testBit_two_pow_sub_one]
  cases decide (i < R) <;> cases t.testBit i <;> rfl
theorem cmp9_lt {R t : Nat} : cmp9 R t < 2 ^ R := by
  have hp1 : 0 < 2 ^ R := Nat.pow_pos (by omega)
  unfold cmp9
  exact Nat.xor_lt_two_pow (by omega) (Nat.lt_of_le_of_lt Nat.and_le_left (by omega))
set_option maxRecDepth 100000 in
set_option maxHeartbeats 4000000 in
theorem X1_leastSet {d : Nat} {R : Nat} {s : Nat → Prop} {σ : Mem} {K : Int → Mem → Prop} (hR12 : R ≤ 12) (hr : RelC R σ s) (hd : 2 ≤ d) (o1 : (∀ t, t < 2 ^ R → s (cmp9 R t)) → K (-5) σ) (o2 : ∀ q : Nat, CMin (fun t => ¬ s (cmp9 R t)) R q → K (q : Int) σ) : Run mX1_leastSet d [.inr (some 9)] σ (RI K) := by
  have hp1 : 0 < 2 ^ R := Nat.pow_pos (by omega)
  have hp2 : 2 ^ R ≤ 2 ^ 12 := Nat.pow_le_pow_right (by omega) hR12
  have hp3 : (2 : Nat) ^ 12 = 4096 := by decide
  refine Run_of (ls := [.inr (some 9), .inr none, .inr none]) (by decide) (Nat.le_of_ble_eq_true rfl) rfl ?_
  have L : ∀ (k : Nat) (i : Nat) (lv : Int), 2 ^ R - i < k → i ≤ 2 ^ R → (((lv : Int) = -5 ∧ ∀ t, t < i → s (cmp9 R t)) ∨ ∃ q : Nat, q < i ∧ lv = (q : Int) ∧ ¬ s (cmp9 R q) ∧ ∀ t, t < i → ¬ s (cmp9 R t) → pop q 12 < pop t 12 ∨ (pop q 12 = pop t 12 ∧ rvj t 12 ≤ rvj q 12)) → V mX1_leastSet d (RI K) 5 [.inr (some 9), .inl lv, .inl (i : Int)] [] σ := by
    intro k
    induction k with
    | zero => intros; omega
    | succ k ih =>
        intro i lv hk hi hl
        refine v_iload2 6 dX1_leastSet_5 rfl ?_
        refine v_aload0 7 dX1_leastSet_6 rfl ?_
        refine v_getIe 10 0 (((2 ^ R - 1 : Nat) : Int)) dX1_leastSet_7 rfl fX1_9 rfl rfl rfl (hr.1) ?_
        refine v_icmp_gt 51 13 dX1_leastSet_10 rfl rfl (fun h10 => ?_) (fun h10 => ?_)
        · skip
          refine v_iload1 52 dX1_leastSet_51 rfl ?_
          refine v_iretI dX1_leastSet_52 rfl ?_
          obtain rfl : i = 2 ^ R := by clear hl; omega
          rcases hl with ⟨q1, q2⟩ | ⟨q, q1, q2, q3, q4⟩
          · rw [q1]; exact o1 q2
          · rw [q2]; exact o2 q ⟨q1, q3, q4⟩
        · skip
          have hi9 : i < 2 ^ R := by clear hl; omega
          have hk9 : 2 ^ R - (i + 1) < k := by clear hl; omega
          refine v_aload0 14 dX1_leastSet_13 rfl ?_
          refine v_getR 17 dX1_leastSet_14 rfl fX1_15 rfl rfl ?_
          refine v_aload0 18 dX1_leastSet_17 rfl ?_
          refine v_getIe 21 0 (((2 ^ R - 1 : Nat) : Int)) dX1_leastSet_18 rfl fX1_9 rfl rfl rfl (hr.1) ?_
          refine v_iload2 22 dX1_leastSet_21 rfl ?_
          refine v_iconst 23 dX1_leastSet_22 rfl ⟨by decide +kernel, by decide⟩ ?_
          refine v_ixor 24 dX1_leastSet_23 rfl ?_
          refine v_iand 25 dX1_leastSet_24 rfl ?_
          rw [band_not (by omega)]
          have hcl := cmp9_lt (R := R) (t := i)
          have e25 : (((2 ^ R - 1) ^^^ ((2 ^ R - 1) &&& i) : Nat) : Int) = ((cmp9 R i : Nat) : Int) := rfl
          rw [e25]
          refine v_zalde 26 (one (cd (s (cmp9 R i)))) dX1_leastSet_25 rfl rfl (⟨by omega, by omega⟩) (hr.2.1 _ cmp9_lt) ?_
          refine v_if_ne 45 29 dX1_leastSet_26 rfl rfl (fun h26 => ?_) (fun h26 => ?_)
          · skip
            refine v_iinc2 48 dX1_leastSet_45 rfl (by decide) rfl (⟨by omega, by omega⟩) ?_
            refine v_goto 5 dX1_leastSet_48 rfl ?_
            first
              | (have hcov : s (cmp9 R i) := by
                   by_cases q : s (cmp9 R i)
                   · exact q
                   · exfalso; rw [cd_f q] at h26; exact h26 rfl
                 exact ih (i + 1) _ hk9 hi9 (by
                   rcases hl with ⟨q1, q2⟩ | ⟨q, q1, q2, q3, q4⟩
                   · first
                       | (exfalso; omega)
                       | (refine Or.inl ⟨q1, fun t a => ?_⟩
                          by_cases e : t = i
                          · subst e; exact hcov
                          · exact q2 t (by omega))
                       | (refine Or.inr ⟨i, by omega, rfl, hcov, fun t a b => ?_⟩
                          by_cases e : t = i
                          · subst e; exact Or.inr ⟨rfl, Nat.le_refl _⟩
                          · exact absurd (q2 t (by omega)) b)
                   · try (have e98 : s9 = q := by omega
                          subst e98)
                     first
                       | (exfalso; omega)
                       | (refine Or.inr ⟨_, by omega, q2, q3, fun t a b => ?_⟩
                          by_cases e : t = i
                          · subst e; first | exact absurd hcov b | (unfold lessC at h37; omega)
                          · exact q4 t (by omega) b)
                       | (refine Or.inr ⟨i, by omega, rfl, hcov, fun t a b => ?_⟩
                          by_cases e : t = i
                          · subst e; exact Or.inr ⟨rfl, Nat.le_refl _⟩
                          · have h8 := q4 t (by omega) b; unfold lessC at h37; omega)))
              | (exact ih (i + 1) _ hk9 hi9 (by
                   rcases hl with ⟨q1, q2⟩ | ⟨q, q1, q2, q3, q4⟩
                   · first
                       | (exfalso; omega)
                       | (refine Or.inl ⟨q1, fun t a => ?_⟩
                          by_cases e : t = i
                          · subst e; exact hcov
                          · exact q2 t (by omega))
                       | (refine Or.inr ⟨i, by omega, rfl, hcov, fun t a b => ?_⟩
                          by_cases e : t = i
                          · subst e; exact Or.inr ⟨rfl, Nat.le_refl _⟩
                          · exact absurd (q2 t (by omega)) b)
                   · try (have e98 : s9 = q := by omega
                          subst e98)
                     first
                       | (exfalso; omega)
                       | (refine Or.inr ⟨_, by omega, q2, q3, fun t a b => ?_⟩
                          by_cases e : t = i
                          · subst e; first | exact absurd hcov b | (unfold lessC at h37; omega)
                          · exact q4 t (by omega) b)
                       | (refine Or.inr ⟨i, by omega, rfl, hcov, fun t a b => ?_⟩
                          by_cases e : t = i
                          · subst e; exact Or.inr ⟨rfl, Nat.le_refl _⟩
                          · have h8 := q4 t (by omega) b; unfold lessC at h37; omega)))
          · skip
            have hcov : ¬ s (cmp9 R i) := fun q => h26 (by rw [cd_t q]; decide)
            refine v_iload1 30 dX1_leastSet_29 rfl ?_
            refine v_bipush 32 dX1_leastSet_30 rfl ⟨by decide +kernel, by decide⟩ ?_
            refine v_icmp_eq 43 35 dX1_leastSet_32 rfl rfl (fun h32 => ?_) (fun h32 => ?_)
            · skip
              refine v_iload2 44 dX1_leastSet_43 rfl ?_
              refine v_istore1 45 dX1_leastSet_44 rfl (by decide) ?_
              refine v_iinc2 48 dX1_leastSet_45 rfl (by decide) rfl (⟨by omega, by omega⟩) ?_
              refine v_goto 5 dX1_leastSet_48 rfl ?_
              first
                | (have hcov : s (cmp9 R i) := by
                     by_cases q : s (cmp9 R i)
                     · exact q
                     · exfalso; rw [cd_f q] at h26; exact h26 rfl
                   exact ih (i + 1) _ hk9 hi9 (by
                     rcases hl with ⟨q1, q2⟩ | ⟨q, q1, q2, q3, q4⟩
                     · first
                         | (exfalso; omega)
                         | (refine Or.inl ⟨q1, fun t a => ?_⟩
                            by_cases e : t = i
                            · subst e; exact hcov
                            · exact q2 t (by omega))
                         | (refine Or.inr ⟨i, by omega, rfl, hcov, fun t a b => ?_⟩
                            by_cases e : t = i
                            · subst e; exact Or.inr ⟨rfl, Nat.le_refl _⟩
                            · exact absurd (q2 t (by omega)) b)
                     · try (have e98 : s9 = q := by omega
                            subst e98)
                       first
                         | (exfalso; omega)
                         | (refine Or.inr ⟨_, by omega, q2, q3, fun t a b => ?_⟩
                            by_cases e : t = i
                            · subst e; first | exact absurd hcov b | (unfold lessC at h37; omega)
                            · exact q4 t (by omega) b)
                         | (refine Or.inr ⟨i, by omega, rfl, hcov, fun t a b => ?_⟩
                            by_cases e : t = i
                            · subst e; exact Or.inr ⟨rfl, Nat.le_refl _⟩
                            · have h8 := q4 t (by omega) b; unfold lessC at h37; omega)))
                | (exact ih (i + 1) _ hk9 hi9 (by
                     rcases hl with ⟨q1, q2⟩ | ⟨q, q1, q2, q3, q4⟩
                     · first
                         | (exfalso; omega)
                         | (refine Or.inl ⟨q1, fun t a => ?_⟩
                            by_cases e : t = i
                            · subst e; exact hcov
                            · exact q2 t (by omega))
                         | (refine Or.inr ⟨i, by omega, rfl, hcov, fun t a b => ?_⟩
                            by_cases e : t = i
                            · subst e; exact Or.inr ⟨rfl, Nat.le_refl _⟩
                            · exact absurd (q2 t (by omega)) b)
                     · try (have e98 : s9 = q := by omega
                            subst e98)
                       first
                         | (exfalso; omega)
                         | (refine Or.inr ⟨_, by omega, q2, q3, fun t a b => ?_⟩
                            by_cases e : t = i
                            · subst e; first | exact absurd hcov b | (unfold lessC at h37; omega)
                            · exact q4 t (by omega) b)
                         | (refine Or.inr ⟨i, by omega, rfl, hcov, fun t a b => ?_⟩
                            by_cases e : t = i
                            · subst e; exact Or.inr ⟨rfl, Nat.le_refl _⟩
                            · have h8 := q4 t (by omega) b; unfold lessC at h37; omega)))
            · skip
              refine v_iload2 36 dX1_leastSet_35 rfl ?_
              refine v_iload1 37 dX1_leastSet_36 rfl ?_
              refine v_csI2 mX1_isLess 40 dX1_leastSet_37 rfl kX1_19 (by omega) (Nat.le_of_ble_eq_true rfl) ?_
              obtain ⟨s9, hs9, hs8⟩ : ∃ s9 : Nat, lv = (s9 : Int) ∧ s9 < 4096 := by
                rcases hl with ⟨q1, q2⟩ | ⟨q, q1, q2, q3, q4⟩
                · exfalso; omega
                · exact ⟨q, q2, by omega⟩
              rw [hs9]
              refine X1_isLess (by omega) (by omega) (by omega) (fun h37 => ?_) (fun h37 => ?_)
              all_goals rw [← hs9]
              · skip
                refine v_if_eq 45 43 dX1_leastSet_40 rfl rfl (fun h => absurd h (by decide)) (fun _ => ?_)
                refine v_iload2 44 dX1_leastSet_43 rfl ?_
                refine v_istore1 45 dX1_leastSet_44 rfl (by decide) ?_
                refine v_iinc2 48 dX1_leastSet_45 rfl (by decide) rfl (⟨by omega, by omega⟩) ?_
                refine v_goto 5 dX1_leastSet_48 rfl ?_
                first
                  | (have hcov : s (cmp9 R i) := by
                       by_cases q : s (cmp9 R i)
                       · exact q
                       · exfalso; rw [cd_f q] at h26; exact h26 rfl
                     exact ih (i + 1) _ hk9 hi9 (by
                       rcases hl with ⟨q1, q2⟩ | ⟨q, q1, q2, q3, q4⟩
                       · first
                           | (exfalso; omega)
                           | (refine Or.inl ⟨q1, fun t a => ?_⟩
                              by_cases e : t = i
                              · subst e; exact hcov
                              · exact q2 t (by omega))
                           | (refine Or.inr ⟨i, by omega, rfl, hcov, fun t a b => ?_⟩
                              by_cases e : t = i
                              · subst e; exact Or.inr ⟨rfl, Nat.le_refl _⟩
                              · exact absurd (q2 t (by omega)) b)
                       · try (have e98 : s9 = q := by omega
                              subst e98)
                         first
                           | (exfalso; omega)
                           | (refine Or.inr ⟨_, by omega, q2, q3, fun t a b => ?_⟩
                              by_cases e : t = i
                              · subst e; first | exact absurd hcov b | (unfold lessC at h37; omega)
                              · exact q4 t (by omega) b)
                           | (refine Or.inr ⟨i, by omega, rfl, hcov, fun t a b => ?_⟩
                              by_cases e : t = i
                              · subst e; exact Or.inr ⟨rfl, Nat.le_refl _⟩
                              · have h8 := q4 t (by omega) b; unfold lessC at h37; omega)))
                  | (exact ih (i + 1) _ hk9 hi9 (by
                       rcases hl with ⟨q1, q2⟩ | ⟨q, q1, q2, q3, q4⟩
                       · first
                           | (exfalso; omega)
                           | (refine Or.inl ⟨q1, fun t a => ?_⟩
                              by_cases e : t = i
                              · subst e; exact hcov
                              · exact q2 t (by omega))
                           | (refine Or.inr ⟨i, by omega, rfl, hcov, fun t a b => ?_⟩
                              by_cases e : t = i
                              · subst e; exact Or.inr ⟨rfl, Nat.le_refl _⟩
                              · exact absurd (q2 t (by omega)) b)
                       · try (have e98 : s9 = q := by omega
                              subst e98)
                         first
                           | (exfalso; omega)
                           | (refine Or.inr ⟨_, by omega, q2, q3, fun t a b => ?_⟩
                              by_cases e : t = i
                              · subst e; first | exact absurd hcov b | (unfold lessC at h37; omega)
                              · exact q4 t (by omega) b)
                           | (refine Or.inr ⟨i, by omega, rfl, hcov, fun t a b => ?_⟩
                              by_cases e : t = i
                              · subst e; exact Or.inr ⟨rfl, Nat.le_refl _⟩
                              · have h8 := q4 t (by omega) b; unfold lessC at h37; omega)))
              · skip
                refine v_if_eq 45 43 dX1_leastSet_40 rfl rfl (fun _ => ?_) (fun h => absurd (by decide) h)
                refine v_iinc2 48 dX1_leastSet_45 rfl (by decide) rfl (⟨by omega, by omega⟩) ?_
                refine v_goto 5 dX1_leastSet_48 rfl ?_
                first
                  | (have hcov : s (cmp9 R i) := by
                       by_cases q : s (cmp9 R i)
                       · exact q
                       · exfalso; rw [cd_f q] at h26; exact h26 rfl
                     exact ih (i + 1) _ hk9 hi9 (by
                       rcases hl with ⟨q1, q2⟩ | ⟨q, q1, q2, q3, q4⟩
                       · first
                           | (exfalso; omega)
                           | (refine Or.inl ⟨q1, fun t a => ?_⟩
                              by_cases e : t = i
                              · subst e; exact hcov
                              · exact q2 t (by omega))
                           | (refine Or.inr ⟨i, by omega, rfl, hcov, fun t a b => ?_⟩
                              by_cases e : t = i
                              · subst e; exact Or.inr ⟨rfl, Nat.le_refl _⟩
                              · exact absurd (q2 t (by omega)) b)
                       · try (have e98 : s9 = q := by omega
                              subst e98)
                         first
                           | (exfalso; omega)
                           | (refine Or.inr ⟨_, by omega, q2, q3, fun t a b => ?_⟩
                              by_cases e : t = i
                              · subst e; first | exact absurd hcov b | (unfold lessC at h37; omega)
                              · exact q4 t (by omega) b)
                           | (refine Or.inr ⟨i, by omega, rfl, hcov, fun t a b => ?_⟩
                              by_cases e : t = i
                              · subst e; exact Or.inr ⟨rfl, Nat.le_refl _⟩
                              · have h8 := q4 t (by omega) b; unfold lessC at h37; omega)))
                  | (exact ih (i + 1) _ hk9 hi9 (by
                       rcases hl with ⟨q1, q2⟩ | ⟨q, q1, q2, q3, q4⟩
                       · first
                           | (exfalso; omega)
                           | (refine Or.inl ⟨q1, fun t a => ?_⟩
                              by_cases e : t = i
                              · subst e; exact hcov
                              · exact q2 t (by omega))
                           | (refine Or.inr ⟨i, by omega, rfl, hcov, fun t a b => ?_⟩
                              by_cases e : t = i
                              · subst e; exact Or.inr ⟨rfl, Nat.le_refl _⟩
                              · exact absurd (q2 t (by omega)) b)
                       · try (have e98 : s9 = q := by omega
                              subst e98)
                         first
                           | (exfalso; omega)
                           | (refine Or.inr ⟨_, by omega, q2, q3, fun t a b => ?_⟩
                              by_cases e : t = i
                              · subst e; first | exact absurd hcov b | (unfold lessC at h37; omega)
                              · exact q4 t (by omega) b)
                           | (refine Or.inr ⟨i, by omega, rfl, hcov, fun t a b => ?_⟩
                              by_cases e : t = i
                              · subst e; exact Or.inr ⟨rfl, Nat.le_refl _⟩
                              · have h8 := q4 t (by omega) b; unfold lessC at h37; omega)))
  refine v_bipush 2 dX1_leastSet_0 rfl ⟨by decide +kernel, by decide⟩ ?_
  refine v_istore1 3 dX1_leastSet_2 rfl (by decide) ?_
  refine v_iconst 4 dX1_leastSet_3 rfl ⟨by decide +kernel, by decide⟩ ?_
  refine v_istore2 5 dX1_leastSet_4 rfl (by decide) ?_
  exact L (2 ^ R + 1) 0 _ (by omega) (by omega) (Or.inl ⟨rfl, fun t a => by omega⟩)
