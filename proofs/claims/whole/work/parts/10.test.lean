set_option maxRecDepth 100000 in
set_option maxHeartbeats 4000000 in
theorem X12_out {d : Nat} {a b c : Int} {σ : Mem} {K : Int → Mem → Prop} (ht : a < b ∨ c < a → K 1 σ) (hf : b ≤ a ∧ a ≤ c → K 0 σ) : Run mX12_out d [.inl a, .inl b, .inl c] σ (RI K) := by
  refine Run_of (ls := [.inl a, .inl b, .inl c]) (by decide) (Nat.le_of_ble_eq_true rfl) rfl ?_
  refine v_iload0 1 dX12_out_0 rfl ?_
  refine v_iload1 2 dX12_out_1 rfl ?_
  refine v_icmp_lt 10 5 dX12_out_2 rfl rfl (fun h2 => ?_) (fun h2 => ?_)
  · skip
    refine v_iconst 11 dX12_out_10 rfl ⟨by decide +kernel, by decide⟩ ?_
    refine v_goto 15 dX12_out_11 rfl ?_
    refine v_zretI dX12_out_15 rfl (Or.inr rfl) ?_
    first | exact ht (by omega) | exact hf (by omega)
  · skip
    refine v_iload0 6 dX12_out_5 rfl ?_
    refine v_iload2 7 dX12_out_6 rfl ?_
    refine v_icmp_le 14 10 dX12_out_7 rfl rfl (fun h7 => ?_) (fun h7 => ?_)
    · skip
      refine v_iconst 15 dX12_out_14 rfl ⟨by decide +kernel, by decide⟩ ?_
      refine v_zretI dX12_out_15 rfl (Or.inl rfl) ?_
      first | exact ht (by omega) | exact hf (by omega)
    · skip
      refine v_iconst 11 dX12_out_10 rfl ⟨by decide +kernel, by decide⟩ ?_
      refine v_goto 15 dX12_out_11 rfl ?_
      refine v_zretI dX12_out_15 rfl (Or.inr rfl) ?_
      first | exact ht (by omega) | exact hf (by omega)
set_option maxRecDepth 100000 in
set_option maxHeartbeats 4000000 in
theorem X12_noDecision {d : Nat} {k : Int} {σ : Mem} {K : Int → Mem → Prop} (hn : 0 ≤ σ 64 0 ∧ σ 64 0 ≤ 6) (hd : 1 ≤ d) (ht : k < 0 ∨ σ 64 0 ≤ k → K 1 σ) (hf : 0 ≤ k ∧ k < σ 64 0 → K 0 σ) : Run mX12_noDecision d [.inr (some 64), .inl k] σ (RI K) := by
  refine Run_of (ls := [.inr (some 64), .inl k]) (by decide) (Nat.le_of_ble_eq_true rfl) rfl ?_
  refine v_iload1 1 dX12_noDecision_0 rfl ?_
  refine v_iconst 2 dX12_noDecision_1 rfl ⟨by decide +kernel, by decide⟩ ?_
  refine v_aload0 3 dX12_noDecision_2 rfl ?_
  refine v_getI 6 0 dX12_noDecision_3 rfl fX12_93 rfl rfl rfl ?_
  refine v_iconst 7 dX12_noDecision_6 rfl ⟨by decide +kernel, by decide⟩ ?_
  refine v_isub 8 dX12_noDecision_7 rfl (⟨by omega, by omega⟩) ?_
  refine v_csI3 mX12_out 11 dX12_noDecision_8 rfl kX12_96 (by omega) (Nat.le_of_ble_eq_true rfl) ?_
  refine X12_out (fun h8 => ?_) (fun h8 => ?_)
  · skip
    refine v_zretI dX12_noDecision_11 rfl (Or.inr rfl) ?_
    first | exact ht (by omega) | exact hf (by omega)
  · skip
    refine v_zretI dX12_noDecision_11 rfl (Or.inl rfl) ?_
    first | exact ht (by omega) | exact hf (by omega)
set_option maxRecDepth 100000 in
set_option maxHeartbeats 4000000 in
theorem X12_first {d : Nat} {k : Int} {σ : Mem} {K : Int → Mem → Prop} (hd : 1 ≤ d) (ho : k < 0 ∨ 1 < k → K (-2) σ) (hk : 0 ≤ k ∧ k ≤ 1 → K (σ 64 17) (wr σ 64 17 k)) : Run mX12_first d [.inr (some 64), .inl k] σ (RI K) := by
  refine Run_of (ls := [.inr (some 64), .inl k, .inr none]) (by decide) (Nat.le_of_ble_eq_true rfl) rfl ?_
  refine v_iload1 1 dX12_first_0 rfl ?_
  refine v_iconst 2 dX12_first_1 rfl ⟨by decide +kernel, by decide⟩ ?_
  refine v_iconst 3 dX12_first_2 rfl ⟨by decide +kernel, by decide⟩ ?_
  refine v_csI3 mX12_out 6 dX12_first_3 rfl kX12_96 (by omega) (Nat.le_of_ble_eq_true rfl) ?_
  refine X12_out (fun h3 => ?_) (fun h3 => ?_)
  · skip
    refine v_if_eq 12 9 dX12_first_6 rfl rfl (fun h => absurd h (by decide)) (fun _ => ?_)
    refine v_bipush 11 dX12_first_9 rfl ⟨by decide +kernel, by decide⟩ ?_
    refine v_iretI dX12_first_11 rfl ?_
    first | exact ho (by omega) | exact hk (by omega)
  · skip
    refine v_if_eq 12 9 dX12_first_6 rfl rfl (fun _ => ?_) (fun h => absurd (by decide) h)
    refine v_aload0 13 dX12_first_12 rfl ?_
    refine v_getI 16 17 dX12_first_13 rfl fX12_117 rfl rfl rfl ?_
    refine v_istore2 17 dX12_first_16 rfl (by decide) ?_
    refine v_aload0 18 dX12_first_17 rfl ?_
    refine v_iload1 19 dX12_first_18 rfl ?_
    refine v_putI 22 17 dX12_first_19 rfl pX12_117 rfl rfl rfl ?_
    refine v_iload2 23 dX12_first_22 rfl ?_
    refine v_iretI dX12_first_23 rfl ?_
    first | exact ho (by omega) | exact hk (by omega)
