set_option maxRecDepth 100000 in
set_option maxHeartbeats 4000000 in
theorem X11_within {d : Nat} {a b c : Int} {σ : Mem} {K : Int → Mem → Prop} (ht : b ≤ a ∧ a ≤ c → K 1 σ) (hf : a < b ∨ c < a → K 0 σ) : Run mX11_within d [.inl a, .inl b, .inl c] σ (RI K) := by
  refine Run_of (ls := [.inl a, .inl b, .inl c]) (by decide) (Nat.le_of_ble_eq_true rfl) rfl ?_
  refine v_iload0 1 dX11_within_0 rfl ?_
  refine v_iload1 2 dX11_within_1 rfl ?_
  refine v_icmp_lt 14 5 dX11_within_2 rfl rfl (fun h2 => ?_) (fun h2 => ?_)
  · skip
    refine v_iconst 15 dX11_within_14 rfl ⟨by decide +kernel, by decide⟩ ?_
    refine v_zretI dX11_within_15 rfl (Or.inl rfl) ?_
    first | exact ht (by omega) | exact hf (by omega)
  · skip
    refine v_iload0 6 dX11_within_5 rfl ?_
    refine v_iload2 7 dX11_within_6 rfl ?_
    refine v_icmp_gt 14 10 dX11_within_7 rfl rfl (fun h7 => ?_) (fun h7 => ?_)
    · skip
      refine v_iconst 15 dX11_within_14 rfl ⟨by decide +kernel, by decide⟩ ?_
      refine v_zretI dX11_within_15 rfl (Or.inl rfl) ?_
      first | exact ht (by omega) | exact hf (by omega)
    · skip
      refine v_iconst 11 dX11_within_10 rfl ⟨by decide +kernel, by decide⟩ ?_
      refine v_goto 15 dX11_within_11 rfl ?_
      refine v_zretI dX11_within_15 rfl (Or.inr rfl) ?_
      first | exact ht (by omega) | exact hf (by omega)
set_option maxRecDepth 100000 in
set_option maxHeartbeats 4000000 in
theorem X3_has {d : Nat} {k : Int} {σ : Mem} {K : Int → Mem → Prop} (ht : 0 ≤ k ∧ k < σ 1 0 → K 1 σ) (hf : k < 0 ∨ σ 1 0 ≤ k → K 0 σ) : Run mX3_has d [.inr (some 1), .inl k] σ (RI K) := by
  refine Run_of (ls := [.inr (some 1), .inl k]) (by decide) (Nat.le_of_ble_eq_true rfl) rfl ?_
  refine v_iload1 1 dX3_has_0 rfl ?_
  refine v_if_lt 16 4 dX3_has_1 rfl rfl (fun h1 => ?_) (fun h1 => ?_)
  · skip
    refine v_iconst 17 dX3_has_16 rfl ⟨by decide +kernel, by decide⟩ ?_
    refine v_zretI dX3_has_17 rfl (Or.inl rfl) ?_
    first | exact ht (by omega) | exact hf (by omega)
  · skip
    refine v_iload1 5 dX3_has_4 rfl ?_
    refine v_aload0 6 dX3_has_5 rfl ?_
    refine v_getI 9 0 dX3_has_6 rfl fX3_9 rfl rfl rfl ?_
    refine v_icmp_ge 16 12 dX3_has_9 rfl rfl (fun h9 => ?_) (fun h9 => ?_)
    · skip
      refine v_iconst 17 dX3_has_16 rfl ⟨by decide +kernel, by decide⟩ ?_
      refine v_zretI dX3_has_17 rfl (Or.inl rfl) ?_
      first | exact ht (by omega) | exact hf (by omega)
    · skip
      refine v_iconst 13 dX3_has_12 rfl ⟨by decide +kernel, by decide⟩ ?_
      refine v_goto 17 dX3_has_13 rfl ?_
      refine v_zretI dX3_has_17 rfl (Or.inr rfl) ?_
      first | exact ht (by omega) | exact hf (by omega)
set_option maxRecDepth 100000 in
set_option maxHeartbeats 4000000 in
theorem X3_mayHave {d : Nat} {k v : Int} {σ : Mem} {K : Int → Mem → Prop} (hk : 0 ≤ k ∧ k < 6) (ht : σ 12 k ≤ v ∧ v ≤ σ 13 k → K 1 σ) (hf : v < σ 12 k ∨ σ 13 k < v → K 0 σ) : Run mX3_mayHave d [.inr (some 1), .inl k, .inl v] σ (RI K) := by
  refine Run_of (ls := [.inr (some 1), .inl k, .inl v]) (by decide) (Nat.le_of_ble_eq_true rfl) rfl ?_
  refine v_iload2 1 dX3_mayHave_0 rfl ?_
  refine v_aload0 2 dX3_mayHave_1 rfl ?_
  refine v_getR 5 dX3_mayHave_2 rfl fX3_15 rfl rfl ?_
  refine v_iload1 6 dX3_mayHave_5 rfl ?_
  refine v_iald 7 dX3_mayHave_6 rfl rfl (⟨by omega, by omega⟩) ?_
  refine v_icmp_lt 24 10 dX3_mayHave_7 rfl rfl (fun h7 => ?_) (fun h7 => ?_)
  · skip
    refine v_iconst 25 dX3_mayHave_24 rfl ⟨by decide +kernel, by decide⟩ ?_
    refine v_zretI dX3_mayHave_25 rfl (Or.inl rfl) ?_
    first | exact ht (by omega) | exact hf (by omega)
  · skip
    refine v_iload2 11 dX3_mayHave_10 rfl ?_
    refine v_aload0 12 dX3_mayHave_11 rfl ?_
    refine v_getR 15 dX3_mayHave_12 rfl fX3_19 rfl rfl ?_
    refine v_iload1 16 dX3_mayHave_15 rfl ?_
    refine v_iald 17 dX3_mayHave_16 rfl rfl (⟨by omega, by omega⟩) ?_
    refine v_icmp_gt 24 20 dX3_mayHave_17 rfl rfl (fun h17 => ?_) (fun h17 => ?_)
    · skip
      refine v_iconst 25 dX3_mayHave_24 rfl ⟨by decide +kernel, by decide⟩ ?_
      refine v_zretI dX3_mayHave_25 rfl (Or.inl rfl) ?_
      first | exact ht (by omega) | exact hf (by omega)
    · skip
      refine v_iconst 21 dX3_mayHave_20 rfl ⟨by decide +kernel, by decide⟩ ?_
      refine v_goto 25 dX3_mayHave_21 rfl ?_
      refine v_zretI dX3_mayHave_25 rfl (Or.inr rfl) ?_
      first | exact ht (by omega) | exact hf (by omega)
set_option maxRecDepth 100000 in
set_option maxHeartbeats 4000000 in
theorem X3_pinLets {d : Nat} {k v : Int} {σ : Mem} {K : Int → Mem → Prop} (hk : 0 ≤ k ∧ k < 6) (ht : σ 17 k = -5 ∨ σ 17 k = v → K 1 σ) (hf : σ 17 k ≠ -5 ∧ σ 17 k ≠ v → K 0 σ) : Run mX3_pinLets d [.inr (some 1), .inl k, .inl v] σ (RI K) := by
  refine Run_of (ls := [.inr (some 1), .inl k, .inl v]) (by decide) (Nat.le_of_ble_eq_true rfl) rfl ?_
  refine v_aload0 1 dX3_pinLets_0 rfl ?_
  refine v_getR 4 dX3_pinLets_1 rfl fX3_31 rfl rfl ?_
  refine v_iload1 5 dX3_pinLets_4 rfl ?_
  refine v_iald 6 dX3_pinLets_5 rfl rfl (⟨by omega, by omega⟩) ?_
  refine v_bipush 8 dX3_pinLets_6 rfl ⟨by decide +kernel, by decide⟩ ?_
  refine v_icmp_eq 21 11 dX3_pinLets_8 rfl rfl (fun h8 => ?_) (fun h8 => ?_)
  · skip
    refine v_iconst 22 dX3_pinLets_21 rfl ⟨by decide +kernel, by decide⟩ ?_
    refine v_goto 26 dX3_pinLets_22 rfl ?_
    refine v_zretI dX3_pinLets_26 rfl (Or.inr rfl) ?_
    first | exact ht (by omega) | exact hf (by omega)
  · skip
    refine v_aload0 12 dX3_pinLets_11 rfl ?_
    refine v_getR 15 dX3_pinLets_12 rfl fX3_31 rfl rfl ?_
    refine v_iload1 16 dX3_pinLets_15 rfl ?_
    refine v_iald 17 dX3_pinLets_16 rfl rfl (⟨by omega, by omega⟩) ?_
    refine v_iload2 18 dX3_pinLets_17 rfl ?_
    refine v_icmp_ne 25 21 dX3_pinLets_18 rfl rfl (fun h18 => ?_) (fun h18 => ?_)
    · skip
      refine v_iconst 26 dX3_pinLets_25 rfl ⟨by decide +kernel, by decide⟩ ?_
      refine v_zretI dX3_pinLets_26 rfl (Or.inl rfl) ?_
      first | exact ht (by omega) | exact hf (by omega)
    · skip
      refine v_iconst 22 dX3_pinLets_21 rfl ⟨by decide +kernel, by decide⟩ ?_
      refine v_goto 26 dX3_pinLets_22 rfl ?_
      refine v_zretI dX3_pinLets_26 rfl (Or.inr rfl) ?_
      first | exact ht (by omega) | exact hf (by omega)
set_option maxRecDepth 100000 in
set_option maxHeartbeats 4000000 in
theorem X5_has {d : Nat} {k : Int} {σ : Mem} {K : Int → Mem → Prop} (ht : 0 ≤ k ∧ k < σ 3 0 → K 1 σ) (hf : k < 0 ∨ σ 3 0 ≤ k → K 0 σ) : Run mX5_has d [.inr (some 3), .inl k] σ (RI K) := by
  refine Run_of (ls := [.inr (some 3), .inl k]) (by decide) (Nat.le_of_ble_eq_true rfl) rfl ?_
  refine v_iload1 1 dX5_has_0 rfl ?_
  refine v_if_lt 16 4 dX5_has_1 rfl rfl (fun h1 => ?_) (fun h1 => ?_)
  · skip
    refine v_iconst 17 dX5_has_16 rfl ⟨by decide +kernel, by decide⟩ ?_
    refine v_zretI dX5_has_17 rfl (Or.inl rfl) ?_
    first | exact ht (by omega) | exact hf (by omega)
  · skip
    refine v_iload1 5 dX5_has_4 rfl ?_
    refine v_aload0 6 dX5_has_5 rfl ?_
    refine v_getI 9 0 dX5_has_6 rfl fX5_9 rfl rfl rfl ?_
    refine v_icmp_ge 16 12 dX5_has_9 rfl rfl (fun h9 => ?_) (fun h9 => ?_)
    · skip
      refine v_iconst 17 dX5_has_16 rfl ⟨by decide +kernel, by decide⟩ ?_
      refine v_zretI dX5_has_17 rfl (Or.inl rfl) ?_
      first | exact ht (by omega) | exact hf (by omega)
    · skip
      refine v_iconst 13 dX5_has_12 rfl ⟨by decide +kernel, by decide⟩ ?_
      refine v_goto 17 dX5_has_13 rfl ?_
      refine v_zretI dX5_has_17 rfl (Or.inr rfl) ?_
      first | exact ht (by omega) | exact hf (by omega)
set_option maxRecDepth 100000 in
set_option maxHeartbeats 4000000 in
theorem X5_hasBase {d : Nat}  {σ : Mem} {K : Int → Mem → Prop} (ht : σ 3 1 ≠ -5 → K 1 σ) (hf : σ 3 1 = -5 → K 0 σ) : Run mX5_hasBase d [.inr (some 3)] σ (RI K) := by
  refine Run_of (ls := [.inr (some 3)]) (by decide) (Nat.le_of_ble_eq_true rfl) rfl ?_
  refine v_aload0 1 dX5_hasBase_0 rfl ?_
  refine v_getI 4 1 dX5_hasBase_1 rfl fX5_15 rfl rfl rfl ?_
  refine v_bipush 6 dX5_hasBase_4 rfl ⟨by decide +kernel, by decide⟩ ?_
  refine v_icmp_eq 13 9 dX5_hasBase_6 rfl rfl (fun h6 => ?_) (fun h6 => ?_)
  · skip
    refine v_iconst 14 dX5_hasBase_13 rfl ⟨by decide +kernel, by decide⟩ ?_
    refine v_zretI dX5_hasBase_14 rfl (Or.inl rfl) ?_
    first | exact ht (by omega) | exact hf (by omega)
  · skip
    refine v_iconst 10 dX5_hasBase_9 rfl ⟨by decide +kernel, by decide⟩ ?_
    refine v_goto 14 dX5_hasBase_10 rfl ?_
    refine v_zretI dX5_hasBase_14 rfl (Or.inr rfl) ?_
    first | exact ht (by omega) | exact hf (by omega)
set_option maxRecDepth 100000 in
set_option maxHeartbeats 4000000 in
theorem X8_has {d : Nat} {k : Int} {σ : Mem} {K : Int → Mem → Prop} (ht : 0 ≤ k ∧ k < σ 2 2 → K 1 σ) (hf : k < 0 ∨ σ 2 2 ≤ k → K 0 σ) : Run mX8_has d [.inr (some 2), .inl k] σ (RI K) := by
  refine Run_of (ls := [.inr (some 2), .inl k]) (by decide) (Nat.le_of_ble_eq_true rfl) rfl ?_
  refine v_iload1 1 dX8_has_0 rfl ?_
  refine v_if_lt 16 4 dX8_has_1 rfl rfl (fun h1 => ?_) (fun h1 => ?_)
  · skip
    refine v_iconst 17 dX8_has_16 rfl ⟨by decide +kernel, by decide⟩ ?_
    refine v_zretI dX8_has_17 rfl (Or.inl rfl) ?_
    first | exact ht (by omega) | exact hf (by omega)
  · skip
    refine v_iload1 5 dX8_has_4 rfl ?_
    refine v_aload0 6 dX8_has_5 rfl ?_
    refine v_getI 9 2 dX8_has_6 rfl fX8_19 rfl rfl rfl ?_
    refine v_icmp_ge 16 12 dX8_has_9 rfl rfl (fun h9 => ?_) (fun h9 => ?_)
    · skip
      refine v_iconst 17 dX8_has_16 rfl ⟨by decide +kernel, by decide⟩ ?_
      refine v_zretI dX8_has_17 rfl (Or.inl rfl) ?_
      first | exact ht (by omega) | exact hf (by omega)
    · skip
      refine v_iconst 13 dX8_has_12 rfl ⟨by decide +kernel, by decide⟩ ?_
      refine v_goto 17 dX8_has_13 rfl ?_
      refine v_zretI dX8_has_17 rfl (Or.inr rfl) ?_
      first | exact ht (by omega) | exact hf (by omega)
set_option maxRecDepth 100000 in
set_option maxHeartbeats 4000000 in
theorem X8_hasFact {d : Nat} {k : Int} {σ : Mem} {K : Int → Mem → Prop} (ht : 0 ≤ k ∧ k < σ 2 0 → K 1 σ) (hf : k < 0 ∨ σ 2 0 ≤ k → K 0 σ) : Run mX8_hasFact d [.inr (some 2), .inl k] σ (RI K) := by
  refine Run_of (ls := [.inr (some 2), .inl k]) (by decide) (Nat.le_of_ble_eq_true rfl) rfl ?_
  refine v_iload1 1 dX8_hasFact_0 rfl ?_
  refine v_if_lt 16 4 dX8_hasFact_1 rfl rfl (fun h1 => ?_) (fun h1 => ?_)
  · skip
    refine v_iconst 17 dX8_hasFact_16 rfl ⟨by decide +kernel, by decide⟩ ?_
    refine v_zretI dX8_hasFact_17 rfl (Or.inl rfl) ?_
    first | exact ht (by omega) | exact hf (by omega)
  · skip
    refine v_iload1 5 dX8_hasFact_4 rfl ?_
    refine v_aload0 6 dX8_hasFact_5 rfl ?_
    refine v_getI 9 0 dX8_hasFact_6 rfl fX8_9 rfl rfl rfl ?_
    refine v_icmp_ge 16 12 dX8_hasFact_9 rfl rfl (fun h9 => ?_) (fun h9 => ?_)
    · skip
      refine v_iconst 17 dX8_hasFact_16 rfl ⟨by decide +kernel, by decide⟩ ?_
      refine v_zretI dX8_hasFact_17 rfl (Or.inl rfl) ?_
      first | exact ht (by omega) | exact hf (by omega)
    · skip
      refine v_iconst 13 dX8_hasFact_12 rfl ⟨by decide +kernel, by decide⟩ ?_
      refine v_goto 17 dX8_hasFact_13 rfl ?_
      refine v_zretI dX8_hasFact_17 rfl (Or.inr rfl) ?_
      first | exact ht (by omega) | exact hf (by omega)
set_option maxRecDepth 100000 in
set_option maxHeartbeats 4000000 in
theorem sh34 : ∀ k, k < 3 → shapes[34 + k]? = some (0, 6, []) := by decide
theorem sh38 : ∀ k, k < 3 → shapes[38 + k]? = some (0, 6, []) := by decide
theorem sh42 : ∀ k, k < 8 → shapes[42 + k]? = some (0, 6, []) := by decide
theorem sh19 : ∀ k, k < 6 → shapes[19 + k]? = some (0, 6, []) := by decide
abbrev cbv (σ : Mem) : Int → Int := fun d => σ (34 + (σ 3 1).toNat) d
abbrev cbf (σ : Mem) : Int → Int := fun d => σ (38 + (σ 3 1).toNat) d
/-- the base is there or not -/
def CB (σ : Mem) (n : Nat) : Prop := σ 3 1 = -5 ∨ (0 ≤ σ 3 1 ∧ σ 3 1 < 3 ∧ ∀ d : Int, 0 ≤ d → d < n → 0 ≤ cbv σ d ∧ cbv σ d ≤ 5)
/-- the rules that are decided with the decision d; those that count the value v -/
def dwB (σ : Mem) (d : Int) (r : Nat) : Bool := decide (σ 27 (r : Int) ≠ 5) && decide (max (σ 28 (r : Int)) (σ 29 (r : Int)) = d)
def cvB (σ : Mem) (v : Int) (r : Nat) : Bool := decide (σ 27 (r : Int) = 5) && decide (σ 29 (r : Int) = v)
/-- the class's memory is as its calls leave it: n decisions, R rules, F facts -/
def CW (σ : Mem) (n R F : Nat) : Prop := (σ 1 0 = n ∧ n ≤ 6 ∧ σ 2 2 = R ∧ R ≤ 12 ∧ σ 2 0 = F ∧ F ≤ 6) ∧
  (∀ r : Int, 0 ≤ r → r < R → 0 ≤ σ 27 r ∧ σ 27 r ≤ 5 ∧ 0 ≤ σ 30 r ∧ σ 30 r < F ∧ (σ 27 r = 5 → 0 ≤ σ 29 r ∧ σ 29 r ≤ 5) ∧ (σ 27 r ≠ 5 → 0 ≤ σ 28 r ∧ σ 28 r < n ∧ 0 ≤ σ 29 r ∧ σ 29 r < n)) ∧
  (∀ d : Int, 0 ≤ d → d < n → 0 ≤ σ 12 d ∧ σ 12 d ≤ σ 13 d ∧ σ 13 d ≤ 5 ∧ 0 ≤ σ 14 d ∧ σ 14 d ≤ 3 ∧ 0 ≤ σ 15 d ∧ σ 15 d ≤ 100 ∧ 0 ≤ σ 16 d ∧ σ 16 d ≤ 20 ∧ (σ 17 d = -5 ∨ (σ 12 d ≤ σ 17 d ∧ σ 17 d ≤ σ 13 d))) ∧
  (∀ d v : Int, 0 ≤ d → d < 6 → 0 ≤ v → v < 6 → 0 ≤ σ (19 + d.toNat) v ∧ σ (19 + d.toNat) v ≤ 100) ∧ (∀ p : Int, 0 ≤ p → p < 4 → 0 ≤ σ 25 p ∧ σ 25 p ≤ 6) ∧ CB σ n ∧ (σ 0 11 = 0 ∨ σ 0 11 = 1) ∧
  (∀ d : Int, 0 ≤ d → d < 6 → σ 31 d = (bitsN (dwB σ d) R : Int)) ∧ (∀ v : Int, 0 ≤ v → v < 6 → σ 32 v = (bitsN (cvB σ v) R : Int))
set_option maxRecDepth 100000 in
set_option maxHeartbeats 4000000 in
theorem X5_valueThen {d : Nat} {n : Nat} {k : Int} {σ : Mem} {K : Int → Mem → Prop} (hcb : CB σ n) (hk : 0 ≤ k ∧ k < 6) (hd : 1 ≤ d) (hk0 : K (if σ 3 1 = -5 then -5 else cbv σ k) σ) : Run mX5_valueThen d [.inr (some 3), .inl k] σ (RI K) := by
  refine Run_of (ls := [.inr (some 3), .inl k]) (by decide) (Nat.le_of_ble_eq_true rfl) rfl ?_
  refine v_aload0 1 dX5_valueThen_0 rfl ?_
  refine v_cvI0 mX5_hasBase 4 dX5_valueThen_1 rfl kX5_32 rfl rfl (by omega) (Nat.le_of_ble_eq_true rfl) ?_
  refine X5_hasBase (fun h1 => ?_) (fun h1 => ?_)
  · skip
    refine v_if_eq 21 7 dX5_valueThen_4 rfl rfl (fun h => absurd h (by decide)) (fun _ => ?_)
    have hb := hcb.resolve_left h1
    refine v_aload0 8 dX5_valueThen_7 rfl ?_
    refine v_getR 11 dX5_valueThen_8 rfl fX5_20 rfl rfl ?_
    refine v_aload0 12 dX5_valueThen_11 rfl ?_
    refine v_getI 15 1 dX5_valueThen_12 rfl fX5_15 rfl rfl rfl ?_
    refine v_aald 16 dX5_valueThen_15 rfl rfl (⟨by omega, by omega⟩) ?_
    refine v_iload1 17 dX5_valueThen_16 rfl ?_
    refine v_iald 18 dX5_valueThen_17 rfl (sh34 _ (by omega)) (⟨by omega, by omega⟩) ?_
    refine v_goto 23 dX5_valueThen_18 rfl ?_
    refine v_iretI dX5_valueThen_23 rfl ?_
    first | (rw [if_neg h1] at hk0; exact hk0) | (rw [if_pos h1] at hk0; exact hk0)
  · skip
    refine v_if_eq 21 7 dX5_valueThen_4 rfl rfl (fun _ => ?_) (fun h => absurd (by decide) h)
    refine v_bipush 23 dX5_valueThen_21 rfl ⟨by decide +kernel, by decide⟩ ?_
    refine v_iretI dX5_valueThen_23 rfl ?_
    first | (rw [if_neg h1] at hk0; exact hk0) | (rw [if_pos h1] at hk0; exact hk0)
set_option maxRecDepth 100000 in
set_option maxHeartbeats 4000000 in
theorem X5_factThen {d : Nat} {n : Nat} {k : Int} {σ : Mem} {K : Int → Mem → Prop} (hcb : CB σ n) (hk : 0 ≤ k ∧ k < 6) (hd : 1 ≤ d) (hk0 : K (if σ 3 1 = -5 then -5 else cbf σ k) σ) : Run mX5_factThen d [.inr (some 3), .inl k] σ (RI K) := by
  refine Run_of (ls := [.inr (some 3), .inl k]) (by decide) (Nat.le_of_ble_eq_true rfl) rfl ?_
  refine v_aload0 1 dX5_factThen_0 rfl ?_
  refine v_cvI0 mX5_hasBase 4 dX5_factThen_1 rfl kX5_32 rfl rfl (by omega) (Nat.le_of_ble_eq_true rfl) ?_
  refine X5_hasBase (fun h1 => ?_) (fun h1 => ?_)
  · skip
    refine v_if_eq 21 7 dX5_factThen_4 rfl rfl (fun h => absurd h (by decide)) (fun _ => ?_)
    have hb := hcb.resolve_left h1
    refine v_aload0 8 dX5_factThen_7 rfl ?_
    refine v_getR 11 dX5_factThen_8 rfl fX5_23 rfl rfl ?_
    refine v_aload0 12 dX5_factThen_11 rfl ?_
    refine v_getI 15 1 dX5_factThen_12 rfl fX5_15 rfl rfl rfl ?_
    refine v_aald 16 dX5_factThen_15 rfl rfl (⟨by omega, by omega⟩) ?_
    refine v_iload1 17 dX5_factThen_16 rfl ?_
    refine v_iald 18 dX5_factThen_17 rfl (sh38 _ (by omega)) (⟨by omega, by omega⟩) ?_
    refine v_goto 23 dX5_factThen_18 rfl ?_
    refine v_iretI dX5_factThen_23 rfl ?_
    first | (rw [if_neg h1] at hk0; exact hk0) | (rw [if_pos h1] at hk0; exact hk0)
  · skip
    refine v_if_eq 21 7 dX5_factThen_4 rfl rfl (fun _ => ?_) (fun h => absurd (by decide) h)
    refine v_bipush 23 dX5_factThen_21 rfl ⟨by decide +kernel, by decide⟩ ?_
    refine v_iretI dX5_factThen_23 rfl ?_
    first | (rw [if_neg h1] at hk0; exact hk0) | (rw [if_pos h1] at hk0; exact hk0)
set_option maxRecDepth 100000 in
set_option maxHeartbeats 4000000 in
theorem X5_moves {d : Nat} {n : Nat} {k v : Int} {σ : Mem} {K : Int → Mem → Prop} (hcb : CB σ n) (hk : 0 ≤ k ∧ k < 6) (hd : 1 ≤ d) (ht : mv (σ 3 1) (cbv σ) (fun _ => v) k = true → K 1 σ) (hf : mv (σ 3 1) (cbv σ) (fun _ => v) k = false → K 0 σ) : Run mX5_moves d [.inr (some 3), .inl k, .inl v] σ (RI K) := by
  refine Run_of (ls := [.inr (some 3), .inl k, .inl v]) (by decide) (Nat.le_of_ble_eq_true rfl) rfl ?_
  refine v_aload0 1 dX5_moves_0 rfl ?_
  refine v_cvI0 mX5_hasBase 4 dX5_moves_1 rfl kX5_32 rfl rfl (by omega) (Nat.le_of_ble_eq_true rfl) ?_
  refine X5_hasBase (fun h1 => ?_) (fun h1 => ?_)
  · skip
    refine v_if_eq 26 7 dX5_moves_4 rfl rfl (fun h => absurd h (by decide)) (fun _ => ?_)
    have hb := hcb.resolve_left h1
    refine v_aload0 8 dX5_moves_7 rfl ?_
    refine v_getR 11 dX5_moves_8 rfl fX5_20 rfl rfl ?_
    refine v_aload0 12 dX5_moves_11 rfl ?_
    refine v_getI 15 1 dX5_moves_12 rfl fX5_15 rfl rfl rfl ?_
    refine v_aald 16 dX5_moves_15 rfl rfl (⟨by omega, by omega⟩) ?_
    refine v_iload1 17 dX5_moves_16 rfl ?_
    refine v_iald 18 dX5_moves_17 rfl (sh34 _ (by omega)) (⟨by omega, by omega⟩) ?_
    refine v_iload2 19 dX5_moves_18 rfl ?_
    refine v_icmp_eq 26 22 dX5_moves_19 rfl rfl (fun h19 => ?_) (fun h19 => ?_)
    · skip
      refine v_iconst 27 dX5_moves_26 rfl ⟨by decide +kernel, by decide⟩ ?_
      refine v_zretI dX5_moves_27 rfl (Or.inl rfl) ?_
      first | exact hf (decide_eq_false (fun q => q.2 h19.symm)) | exact hf (decide_eq_false (fun q => q.1 h1))
    · skip
      refine v_iconst 23 dX5_moves_22 rfl ⟨by decide +kernel, by decide⟩ ?_
      refine v_goto 27 dX5_moves_23 rfl ?_
      refine v_zretI dX5_moves_27 rfl (Or.inr rfl) ?_
      exact ht (decide_eq_true ⟨h1, fun q => h19 q.symm⟩)
  · skip
    refine v_if_eq 26 7 dX5_moves_4 rfl rfl (fun _ => ?_) (fun h => absurd (by decide) h)
    refine v_iconst 27 dX5_moves_26 rfl ⟨by decide +kernel, by decide⟩ ?_
    refine v_zretI dX5_moves_27 rfl (Or.inl rfl) ?_
    first | exact hf (decide_eq_false (fun q => q.2 h19.symm)) | exact hf (decide_eq_false (fun q => q.1 h1))
set_option maxRecDepth 100000 in
set_option maxHeartbeats 4000000 in
theorem X8_timesUpTo {d : Nat} {vp q : Nat} {v : Int} {σ : Mem} {K : Int → Mem → Prop} (hvp : shapes[vp]? = some (0, 6, [])) (hq : q < 6) (hk0 : K (sumI (fun d => one (decide (σ vp d = v))) (q + 1)) σ) : Run mX8_timesUpTo d [.inl (q : Int), .inr (some vp), .inl v] σ (RI K) := by
  refine Run_of (ls := [.inl (q : Int), .inr (some vp), .inl v, .inr none, .inr none]) (by decide) (Nat.le_of_ble_eq_true rfl) rfl ?_
  have L : ∀ (k : Nat) (i : Nat) (acc : Int), q + 1 - i < k → i ≤ q + 1 → acc = sumI (fun d => one (decide (σ vp d = v))) i → V mX8_timesUpTo d (RI K) 5 [.inl (q : Int), .inr (some vp), .inl v, .inl acc, .inl (i : Int)] [] σ := by
    intro k
    induction k with
    | zero => intros; omega
    | succ k ih =>
        intro i acc hk hi ha
        have hb1 := sumI_bnd (f := fun d => one (decide (σ vp d = v))) (m := 1) (n := i) (fun _ _ => one_bnd _)
        refine v_iload4 7 dX8_timesUpTo_5 rfl ?_
        refine v_iload0 8 dX8_timesUpTo_7 rfl ?_
        refine v_icmp_gt 28 11 dX8_timesUpTo_8 rfl rfl (fun h8 => ?_) (fun h8 => ?_)
        · skip
          refine v_iload3 29 dX8_timesUpTo_28 rfl ?_
          refine v_iretI dX8_timesUpTo_29 rfl ?_
          obtain rfl : i = q + 1 := by omega
          rw [ha]
          exact hk0
        · skip
          refine v_aload1 12 dX8_timesUpTo_11 rfl ?_
          refine v_iload4 14 dX8_timesUpTo_12 rfl ?_
          refine v_iald 15 dX8_timesUpTo_14 rfl hvp (⟨by omega, by omega⟩) ?_
          refine v_iload2 16 dX8_timesUpTo_15 rfl ?_
          refine v_icmp_ne 22 19 dX8_timesUpTo_16 rfl rfl (fun h16 => ?_) (fun h16 => ?_)
          · skip
            refine v_iinc4 25 dX8_timesUpTo_22 rfl (by decide) rfl (⟨by omega, by omega⟩) ?_
            refine v_goto 5 dX8_timesUpTo_25 rfl ?_
            first
              | exact ih (i + 1) _ (by omega) (by omega) (sum_s ha (one_dt (by omega)))
              | exact ih (i + 1) _ (by omega) (by omega) (by rw [sumI, ← ha, one_df (by omega)]; omega)
          · skip
            refine v_iinc3 22 dX8_timesUpTo_19 rfl (by decide) rfl (⟨by omega, by omega⟩) ?_
            refine v_iinc4 25 dX8_timesUpTo_22 rfl (by decide) rfl (⟨by omega, by omega⟩) ?_
            refine v_goto 5 dX8_timesUpTo_25 rfl ?_
            first
              | exact ih (i + 1) _ (by omega) (by omega) (sum_s ha (one_dt (by omega)))
              | exact ih (i + 1) _ (by omega) (by omega) (by rw [sumI, ← ha, one_df (by omega)]; omega)
  refine v_iconst 1 dX8_timesUpTo_0 rfl ⟨by decide +kernel, by decide⟩ ?_
  refine v_istore3 2 dX8_timesUpTo_1 rfl (by decide) ?_
  refine v_iconst 3 dX8_timesUpTo_2 rfl ⟨by decide +kernel, by decide⟩ ?_
  refine v_istore4 5 dX8_timesUpTo_3 rfl (by decide) ?_
  exact L (q + 2) 0 _ (by omega) (by omega) rfl
set_option maxRecDepth 100000 in
set_option maxHeartbeats 4000000 in
theorem X8_isKept {d : Nat} {vp n R F q : Nat} {r F0 : Int} {σ : Mem} {K : Int → Mem → Prop} (hw : CW σ n R F) (hvp : shapes[vp]? = some (0, 6, [])) (hp : ∀ i : Int, 0 ≤ i → i ≤ q → 0 ≤ σ vp i ∧ σ vp i ≤ 5) (hq : q < n) (hr : 0 ≤ r ∧ r < R) (hab : σ 27 r ≠ 5 → σ 28 r ≤ q ∧ σ 29 r ≤ q) (hd : 1 ≤ d) (ht : rk (σ 27 r) (σ 28 r) (σ 29 r) F0 (σ vp) (q + 1) = true → K 1 σ) (hf : rk (σ 27 r) (σ 28 r) (σ 29 r) F0 (σ vp) (q + 1) = false → K 0 σ) : Run mX8_isKept d [.inr (some 2), .inl r, .inr (some vp), .inl (q : Int), .inl F0] σ (RI K) := by
  have hw0 := hw
  obtain ⟨⟨hn, hn6, hR, hR12, hF, hF6⟩, hru, hde, hwo, hli, hcb, hwf, hbd, hbc⟩ := hw0
  have hr1 := hru r hr.1 hr.2
  refine Run_of (ls := [.inr (some 2), .inl r, .inr (some vp), .inl (q : Int), .inl F0, .inr none, .inr none]) (by decide) (Nat.le_of_ble_eq_true rfl) rfl ?_
  refine v_aload0 1 dX8_isKept_0 rfl ?_
  refine v_getR 4 dX8_isKept_1 rfl fX8_22 rfl rfl ?_
  refine v_iload1 5 dX8_isKept_4 rfl ?_
  refine v_iald 6 dX8_isKept_5 rfl rfl (⟨by omega, by omega⟩) ?_
  refine v_iconst 7 dX8_isKept_6 rfl ⟨by decide +kernel, by decide⟩ ?_
  refine v_icmp_ne 32 10 dX8_isKept_7 rfl rfl (fun h7 => ?_) (fun h7 => ?_)
  · skip
    have hk5 : σ 27 r ≠ 5 := h7
    have hq1 := hr1.2.2.2.2.2 hk5
    have hq2 := hab hk5
    have hpa := hp _ hq1.1 hq2.1
    have hpb := hp _ hq1.2.2.1 hq2.2
    refine v_aload2 33 dX8_isKept_32 rfl ?_
    refine v_aload0 34 dX8_isKept_33 rfl ?_
    refine v_getR 37 dX8_isKept_34 rfl fX8_25 rfl rfl ?_
    refine v_iload1 38 dX8_isKept_37 rfl ?_
    refine v_iald 39 dX8_isKept_38 rfl rfl (⟨by omega, by omega⟩) ?_
    refine v_iald 40 dX8_isKept_39 rfl hvp (⟨by omega, by omega⟩) ?_
    refine v_istore5 42 dX8_isKept_40 rfl (by decide) ?_
    refine v_aload2 43 dX8_isKept_42 rfl ?_
    refine v_aload0 44 dX8_isKept_43 rfl ?_
    refine v_getR 47 dX8_isKept_44 rfl fX8_28 rfl rfl ?_
    refine v_iload1 48 dX8_isKept_47 rfl ?_
    refine v_iald 49 dX8_isKept_48 rfl rfl (⟨by omega, by omega⟩) ?_
    refine v_iald 50 dX8_isKept_49 rfl hvp (⟨by omega, by omega⟩) ?_
    refine v_istore6 52 dX8_isKept_50 rfl (by decide) ?_
    refine v_aload0 53 dX8_isKept_52 rfl ?_
    refine v_getR 56 dX8_isKept_53 rfl fX8_22 rfl rfl ?_
    refine v_iload1 57 dX8_isKept_56 rfl ?_
    refine v_iald 58 dX8_isKept_57 rfl rfl (⟨by omega, by omega⟩) ?_
    rcases (show σ 27 r = 0 ∨ σ 27 r = 1 ∨ σ 27 r = 2 ∨ σ 27 r = 3 ∨ σ 27 r = 4 by omega) with hsw | hsw | hsw | hsw | hsw
    · skip
      refine v_tabIn (off := 30) 88 dX8_isKept_58 (by omega) (by omega) (by rw [hsw]; rfl) rfl ?_
      refine v_iload5 90 dX8_isKept_88 rfl ?_
      refine v_iload6 92 dX8_isKept_90 rfl ?_
      refine v_isub 93 dX8_isKept_92 rfl (⟨by omega, by omega⟩) ?_
      refine v_iload4 95 dX8_isKept_93 rfl ?_
      refine v_icmp_gt 102 98 dX8_isKept_95 rfl rfl (fun h95 => ?_) (fun h95 => ?_)
      · skip
        refine v_iconst 103 dX8_isKept_102 rfl ⟨by decide +kernel, by decide⟩ ?_
        refine v_zretI dX8_isKept_103 rfl (Or.inl rfl) ?_
        exact hf (by simp only [rk, hsw]; exact decide_eq_false (by omega))
      · skip
        refine v_iconst 99 dX8_isKept_98 rfl ⟨by decide +kernel, by decide⟩ ?_
        refine v_goto 103 dX8_isKept_99 rfl ?_
        refine v_zretI dX8_isKept_103 rfl (Or.inr rfl) ?_
        exact ht (by simp only [rk, hsw]; exact decide_eq_true (by omega))
    · skip
      refine v_tabIn (off := 46) 104 dX8_isKept_58 (by omega) (by omega) (by rw [hsw]; rfl) rfl ?_
      refine v_iload5 106 dX8_isKept_104 rfl ?_
      refine v_iload6 108 dX8_isKept_106 rfl ?_
      refine v_iadd 109 dX8_isKept_108 rfl (⟨by omega, by omega⟩) ?_
      refine v_iload4 111 dX8_isKept_109 rfl ?_
      refine v_icmp_gt 118 114 dX8_isKept_111 rfl rfl (fun h111 => ?_) (fun h111 => ?_)
      · skip
        refine v_iconst 119 dX8_isKept_118 rfl ⟨by decide +kernel, by decide⟩ ?_
        refine v_zretI dX8_isKept_119 rfl (Or.inl rfl) ?_
        exact hf (by simp only [rk, hsw]; exact decide_eq_false (by omega))
      · skip
        refine v_iconst 115 dX8_isKept_114 rfl ⟨by decide +kernel, by decide⟩ ?_
        refine v_goto 119 dX8_isKept_115 rfl ?_
        refine v_zretI dX8_isKept_119 rfl (Or.inr rfl) ?_
        exact ht (by simp only [rk, hsw]; exact decide_eq_true (by omega))
    · skip
      refine v_tabIn (off := 62) 120 dX8_isKept_58 (by omega) (by omega) (by rw [hsw]; rfl) rfl ?_
      refine v_iload5 122 dX8_isKept_120 rfl ?_
      refine v_iload6 124 dX8_isKept_122 rfl ?_
      refine v_iadd 125 dX8_isKept_124 rfl (⟨by omega, by omega⟩) ?_
      refine v_iload4 127 dX8_isKept_125 rfl ?_
      refine v_icmp_lt 134 130 dX8_isKept_127 rfl rfl (fun h127 => ?_) (fun h127 => ?_)
      · skip
        refine v_iconst 135 dX8_isKept_134 rfl ⟨by decide +kernel, by decide⟩ ?_
        refine v_zretI dX8_isKept_135 rfl (Or.inl rfl) ?_
        exact hf (by simp only [rk, hsw]; exact decide_eq_false (by omega))
      · skip
        refine v_iconst 131 dX8_isKept_130 rfl ⟨by decide +kernel, by decide⟩ ?_
        refine v_goto 135 dX8_isKept_131 rfl ?_
        refine v_zretI dX8_isKept_135 rfl (Or.inr rfl) ?_
        exact ht (by simp only [rk, hsw]; exact decide_eq_true (by omega))
    · skip
      refine v_tabIn (off := 78) 136 dX8_isKept_58 (by omega) (by omega) (by rw [hsw]; rfl) rfl ?_
      refine v_iload5 138 dX8_isKept_136 rfl ?_
      refine v_iload6 140 dX8_isKept_138 rfl ?_
      refine v_isub 141 dX8_isKept_140 rfl (⟨by omega, by omega⟩) ?_
      refine v_mabs 144 dX8_isKept_141 rfl kX8_62 (by omega) (Nat.le_of_ble_eq_true rfl) (by omega) ?_
      refine v_iload4 146 dX8_isKept_144 rfl ?_
      refine v_icmp_lt 153 149 dX8_isKept_146 rfl rfl (fun h146 => ?_) (fun h146 => ?_)
      · skip
        refine v_iconst 154 dX8_isKept_153 rfl ⟨by decide +kernel, by decide⟩ ?_
        refine v_zretI dX8_isKept_154 rfl (Or.inl rfl) ?_
        exact hf (by simp only [rk, hsw]; exact decide_eq_false (by rw [← dist_abs]; omega))
      · skip
        refine v_iconst 150 dX8_isKept_149 rfl ⟨by decide +kernel, by decide⟩ ?_
        refine v_goto 154 dX8_isKept_150 rfl ?_
        refine v_zretI dX8_isKept_154 rfl (Or.inr rfl) ?_
        exact ht (by simp only [rk, hsw]; exact decide_eq_true (by rw [← dist_abs]; omega))
    · skip
      refine v_tabOut 155 dX8_isKept_58 (by omega) rfl ?_
      refine v_iload5 157 dX8_isKept_155 rfl ?_
      refine v_iload6 159 dX8_isKept_157 rfl ?_
      refine v_isub 160 dX8_isKept_159 rfl (⟨by omega, by omega⟩) ?_
      refine v_mabs 163 dX8_isKept_160 rfl kX8_62 (by omega) (Nat.le_of_ble_eq_true rfl) (by omega) ?_
      refine v_iload4 165 dX8_isKept_163 rfl ?_
      refine v_icmp_gt 172 168 dX8_isKept_165 rfl rfl (fun h165 => ?_) (fun h165 => ?_)
      · skip
        refine v_iconst 173 dX8_isKept_172 rfl ⟨by decide +kernel, by decide⟩ ?_
        refine v_zretI dX8_isKept_173 rfl (Or.inl rfl) ?_
        exact hf (by simp only [rk, hsw]; exact decide_eq_false (by rw [← dist_abs]; omega))
      · skip
        refine v_iconst 169 dX8_isKept_168 rfl ⟨by decide +kernel, by decide⟩ ?_
        refine v_goto 173 dX8_isKept_169 rfl ?_
        refine v_zretI dX8_isKept_173 rfl (Or.inr rfl) ?_
        exact ht (by simp only [rk, hsw]; exact decide_eq_true (by rw [← dist_abs]; omega))
  · skip
    have hk5 : σ 27 r = 5 := by omega
    refine v_iload3 11 dX8_isKept_10 rfl ?_
    refine v_aload2 12 dX8_isKept_11 rfl ?_
    refine v_aload0 13 dX8_isKept_12 rfl ?_
    refine v_getR 16 dX8_isKept_13 rfl fX8_28 rfl rfl ?_
    refine v_iload1 17 dX8_isKept_16 rfl ?_
    refine v_iald 18 dX8_isKept_17 rfl rfl (⟨by omega, by omega⟩) ?_
    refine v_csI3 mX8_timesUpTo 21 dX8_isKept_18 rfl kX8_58 (by omega) (Nat.le_of_ble_eq_true rfl) ?_
    refine X8_timesUpTo hvp (by omega) ?_
    refine v_iload4 23 dX8_isKept_21 rfl ?_
    refine v_icmp_gt 30 26 dX8_isKept_23 rfl rfl (fun h23 => ?_) (fun h23 => ?_)
    · skip
      refine v_iconst 31 dX8_isKept_30 rfl ⟨by decide +kernel, by decide⟩ ?_
      refine v_zretI dX8_isKept_31 rfl (Or.inl rfl) ?_
      exact hf (by rw [rk, if_pos hk5]; exact decide_eq_false (by omega))
    · skip
      refine v_iconst 27 dX8_isKept_26 rfl ⟨by decide +kernel, by decide⟩ ?_
      refine v_goto 31 dX8_isKept_27 rfl ?_
      refine v_zretI dX8_isKept_31 rfl (Or.inr rfl) ?_
      exact ht (by rw [rk, if_pos hk5]; exact decide_eq_true (by omega))
set_option maxRecDepth 100000 in
set_option maxHeartbeats 4000000 in
theorem bor_bits (f g : Nat → Bool) {R : Nat} (hR : R ≤ 12) : bor (bitsN f R : Int) (bitsN g R : Int) = (bitsN (fun r => f r || g r) R : Int) := by
  have hf := bitsN_lt f R
  have hg := bitsN_lt g R
  have h2 : 2 ^ R ≤ 2 ^ 12 := Nat.pow_le_pow_right (by omega) hR
  rw [bor_nat (by omega) (by omega)]
  congr 1
  apply Nat.eq_of_testBit_eq
  intro i
  rw [Nat.testBit_or, bitsN_test, bitsN_test, bitsN_test]
  cases decide (i < R) <;> simp
/-- the rules that value k breaks -/
def baB (σ : Mem) (vp fp k : Nat) (r : Nat) : Bool := (dwB σ (k : Int) r || cvB σ (σ vp (k : Int)) r) && !rk (σ 27 (r : Int)) (σ 28 (r : Int)) (σ 29 (r : Int)) (σ fp (σ 30 (r : Int))) (σ vp) (k + 1)
def bnB (σ : Mem) (fp : Nat) (r : Nat) : Bool := decide (σ 27 (r : Int) = 5) && decide (σ fp (σ 30 (r : Int)) < 0)
set_option maxRecDepth 100000 in
set_option maxHeartbeats 4000000 in
theorem X8_brokenAt {d : Nat} {vp fp n R F q : Nat} {σ : Mem} {K : Int → Mem → Prop} (hw : CW σ n R F) (hvp : shapes[vp]? = some (0, 6, [])) (hfp : shapes[fp]? = some (0, 6, [])) (hp : ∀ i : Int, 0 ≤ i → i ≤ q → 0 ≤ σ vp i ∧ σ vp i ≤ 5) (hq : q < n) (hd : 2 ≤ d) (hk0 : K (bitsN (baB σ vp fp q) R : Int) σ) : Run mX8_brokenAt d [.inr (some 2), .inr (some vp), .inl (q : Int), .inr (some fp)] σ (RI K) := by
  have hw0 := hw
  obtain ⟨⟨hn, hn6, hR, hR12, hF, hF6⟩, hru, hde, hwo, hli, hcb, hwf, hbd, hbc⟩ := hw0
  have hpq := hp (q : Int) (by omega) (by omega)
  have htl : bitsN (fun r => dwB σ (q : Int) r || cvB σ (σ vp (q : Int)) r) R < 2 ^ R := bitsN_lt _ _
  have ht2 : 2 ^ R ≤ 2 ^ 12 := Nat.pow_le_pow_right (by omega) hR12
  have ht3 : (2 : Nat) ^ 12 = 4096 := by decide
  refine Run_of (ls := [.inr (some 2), .inr (some vp), .inl (q : Int), .inr (some fp), .inr none, .inr none, .inr none]) (by decide) (Nat.le_of_ble_eq_true rfl) rfl ?_
  refine v_aload0 1 dX8_brokenAt_0 rfl ?_
  refine v_getR 4 dX8_brokenAt_1 rfl fX8_34 rfl rfl ?_
  refine v_iload2 5 dX8_brokenAt_4 rfl ?_
  refine v_ialde 6 ((bitsN (dwB σ (q : Int)) R : Int)) dX8_brokenAt_5 rfl rfl (⟨by omega, by omega⟩) (hbd _ (by omega) (by omega)) ?_
  refine v_aload0 7 dX8_brokenAt_6 rfl ?_
  refine v_getR 10 dX8_brokenAt_7 rfl fX8_37 rfl rfl ?_
  refine v_aload1 11 dX8_brokenAt_10 rfl ?_
  refine v_iload2 12 dX8_brokenAt_11 rfl ?_
  refine v_iald 13 dX8_brokenAt_12 rfl hvp (⟨by omega, by omega⟩) ?_
  refine v_ialde 14 ((bitsN (cvB σ (σ vp (q : Int))) R : Int)) dX8_brokenAt_13 rfl rfl (⟨by omega, by omega⟩) (hbc _ (by omega) (by omega)) ?_
  refine v_ior 15 dX8_brokenAt_14 rfl ?_
  rw [bor_bits _ _ hR12]
  refine v_istore4 17 dX8_brokenAt_15 rfl (by decide) ?_
  have L : ∀ (k : Nat) (i acc : Nat), R - i < k → i ≤ R → acc = bitsN (baB σ vp fp q) i → V mX8_brokenAt d (RI K) 23 [.inr (some 2), .inr (some vp), .inl (q : Int), .inr (some fp), .inl ((bitsN (fun r => dwB σ (q : Int) r || cvB σ (σ vp (q : Int)) r) R : Nat) : Int), .inl (acc : Int), .inl (i : Int)] [] σ := by
    intro k
    induction k with
    | zero => intros; omega
    | succ k ih =>
        intro i acc hk hi ha
        have hb1 : acc < 2 ^ i := by rw [ha]; exact bitsN_lt _ _
        have hb2 : 2 ^ i ≤ 2 ^ 12 := Nat.pow_le_pow_right (by omega) (by omega)
        have hb3 : (2 : Nat) ^ 12 = 4096 := by decide
        refine v_iload6 25 dX8_brokenAt_23 rfl ?_
        refine v_aload0 26 dX8_brokenAt_25 rfl ?_
        refine v_getIe 29 2 (R) dX8_brokenAt_26 rfl fX8_19 rfl rfl rfl (hR) ?_
        refine v_icmp_ge 80 32 dX8_brokenAt_29 rfl rfl (fun h29 => ?_) (fun h29 => ?_)
        · skip
          refine v_iload5 82 dX8_brokenAt_80 rfl ?_
          refine v_iretI dX8_brokenAt_82 rfl ?_
          obtain rfl : i = R := by omega
          rw [ha]
          exact hk0
        · skip
          have hr1 := hru (i : Int) (by omega) (by omega)
          have htt : (bitsN (fun r => dwB σ (q : Int) r || cvB σ (σ vp (q : Int)) r) R).testBit i = (dwB σ (q : Int) i || cvB σ (σ vp (q : Int)) i) := by rw [bitsN_test, decide_eq_true (by omega : i < R), Bool.true_and]
          refine v_iload4 34 dX8_brokenAt_32 rfl ?_
          refine v_iload6 36 dX8_brokenAt_34 rfl ?_
          refine v_ishr 37 dX8_brokenAt_36 rfl ?_
          refine v_iconst 38 dX8_brokenAt_37 rfl ⟨by decide +kernel, by decide⟩ ?_
          refine v_iand 39 dX8_brokenAt_38 rfl ?_
          rw [bit_nat (by omega) (by omega : i < 32), htt]
          refine v_if_ne 45 42 dX8_brokenAt_39 rfl rfl (fun h39 => ?_) (fun h39 => ?_)
          · skip
            have htb : (dwB σ (q : Int) i || cvB σ (σ vp (q : Int)) i) = true := by
              cases hx : (dwB σ (q : Int) i || cvB σ (σ vp (q : Int)) i) with
              | true => rfl
              | false => rw [hx] at h39; exact absurd rfl h39
            refine v_aload0 46 dX8_brokenAt_45 rfl ?_
            refine v_iload6 48 dX8_brokenAt_46 rfl ?_
            refine v_aload1 49 dX8_brokenAt_48 rfl ?_
            refine v_iload2 50 dX8_brokenAt_49 rfl ?_
            refine v_aload3 51 dX8_brokenAt_50 rfl ?_
            refine v_aload0 52 dX8_brokenAt_51 rfl ?_
            refine v_getR 55 dX8_brokenAt_52 rfl fX8_31 rfl rfl ?_
            refine v_iload6 57 dX8_brokenAt_55 rfl ?_
            refine v_iald 58 dX8_brokenAt_57 rfl rfl (⟨by omega, by omega⟩) ?_
            refine v_iald 59 dX8_brokenAt_58 rfl hfp (⟨by omega, by omega⟩) ?_
            refine v_cvI4 mX8_isKept 62 dX8_brokenAt_59 rfl kX8_54 rfl rfl (by omega) (Nat.le_of_ble_eq_true rfl) ?_
            refine X8_isKept hw hvp (fun j a b => hp j a (by omega)) hq (by omega) (fun hk5 => ?_) (by omega) (fun h59 => ?_) (fun h59 => ?_)
            · have hx : dwB σ (q : Int) i = true := by
                rcases Bool.or_eq_true_iff.mp htb with h | h
                · exact h
                · exact absurd (of_decide_eq_true (Bool.and_eq_true_iff.mp h).1) hk5
              have hm := of_decide_eq_true (Bool.and_eq_true_iff.mp hx).2
              omega
            · skip
              refine v_if_ne 74 65 dX8_brokenAt_62 rfl rfl (fun _ => ?_) (fun h => absurd (by decide) h)
              refine v_iinc6 77 dX8_brokenAt_74 rfl (by decide) rfl (⟨by omega, by omega⟩) ?_
              refine v_goto 23 dX8_brokenAt_77 rfl ?_
              first
                | (rw [bshl_one (by omega : i < 31), bor_pow hb1 (by omega)]
                   exact ih (i + 1) _ (by omega) (by omega) (by simp only [bitsN, baB, htb, h59, ← ha, Bool.not_false, Bool.and_true, if_true, reduceIte]))
                | (have htb : (dwB σ (q : Int) i || cvB σ (σ vp (q : Int)) i) = false := by
                     cases hx : (dwB σ (q : Int) i || cvB σ (σ vp (q : Int)) i) with
                     | false => rfl
                     | true => exfalso; rw [hx] at h39; exact h39 (by decide)
                   exact ih (i + 1) _ (by omega) (by omega) (by simp only [bitsN, baB, htb, ← ha, Bool.false_and, if_false, Bool.false_eq_true, reduceIte, Nat.add_zero]))
                | exact ih (i + 1) _ (by omega) (by omega) (by simp only [bitsN, baB, h59, ← ha, Bool.not_true, Bool.and_false, if_false, Bool.false_eq_true, reduceIte, Nat.add_zero])
            · skip
              refine v_if_ne 74 65 dX8_brokenAt_62 rfl rfl (fun h => absurd h (by decide)) (fun _ => ?_)
              refine v_iload5 67 dX8_brokenAt_65 rfl ?_
              refine v_iconst 68 dX8_brokenAt_67 rfl ⟨by decide +kernel, by decide⟩ ?_
              refine v_iload6 70 dX8_brokenAt_68 rfl ?_
              refine v_ishl 71 dX8_brokenAt_70 rfl ?_
              refine v_ior 72 dX8_brokenAt_71 rfl ?_
              refine v_istore5 74 dX8_brokenAt_72 rfl (by decide) ?_
              refine v_iinc6 77 dX8_brokenAt_74 rfl (by decide) rfl (⟨by omega, by omega⟩) ?_
              refine v_goto 23 dX8_brokenAt_77 rfl ?_
              first
                | (rw [bshl_one (by omega : i < 31), bor_pow hb1 (by omega)]
                   exact ih (i + 1) _ (by omega) (by omega) (by simp only [bitsN, baB, htb, h59, ← ha, Bool.not_false, Bool.and_true, if_true, reduceIte]))
                | (have htb : (dwB σ (q : Int) i || cvB σ (σ vp (q : Int)) i) = false := by
                     cases hx : (dwB σ (q : Int) i || cvB σ (σ vp (q : Int)) i) with
                     | false => rfl
                     | true => exfalso; rw [hx] at h39; exact h39 (by decide)
                   exact ih (i + 1) _ (by omega) (by omega) (by simp only [bitsN, baB, htb, ← ha, Bool.false_and, if_false, Bool.false_eq_true, reduceIte, Nat.add_zero]))
                | exact ih (i + 1) _ (by omega) (by omega) (by simp only [bitsN, baB, h59, ← ha, Bool.not_true, Bool.and_false, if_false, Bool.false_eq_true, reduceIte, Nat.add_zero])
          · skip
            refine v_goto 74 dX8_brokenAt_42 rfl ?_
            refine v_iinc6 77 dX8_brokenAt_74 rfl (by decide) rfl (⟨by omega, by omega⟩) ?_
            refine v_goto 23 dX8_brokenAt_77 rfl ?_
            first
              | (rw [bshl_one (by omega : i < 31), bor_pow hb1 (by omega)]
                 exact ih (i + 1) _ (by omega) (by omega) (by simp only [bitsN, baB, htb, h59, ← ha, Bool.not_false, Bool.and_true, if_true, reduceIte]))
              | (have htb : (dwB σ (q : Int) i || cvB σ (σ vp (q : Int)) i) = false := by
                   cases hx : (dwB σ (q : Int) i || cvB σ (σ vp (q : Int)) i) with
                   | false => rfl
                   | true => exfalso; rw [hx] at h39; exact h39 (by decide)
                 exact ih (i + 1) _ (by omega) (by omega) (by simp only [bitsN, baB, htb, ← ha, Bool.false_and, if_false, Bool.false_eq_true, reduceIte, Nat.add_zero]))
              | exact ih (i + 1) _ (by omega) (by omega) (by simp only [bitsN, baB, h59, ← ha, Bool.not_true, Bool.and_false, if_false, Bool.false_eq_true, reduceIte, Nat.add_zero])
  refine v_iconst 18 dX8_brokenAt_17 rfl ⟨by decide +kernel, by decide⟩ ?_
  refine v_istore5 20 dX8_brokenAt_18 rfl (by decide) ?_
  refine v_iconst 21 dX8_brokenAt_20 rfl ⟨by decide +kernel, by decide⟩ ?_
  refine v_istore6 23 dX8_brokenAt_21 rfl (by decide) ?_
  exact L (R + 1) 0 0 (by omega) (by omega) rfl
set_option maxRecDepth 100000 in
set_option maxHeartbeats 4000000 in
theorem X8_brokenByNone {d : Nat} {fp n R F : Nat} {σ : Mem} {K : Int → Mem → Prop} (hw : CW σ n R F) (hfp : shapes[fp]? = some (0, 6, [])) (hk0 : K (bitsN (bnB σ fp) R : Int) σ) : Run mX8_brokenByNone d [.inr (some 2), .inr (some fp)] σ (RI K) := by
  have hw0 := hw
  obtain ⟨⟨hn, hn6, hR, hR12, hF, hF6⟩, hru, hde, hwo, hli, hcb, hwf, hbd, hbc⟩ := hw0
  refine Run_of (ls := [.inr (some 2), .inr (some fp), .inr none, .inr none]) (by decide) (Nat.le_of_ble_eq_true rfl) rfl ?_
  have L : ∀ (k : Nat) (i acc : Nat), R - i < k → i ≤ R → acc = bitsN (bnB σ fp) i → V mX8_brokenByNone d (RI K) 4 [.inr (some 2), .inr (some fp), .inl (acc : Int), .inl (i : Int)] [] σ := by
    intro k
    induction k with
    | zero => intros; omega
    | succ k ih =>
        intro i acc hk hi ha
        have hb1 : acc < 2 ^ i := by rw [ha]; exact bitsN_lt _ _
        have hb2 : 2 ^ i ≤ 2 ^ 12 := Nat.pow_le_pow_right (by omega) (by omega)
        have hb3 : (2 : Nat) ^ 12 = 4096 := by decide
        refine v_iload3 5 dX8_brokenByNone_4 rfl ?_
        refine v_aload0 6 dX8_brokenByNone_5 rfl ?_
        refine v_getIe 9 2 (R) dX8_brokenByNone_6 rfl fX8_19 rfl rfl rfl (hR) ?_
        refine v_icmp_ge 45 12 dX8_brokenByNone_9 rfl rfl (fun h9 => ?_) (fun h9 => ?_)
        · skip
          refine v_iload2 46 dX8_brokenByNone_45 rfl ?_
          refine v_iretI dX8_brokenByNone_46 rfl ?_
          obtain rfl : i = R := by omega
          rw [ha]
          exact hk0
        · skip
          have hr1 := hru (i : Int) (by omega) (by omega)
          refine v_aload0 13 dX8_brokenByNone_12 rfl ?_
          refine v_getR 16 dX8_brokenByNone_13 rfl fX8_22 rfl rfl ?_
          refine v_iload3 17 dX8_brokenByNone_16 rfl ?_
          refine v_iald 18 dX8_brokenByNone_17 rfl rfl (⟨by omega, by omega⟩) ?_
          refine v_iconst 19 dX8_brokenByNone_18 rfl ⟨by decide +kernel, by decide⟩ ?_
          refine v_icmp_ne 39 22 dX8_brokenByNone_19 rfl rfl (fun h19 => ?_) (fun h19 => ?_)
          · skip
            refine v_iinc3 42 dX8_brokenByNone_39 rfl (by decide) rfl (⟨by omega, by omega⟩) ?_
            refine v_goto 4 dX8_brokenByNone_42 rfl ?_
            first
              | (rw [bshl_one (by omega : i < 31), bor_pow hb1 (by omega)]
                 exact ih (i + 1) _ (by omega) (by omega) (by rw [bitsN, ← ha, bnB, decide_eq_true (by omega : σ 27 (i : Int) = 5), decide_eq_true (by omega : σ fp (σ 30 (i : Int)) < 0)]; rfl))
              | exact ih (i + 1) _ (by omega) (by omega) (by rw [bitsN, ← ha, bnB, decide_eq_false (by omega : ¬ σ fp (σ 30 (i : Int)) < 0), Bool.and_false]; rfl)
              | exact ih (i + 1) _ (by omega) (by omega) (by rw [bitsN, ← ha, bnB, decide_eq_false (by omega : ¬ σ 27 (i : Int) = 5), Bool.false_and]; rfl)
          · skip
            refine v_aload1 23 dX8_brokenByNone_22 rfl ?_
            refine v_aload0 24 dX8_brokenByNone_23 rfl ?_
            refine v_getR 27 dX8_brokenByNone_24 rfl fX8_31 rfl rfl ?_
            refine v_iload3 28 dX8_brokenByNone_27 rfl ?_
            refine v_iald 29 dX8_brokenByNone_28 rfl rfl (⟨by omega, by omega⟩) ?_
            refine v_iald 30 dX8_brokenByNone_29 rfl hfp (⟨by omega, by omega⟩) ?_
            refine v_if_ge 39 33 dX8_brokenByNone_30 rfl rfl (fun h30 => ?_) (fun h30 => ?_)
            · skip
              refine v_iinc3 42 dX8_brokenByNone_39 rfl (by decide) rfl (⟨by omega, by omega⟩) ?_
              refine v_goto 4 dX8_brokenByNone_42 rfl ?_
              first
                | (rw [bshl_one (by omega : i < 31), bor_pow hb1 (by omega)]
                   exact ih (i + 1) _ (by omega) (by omega) (by rw [bitsN, ← ha, bnB, decide_eq_true (by omega : σ 27 (i : Int) = 5), decide_eq_true (by omega : σ fp (σ 30 (i : Int)) < 0)]; rfl))
                | exact ih (i + 1) _ (by omega) (by omega) (by rw [bitsN, ← ha, bnB, decide_eq_false (by omega : ¬ σ fp (σ 30 (i : Int)) < 0), Bool.and_false]; rfl)
                | exact ih (i + 1) _ (by omega) (by omega) (by rw [bitsN, ← ha, bnB, decide_eq_false (by omega : ¬ σ 27 (i : Int) = 5), Bool.false_and]; rfl)
            · skip
              refine v_iload2 34 dX8_brokenByNone_33 rfl ?_
              refine v_iconst 35 dX8_brokenByNone_34 rfl ⟨by decide +kernel, by decide⟩ ?_
              refine v_iload3 36 dX8_brokenByNone_35 rfl ?_
              refine v_ishl 37 dX8_brokenByNone_36 rfl ?_
              refine v_ior 38 dX8_brokenByNone_37 rfl ?_
              refine v_istore2 39 dX8_brokenByNone_38 rfl (by decide) ?_
              refine v_iinc3 42 dX8_brokenByNone_39 rfl (by decide) rfl (⟨by omega, by omega⟩) ?_
              refine v_goto 4 dX8_brokenByNone_42 rfl ?_
              first
                | (rw [bshl_one (by omega : i < 31), bor_pow hb1 (by omega)]
                   exact ih (i + 1) _ (by omega) (by omega) (by rw [bitsN, ← ha, bnB, decide_eq_true (by omega : σ 27 (i : Int) = 5), decide_eq_true (by omega : σ fp (σ 30 (i : Int)) < 0)]; rfl))
                | exact ih (i + 1) _ (by omega) (by omega) (by rw [bitsN, ← ha, bnB, decide_eq_false (by omega : ¬ σ fp (σ 30 (i : Int)) < 0), Bool.and_false]; rfl)
                | exact ih (i + 1) _ (by omega) (by omega) (by rw [bitsN, ← ha, bnB, decide_eq_false (by omega : ¬ σ 27 (i : Int) = 5), Bool.false_and]; rfl)
  refine v_iconst 1 dX8_brokenByNone_0 rfl ⟨by decide +kernel, by decide⟩ ?_
  refine v_istore2 2 dX8_brokenByNone_1 rfl (by decide) ?_
  refine v_iconst 3 dX8_brokenByNone_2 rfl ⟨by decide +kernel, by decide⟩ ?_
  refine v_istore3 4 dX8_brokenByNone_3 rfl (by decide) ?_
  exact L (R + 1) 0 0 (by omega) (by omega) rfl
set_option maxRecDepth 100000 in
set_option maxHeartbeats 4000000 in
/-- the rules that are broken when the first k values are chosen -/
def pB (σ : Mem) (vp fp : Nat) : Nat → Nat → Bool
  | 0, r => bnB σ fp r
  | k + 1, r => pB σ vp fp k r || baB σ vp fp k r
set_option maxRecDepth 100000 in
set_option maxHeartbeats 4000000 in
theorem X8_brokenIn {d : Nat} {vp fp n R F q : Nat} {σ : Mem} {K : Int → Mem → Prop} (hw : CW σ n R F) (hvp : shapes[vp]? = some (0, 6, [])) (hfp : shapes[fp]? = some (0, 6, [])) (hp : ∀ i : Int, 0 ≤ i → i < q → 0 ≤ σ vp i ∧ σ vp i ≤ 5) (hq : q ≤ n) (hd : 3 ≤ d) (hk0 : K (bitsN (pB σ vp fp q) R : Int) σ) : Run mX8_brokenIn d [.inr (some 2), .inr (some vp), .inl (q : Int), .inr (some fp)] σ (RI K) := by
  have hw0 := hw
  obtain ⟨⟨hn, hn6, hR, hR12, hF, hF6⟩, hru, hde, hwo, hli, hcb, hwf, hbd, hbc⟩ := hw0
  refine Run_of (ls := [.inr (some 2), .inr (some vp), .inl (q : Int), .inr (some fp), .inr none, .inr none]) (by decide) (Nat.le_of_ble_eq_true rfl) rfl ?_
  refine v_aload0 1 dX8_brokenIn_0 rfl ?_
  refine v_aload3 2 dX8_brokenIn_1 rfl ?_
  refine v_cvI1 mX8_brokenByNone 5 dX8_brokenIn_2 rfl kX8_46 rfl rfl (by omega) (Nat.le_of_ble_eq_true rfl) ?_
  refine X8_brokenByNone hw hfp ?_
  refine v_istore4 7 dX8_brokenIn_5 rfl (by decide) ?_
  have L : ∀ (k : Nat) (i : Nat), q - i < k → i ≤ q → V mX8_brokenIn d (RI K) 10 [.inr (some 2), .inr (some vp), .inl (q : Int), .inr (some fp), .inl (bitsN (pB σ vp fp i) R : Int), .inl (i : Int)] [] σ := by
    intro k
    induction k with
    | zero => intros; omega
    | succ k ih =>
        intro i hk hi
        refine v_iload5 12 dX8_brokenIn_10 rfl ?_
        refine v_iload2 13 dX8_brokenIn_12 rfl ?_
        refine v_icmp_ge 35 16 dX8_brokenIn_13 rfl rfl (fun h13 => ?_) (fun h13 => ?_)
        · skip
          refine v_iload4 37 dX8_brokenIn_35 rfl ?_
          refine v_iretI dX8_brokenIn_37 rfl ?_
          obtain rfl : i = q := by omega
          exact hk0
        · skip
          refine v_iload4 18 dX8_brokenIn_16 rfl ?_
          refine v_aload0 19 dX8_brokenIn_18 rfl ?_
          refine v_aload1 20 dX8_brokenIn_19 rfl ?_
          refine v_iload5 22 dX8_brokenIn_20 rfl ?_
          refine v_aload3 23 dX8_brokenIn_22 rfl ?_
          refine v_cvI3 mX8_brokenAt 26 dX8_brokenIn_23 rfl kX8_50 rfl rfl (by omega) (Nat.le_of_ble_eq_true rfl) ?_
          refine X8_brokenAt hw hvp hfp (fun j a b => hp j a (by omega)) (by omega) (by omega) ?_
          refine v_ior 27 dX8_brokenIn_26 rfl ?_
          rw [bor_bits _ _ hR12]
          refine v_istore4 29 dX8_brokenIn_27 rfl (by decide) ?_
          refine v_iinc5 32 dX8_brokenIn_29 rfl (by decide) rfl (⟨by omega, by omega⟩) ?_
          refine v_goto 10 dX8_brokenIn_32 rfl ?_
          exact ih (i + 1) (by omega) (by omega)
  refine v_iconst 8 dX8_brokenIn_7 rfl ⟨by decide +kernel, by decide⟩ ?_
  refine v_istore5 10 dX8_brokenIn_8 rfl (by decide) ?_
  exact L (q + 1) 0 (by omega) (by omega)
