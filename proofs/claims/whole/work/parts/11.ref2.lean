set_option maxRecDepth 100000 in
set_option maxHeartbeats 4000000 in
theorem X12_decision {d : Nat} {n : Nat} {lo hi pe : Int} {σ : Mem} {K : Int → Mem → Prop} (hn : σ 64 0 = n) (hn6 : n ≤ 6) (hd : 2 ≤ d) (o1 : (lo < 0 ∨ 5 < lo ∨ hi < 0 ∨ 5 < hi ∨ hi < lo ∨ pe < 0 ∨ 3 < pe) → K (-2) σ) (o2 : ¬ (lo < 0 ∨ 5 < lo ∨ hi < 0 ∨ 5 < hi ∨ hi < lo ∨ pe < 0 ∨ 3 < pe) ∧ 0 < σ 64 18 → K (-3) σ) (o3 : ¬ (lo < 0 ∨ 5 < lo ∨ hi < 0 ∨ 5 < hi ∨ hi < lo ∨ pe < 0 ∨ 3 < pe) ∧ σ 64 18 ≤ 0 ∧ n = 6 → K (-4) σ) (o4 : ¬ (lo < 0 ∨ 5 < lo ∨ hi < 0 ∨ 5 < hi ∨ hi < lo ∨ pe < 0 ∨ 3 < pe) ∧ σ 64 18 ≤ 0 ∧ n < 6 → K n (wr (wr (wr (wr (wr (wr (wr (wr σ 65 n lo) 66 n hi) 67 n pe) 68 n 1) 69 n 0) 70 n (-5)) 72 n lo) 64 0 (n + 1))) : Run mX12_decision d [.inr (some 64), .inl lo, .inl hi, .inl pe] σ (RI K) := by
  refine Run_of (ls := [.inr (some 64), .inl lo, .inl hi, .inl pe, .inr none]) (by decide) (Nat.le_of_ble_eq_true rfl) rfl ?_
  refine v_iload1 1 dX12_decision_0 rfl ?_
  refine v_iconst 2 dX12_decision_1 rfl ⟨by decide +kernel, by decide⟩ ?_
  refine v_iconst 3 dX12_decision_2 rfl ⟨by decide +kernel, by decide⟩ ?_
  refine v_csI3 mX12_out 6 dX12_decision_3 rfl kX12_96 (by omega) (Nat.le_of_ble_eq_true rfl) ?_
  refine X12_out (fun h3 => ?_) (fun h3 => ?_)
  · skip
    refine v_if_ne 32 9 dX12_decision_6 rfl rfl (fun _ => ?_) (fun h => absurd (by decide) h)
    refine v_bipush 34 dX12_decision_32 rfl ⟨by decide +kernel, by decide⟩ ?_
    refine v_iretI dX12_decision_34 rfl ?_
    first | exact o1 (by omega) | exact o2 (by omega) | exact o3 (by omega) | exact o4 (by omega)
  · skip
    refine v_if_ne 32 9 dX12_decision_6 rfl rfl (fun h => absurd h (by decide)) (fun _ => ?_)
    refine v_iload2 10 dX12_decision_9 rfl ?_
    refine v_iconst 11 dX12_decision_10 rfl ⟨by decide +kernel, by decide⟩ ?_
    refine v_iconst 12 dX12_decision_11 rfl ⟨by decide +kernel, by decide⟩ ?_
    refine v_csI3 mX12_out 15 dX12_decision_12 rfl kX12_96 (by omega) (Nat.le_of_ble_eq_true rfl) ?_
    refine X12_out (fun h12 => ?_) (fun h12 => ?_)
    · skip
      refine v_if_ne 32 18 dX12_decision_15 rfl rfl (fun _ => ?_) (fun h => absurd (by decide) h)
      refine v_bipush 34 dX12_decision_32 rfl ⟨by decide +kernel, by decide⟩ ?_
      refine v_iretI dX12_decision_34 rfl ?_
      first | exact o1 (by omega) | exact o2 (by omega) | exact o3 (by omega) | exact o4 (by omega)
    · skip
      refine v_if_ne 32 18 dX12_decision_15 rfl rfl (fun h => absurd h (by decide)) (fun _ => ?_)
      refine v_iload1 19 dX12_decision_18 rfl ?_
      refine v_iload2 20 dX12_decision_19 rfl ?_
      refine v_icmp_gt 32 23 dX12_decision_20 rfl rfl (fun h20 => ?_) (fun h20 => ?_)
      · skip
        refine v_bipush 34 dX12_decision_32 rfl ⟨by decide +kernel, by decide⟩ ?_
        refine v_iretI dX12_decision_34 rfl ?_
        first | exact o1 (by omega) | exact o2 (by omega) | exact o3 (by omega) | exact o4 (by omega)
      · skip
        refine v_iload3 24 dX12_decision_23 rfl ?_
        refine v_iconst 25 dX12_decision_24 rfl ⟨by decide +kernel, by decide⟩ ?_
        refine v_iconst 26 dX12_decision_25 rfl ⟨by decide +kernel, by decide⟩ ?_
        refine v_csI3 mX12_out 29 dX12_decision_26 rfl kX12_96 (by omega) (Nat.le_of_ble_eq_true rfl) ?_
        refine X12_out (fun h26 => ?_) (fun h26 => ?_)
        · skip
          refine v_if_eq 35 32 dX12_decision_29 rfl rfl (fun h => absurd h (by decide)) (fun _ => ?_)
          refine v_bipush 34 dX12_decision_32 rfl ⟨by decide +kernel, by decide⟩ ?_
          refine v_iretI dX12_decision_34 rfl ?_
          first | exact o1 (by omega) | exact o2 (by omega) | exact o3 (by omega) | exact o4 (by omega)
        · skip
          refine v_if_eq 35 32 dX12_decision_29 rfl rfl (fun _ => ?_) (fun h => absurd (by decide) h)
          refine v_aload0 36 dX12_decision_35 rfl ?_
          refine v_getI 39 18 dX12_decision_36 rfl fX12_100 rfl rfl rfl ?_
          refine v_if_le 45 42 dX12_decision_39 rfl rfl (fun h39 => ?_) (fun h39 => ?_)
          · skip
            refine v_aload0 46 dX12_decision_45 rfl ?_
            refine v_getI 49 0 dX12_decision_46 rfl fX12_93 rfl rfl rfl ?_
            refine v_bipush 51 dX12_decision_49 rfl ⟨by decide +kernel, by decide⟩ ?_
            refine v_icmp_ne 57 54 dX12_decision_51 rfl rfl (fun h51 => ?_) (fun h51 => ?_)
            · skip
              refine v_aload0 58 dX12_decision_57 rfl ?_
              refine v_getIe 61 0 (n) dX12_decision_58 rfl fX12_93 rfl rfl rfl (hn) ?_
              refine v_istore4 63 dX12_decision_61 rfl (by decide) ?_
              refine v_aload0 64 dX12_decision_63 rfl ?_
              refine v_getR 67 dX12_decision_64 rfl fX12_7 rfl rfl ?_
              refine v_iload4 69 dX12_decision_67 rfl ?_
              refine v_iload1 70 dX12_decision_69 rfl ?_
              refine v_iast 71 dX12_decision_70 rfl rfl (⟨by omega, by omega⟩) ?_
              refine v_aload0 72 dX12_decision_71 rfl ?_
              refine v_getR 75 dX12_decision_72 rfl fX12_13 rfl rfl ?_
              refine v_iload4 77 dX12_decision_75 rfl ?_
              refine v_iload2 78 dX12_decision_77 rfl ?_
              refine v_iast 79 dX12_decision_78 rfl rfl (⟨by omega, by omega⟩) ?_
              refine v_aload0 80 dX12_decision_79 rfl ?_
              refine v_getR 83 dX12_decision_80 rfl fX12_16 rfl rfl ?_
              refine v_iload4 85 dX12_decision_83 rfl ?_
              refine v_iload3 86 dX12_decision_85 rfl ?_
              refine v_iast 87 dX12_decision_86 rfl rfl (⟨by omega, by omega⟩) ?_
              refine v_aload0 88 dX12_decision_87 rfl ?_
              refine v_getR 91 dX12_decision_88 rfl fX12_19 rfl rfl ?_
              refine v_iload4 93 dX12_decision_91 rfl ?_
              refine v_iconst 94 dX12_decision_93 rfl ⟨by decide +kernel, by decide⟩ ?_
              refine v_iast 95 dX12_decision_94 rfl rfl (⟨by omega, by omega⟩) ?_
              refine v_aload0 96 dX12_decision_95 rfl ?_
              refine v_getR 99 dX12_decision_96 rfl fX12_22 rfl rfl ?_
              refine v_iload4 101 dX12_decision_99 rfl ?_
              refine v_iconst 102 dX12_decision_101 rfl ⟨by decide +kernel, by decide⟩ ?_
              refine v_iast 103 dX12_decision_102 rfl rfl (⟨by omega, by omega⟩) ?_
              refine v_aload0 104 dX12_decision_103 rfl ?_
              refine v_getR 107 dX12_decision_104 rfl fX12_25 rfl rfl ?_
              refine v_iload4 109 dX12_decision_107 rfl ?_
              refine v_bipush 111 dX12_decision_109 rfl ⟨by decide +kernel, by decide⟩ ?_
              refine v_iast 112 dX12_decision_111 rfl rfl (⟨by omega, by omega⟩) ?_
              refine v_aload0 113 dX12_decision_112 rfl ?_
              refine v_getR 116 dX12_decision_113 rfl fX12_31 rfl rfl ?_
              refine v_iload4 118 dX12_decision_116 rfl ?_
              refine v_iload1 119 dX12_decision_118 rfl ?_
              refine v_iast 120 dX12_decision_119 rfl rfl (⟨by omega, by omega⟩) ?_
              refine v_aload0 121 dX12_decision_120 rfl ?_
              refine v_dup 122 dX12_decision_121 rfl ?_
              refine v_getIe 125 0 (n) dX12_decision_122 rfl fX12_93 rfl rfl rfl (hn) ?_
              refine v_iconst 126 dX12_decision_125 rfl ⟨by decide +kernel, by decide⟩ ?_
              refine v_iadd 127 dX12_decision_126 rfl (⟨by omega, by omega⟩) ?_
              refine v_putI 130 0 dX12_decision_127 rfl pX12_93 rfl rfl rfl ?_
              refine v_iload4 132 dX12_decision_130 rfl ?_
              refine v_iretI dX12_decision_132 rfl ?_
              first | exact o1 (by omega) | exact o2 (by omega) | exact o3 (by omega) | exact o4 (by omega)
            · skip
              refine v_bipush 56 dX12_decision_54 rfl ⟨by decide +kernel, by decide⟩ ?_
              refine v_iretI dX12_decision_56 rfl ?_
              first | exact o1 (by omega) | exact o2 (by omega) | exact o3 (by omega) | exact o4 (by omega)
          · skip
            refine v_bipush 44 dX12_decision_42 rfl ⟨by decide +kernel, by decide⟩ ?_
            refine v_iretI dX12_decision_44 rfl ?_
            first | exact o1 (by omega) | exact o2 (by omega) | exact o3 (by omega) | exact o4 (by omega)
set_option maxRecDepth 100000 in
set_option maxHeartbeats 4000000 in
theorem X12_weight {d : Nat} {n : Nat} {k w p : Int} {σ : Mem} {K : Int → Mem → Prop} (hn : σ 64 0 = n) (hn6 : n ≤ 6) (hd : 2 ≤ d) (o1 : k < 0 ∨ (n : Int) ≤ k → K (-1) σ) (o2 : (0 ≤ k ∧ k < n) ∧ (w < 0 ∨ 100 < w ∨ p < 0 ∨ 20 < p) → K (-2) σ) (o3 : (0 ≤ k ∧ k < n) ∧ ¬ (w < 0 ∨ 100 < w ∨ p < 0 ∨ 20 < p) → K 1 (wr (wr σ 68 k w) 69 k p)) : Run mX12_weight d [.inr (some 64), .inl k, .inl w, .inl p] σ (RI K) := by
  refine Run_of (ls := [.inr (some 64), .inl k, .inl w, .inl p]) (by decide) (Nat.le_of_ble_eq_true rfl) rfl ?_
  refine v_aload0 1 dX12_weight_0 rfl ?_
  refine v_iload1 2 dX12_weight_1 rfl ?_
  refine v_cvI1 mX12_noDecision 5 dX12_weight_2 rfl kX12_103 rfl rfl (by omega) (Nat.le_of_ble_eq_true rfl) ?_
  refine X12_noDecision (by omega) (by omega) (fun h2 => ?_) (fun h2 => ?_)
  · skip
    refine v_if_eq 10 8 dX12_weight_5 rfl rfl (fun h => absurd h (by decide)) (fun _ => ?_)
    refine v_iconst 9 dX12_weight_8 rfl ⟨by decide +kernel, by decide⟩ ?_
    refine v_iretI dX12_weight_9 rfl ?_
    first | exact o1 (by omega) | exact o2 (by omega) | exact o3 (by omega)
  · skip
    refine v_if_eq 10 8 dX12_weight_5 rfl rfl (fun _ => ?_) (fun h => absurd (by decide) h)
    refine v_iload2 11 dX12_weight_10 rfl ?_
    refine v_iconst 12 dX12_weight_11 rfl ⟨by decide +kernel, by decide⟩ ?_
    refine v_bipush 14 dX12_weight_12 rfl ⟨by decide +kernel, by decide⟩ ?_
    refine v_csI3 mX12_out 17 dX12_weight_14 rfl kX12_96 (by omega) (Nat.le_of_ble_eq_true rfl) ?_
    refine X12_out (fun h14 => ?_) (fun h14 => ?_)
    · skip
      refine v_if_ne 30 20 dX12_weight_17 rfl rfl (fun _ => ?_) (fun h => absurd (by decide) h)
      refine v_bipush 32 dX12_weight_30 rfl ⟨by decide +kernel, by decide⟩ ?_
      refine v_iretI dX12_weight_32 rfl ?_
      first | exact o1 (by omega) | exact o2 (by omega) | exact o3 (by omega)
    · skip
      refine v_if_ne 30 20 dX12_weight_17 rfl rfl (fun h => absurd h (by decide)) (fun _ => ?_)
      refine v_iload3 21 dX12_weight_20 rfl ?_
      refine v_iconst 22 dX12_weight_21 rfl ⟨by decide +kernel, by decide⟩ ?_
      refine v_bipush 24 dX12_weight_22 rfl ⟨by decide +kernel, by decide⟩ ?_
      refine v_csI3 mX12_out 27 dX12_weight_24 rfl kX12_96 (by omega) (Nat.le_of_ble_eq_true rfl) ?_
      refine X12_out (fun h24 => ?_) (fun h24 => ?_)
      · skip
        refine v_if_eq 33 30 dX12_weight_27 rfl rfl (fun h => absurd h (by decide)) (fun _ => ?_)
        refine v_bipush 32 dX12_weight_30 rfl ⟨by decide +kernel, by decide⟩ ?_
        refine v_iretI dX12_weight_32 rfl ?_
        first | exact o1 (by omega) | exact o2 (by omega) | exact o3 (by omega)
      · skip
        refine v_if_eq 33 30 dX12_weight_27 rfl rfl (fun _ => ?_) (fun h => absurd (by decide) h)
        refine v_aload0 34 dX12_weight_33 rfl ?_
        refine v_getR 37 dX12_weight_34 rfl fX12_19 rfl rfl ?_
        refine v_iload1 38 dX12_weight_37 rfl ?_
        refine v_iload2 39 dX12_weight_38 rfl ?_
        refine v_iast 40 dX12_weight_39 rfl rfl (⟨by omega, by omega⟩) ?_
        refine v_aload0 41 dX12_weight_40 rfl ?_
        refine v_getR 44 dX12_weight_41 rfl fX12_22 rfl rfl ?_
        refine v_iload1 45 dX12_weight_44 rfl ?_
        refine v_iload3 46 dX12_weight_45 rfl ?_
        refine v_iast 47 dX12_weight_46 rfl rfl (⟨by omega, by omega⟩) ?_
        refine v_iconst 48 dX12_weight_47 rfl ⟨by decide +kernel, by decide⟩ ?_
        refine v_iretI dX12_weight_48 rfl ?_
        first | exact o1 (by omega) | exact o2 (by omega) | exact o3 (by omega)
set_option maxRecDepth 100000 in
set_option maxHeartbeats 4000000 in
theorem X12_worth {d : Nat} {n : Nat} {k v w : Int} {σ : Mem} {K : Int → Mem → Prop} (hn : σ 64 0 = n) (hn6 : n ≤ 6) (hd : 2 ≤ d) (o1 : k < 0 ∨ (n : Int) ≤ k → K (-1) σ) (o2 : (0 ≤ k ∧ k < n) ∧ (v < 0 ∨ 5 < v ∨ w < 0 ∨ 100 < w) → K (-2) σ) (o3 : (0 ≤ k ∧ k < n) ∧ ¬ (v < 0 ∨ 5 < v ∨ w < 0 ∨ 100 < w) → K (σ 71 (6 * k + v)) (wr σ 71 (6 * k + v) w)) : Run mX12_worth d [.inr (some 64), .inl k, .inl v, .inl w] σ (RI K) := by
  refine Run_of (ls := [.inr (some 64), .inl k, .inl v, .inl w, .inr none]) (by decide) (Nat.le_of_ble_eq_true rfl) rfl ?_
  refine v_aload0 1 dX12_worth_0 rfl ?_
  refine v_iload1 2 dX12_worth_1 rfl ?_
  refine v_cvI1 mX12_noDecision 5 dX12_worth_2 rfl kX12_103 rfl rfl (by omega) (Nat.le_of_ble_eq_true rfl) ?_
  refine X12_noDecision (by omega) (by omega) (fun h2 => ?_) (fun h2 => ?_)
  · skip
    refine v_if_eq 10 8 dX12_worth_5 rfl rfl (fun h => absurd h (by decide)) (fun _ => ?_)
    refine v_iconst 9 dX12_worth_8 rfl ⟨by decide +kernel, by decide⟩ ?_
    refine v_iretI dX12_worth_9 rfl ?_
    first | exact o1 (by omega) | exact o2 (by omega) | exact o3 (by omega)
  · skip
    refine v_if_eq 10 8 dX12_worth_5 rfl rfl (fun _ => ?_) (fun h => absurd (by decide) h)
    refine v_iload2 11 dX12_worth_10 rfl ?_
    refine v_iconst 12 dX12_worth_11 rfl ⟨by decide +kernel, by decide⟩ ?_
    refine v_iconst 13 dX12_worth_12 rfl ⟨by decide +kernel, by decide⟩ ?_
    refine v_csI3 mX12_out 16 dX12_worth_13 rfl kX12_96 (by omega) (Nat.le_of_ble_eq_true rfl) ?_
    refine X12_out (fun h13 => ?_) (fun h13 => ?_)
    · skip
      refine v_if_ne 29 19 dX12_worth_16 rfl rfl (fun _ => ?_) (fun h => absurd (by decide) h)
      refine v_bipush 31 dX12_worth_29 rfl ⟨by decide +kernel, by decide⟩ ?_
      refine v_iretI dX12_worth_31 rfl ?_
      first | exact o1 (by omega) | exact o2 (by omega) | exact o3 (by omega)
    · skip
      refine v_if_ne 29 19 dX12_worth_16 rfl rfl (fun h => absurd h (by decide)) (fun _ => ?_)
      refine v_iload3 20 dX12_worth_19 rfl ?_
      refine v_iconst 21 dX12_worth_20 rfl ⟨by decide +kernel, by decide⟩ ?_
      refine v_bipush 23 dX12_worth_21 rfl ⟨by decide +kernel, by decide⟩ ?_
      refine v_csI3 mX12_out 26 dX12_worth_23 rfl kX12_96 (by omega) (Nat.le_of_ble_eq_true rfl) ?_
      refine X12_out (fun h23 => ?_) (fun h23 => ?_)
      · skip
        refine v_if_eq 32 29 dX12_worth_26 rfl rfl (fun h => absurd h (by decide)) (fun _ => ?_)
        refine v_bipush 31 dX12_worth_29 rfl ⟨by decide +kernel, by decide⟩ ?_
        refine v_iretI dX12_worth_31 rfl ?_
        first | exact o1 (by omega) | exact o2 (by omega) | exact o3 (by omega)
      · skip
        refine v_if_eq 32 29 dX12_worth_26 rfl rfl (fun _ => ?_) (fun h => absurd (by decide) h)
        refine v_aload0 33 dX12_worth_32 rfl ?_
        refine v_getR 36 dX12_worth_33 rfl fX12_28 rfl rfl ?_
        refine v_bipush 38 dX12_worth_36 rfl ⟨by decide +kernel, by decide⟩ ?_
        refine v_iload1 39 dX12_worth_38 rfl ?_
        refine v_imul 40 dX12_worth_39 rfl (⟨by omega, by omega⟩) ?_
        refine v_iload2 41 dX12_worth_40 rfl ?_
        refine v_iadd 42 dX12_worth_41 rfl (⟨by omega, by omega⟩) ?_
        refine v_iald 43 dX12_worth_42 rfl rfl (⟨by omega, by omega⟩) ?_
        refine v_istore4 45 dX12_worth_43 rfl (by decide) ?_
        refine v_aload0 46 dX12_worth_45 rfl ?_
        refine v_getR 49 dX12_worth_46 rfl fX12_28 rfl rfl ?_
        refine v_bipush 51 dX12_worth_49 rfl ⟨by decide +kernel, by decide⟩ ?_
        refine v_iload1 52 dX12_worth_51 rfl ?_
        refine v_imul 53 dX12_worth_52 rfl (⟨by omega, by omega⟩) ?_
        refine v_iload2 54 dX12_worth_53 rfl ?_
        refine v_iadd 55 dX12_worth_54 rfl (⟨by omega, by omega⟩) ?_
        refine v_iload3 56 dX12_worth_55 rfl ?_
        refine v_iast 57 dX12_worth_56 rfl rfl (⟨by omega, by omega⟩) ?_
        refine v_iload4 59 dX12_worth_57 rfl ?_
        refine v_iretI dX12_worth_59 rfl ?_
        first | exact o1 (by omega) | exact o2 (by omega) | exact o3 (by omega)
set_option maxRecDepth 100000 in
set_option maxHeartbeats 4000000 in
theorem X12_pin {d : Nat} {n : Nat} {k v : Int} {σ : Mem} {K : Int → Mem → Prop} (hn : σ 64 0 = n) (hn6 : n ≤ 6) (hd : 2 ≤ d) (o1 : k < 0 ∨ (n : Int) ≤ k → K (-1) σ) (o2 : (0 ≤ k ∧ k < n) ∧ v ≠ -5 ∧ (v < σ 65 k ∨ σ 66 k < v) → K (-2) σ) (o3 : (0 ≤ k ∧ k < n) ∧ (v = -5 ∨ (σ 65 k ≤ v ∧ v ≤ σ 66 k)) → K 1 (wr σ 70 k v)) : Run mX12_pin d [.inr (some 64), .inl k, .inl v] σ (RI K) := by
  refine Run_of (ls := [.inr (some 64), .inl k, .inl v]) (by decide) (Nat.le_of_ble_eq_true rfl) rfl ?_
  refine v_aload0 1 dX12_pin_0 rfl ?_
  refine v_iload1 2 dX12_pin_1 rfl ?_
  refine v_cvI1 mX12_noDecision 5 dX12_pin_2 rfl kX12_103 rfl rfl (by omega) (Nat.le_of_ble_eq_true rfl) ?_
  refine X12_noDecision (by omega) (by omega) (fun h2 => ?_) (fun h2 => ?_)
  · skip
    refine v_if_eq 10 8 dX12_pin_5 rfl rfl (fun h => absurd h (by decide)) (fun _ => ?_)
    refine v_iconst 9 dX12_pin_8 rfl ⟨by decide +kernel, by decide⟩ ?_
    refine v_iretI dX12_pin_9 rfl ?_
    first | exact o1 (by omega) | exact o2 (by omega) | exact o3 (by omega)
  · skip
    refine v_if_eq 10 8 dX12_pin_5 rfl rfl (fun _ => ?_) (fun h => absurd (by decide) h)
    refine v_iload2 11 dX12_pin_10 rfl ?_
    refine v_bipush 13 dX12_pin_11 rfl ⟨by decide +kernel, by decide⟩ ?_
    refine v_icmp_eq 28 16 dX12_pin_13 rfl rfl (fun h13 => ?_) (fun h13 => ?_)
    · skip
      refine v_aload0 29 dX12_pin_28 rfl ?_
      refine v_getR 32 dX12_pin_29 rfl fX12_25 rfl rfl ?_
      refine v_iload1 33 dX12_pin_32 rfl ?_
      refine v_iload2 34 dX12_pin_33 rfl ?_
      refine v_iast 35 dX12_pin_34 rfl rfl (⟨by omega, by omega⟩) ?_
      refine v_iconst 36 dX12_pin_35 rfl ⟨by decide +kernel, by decide⟩ ?_
      refine v_iretI dX12_pin_36 rfl ?_
      first | exact o1 (by omega) | exact o2 (by omega) | exact o3 (by omega)
    · skip
      refine v_aload0 17 dX12_pin_16 rfl ?_
      refine v_iload1 18 dX12_pin_17 rfl ?_
      refine v_iload2 19 dX12_pin_18 rfl ?_
      refine v_cvI2 mX12_mayHave 22 dX12_pin_19 rfl kX12_107 rfl rfl (by omega) (Nat.le_of_ble_eq_true rfl) ?_
      refine X12_mayHave (by omega) (by omega) (fun h19 => ?_) (fun h19 => ?_)
      · skip
        refine v_if_ne 28 25 dX12_pin_22 rfl rfl (fun _ => ?_) (fun h => absurd (by decide) h)
        refine v_aload0 29 dX12_pin_28 rfl ?_
        refine v_getR 32 dX12_pin_29 rfl fX12_25 rfl rfl ?_
        refine v_iload1 33 dX12_pin_32 rfl ?_
        refine v_iload2 34 dX12_pin_33 rfl ?_
        refine v_iast 35 dX12_pin_34 rfl rfl (⟨by omega, by omega⟩) ?_
        refine v_iconst 36 dX12_pin_35 rfl ⟨by decide +kernel, by decide⟩ ?_
        refine v_iretI dX12_pin_36 rfl ?_
        first | exact o1 (by omega) | exact o2 (by omega) | exact o3 (by omega)
      · skip
        refine v_if_ne 28 25 dX12_pin_22 rfl rfl (fun h => absurd h (by decide)) (fun _ => ?_)
        refine v_bipush 27 dX12_pin_25 rfl ⟨by decide +kernel, by decide⟩ ?_
        refine v_iretI dX12_pin_27 rfl ?_
        first | exact o1 (by omega) | exact o2 (by omega) | exact o3 (by omega)
set_option maxRecDepth 100000 in
set_option maxHeartbeats 4000000 in
theorem X12_limit {d : Nat} {w v : Int} {σ : Mem} {K : Int → Mem → Prop} (hd : 2 ≤ d) (o1 : w < 0 ∨ 3 < w ∨ v < 0 ∨ 6 < v → K (-2) σ) (o2 : ¬ (w < 0 ∨ 3 < w ∨ v < 0 ∨ 6 < v) → K (σ 73 w) (wr σ 73 w v)) : Run mX12_limit d [.inr (some 64), .inl w, .inl v] σ (RI K) := by
  refine Run_of (ls := [.inr (some 64), .inl w, .inl v, .inr none]) (by decide) (Nat.le_of_ble_eq_true rfl) rfl ?_
  refine v_iload1 1 dX12_limit_0 rfl ?_
  refine v_iconst 2 dX12_limit_1 rfl ⟨by decide +kernel, by decide⟩ ?_
  refine v_iconst 3 dX12_limit_2 rfl ⟨by decide +kernel, by decide⟩ ?_
  refine v_csI3 mX12_out 6 dX12_limit_3 rfl kX12_96 (by omega) (Nat.le_of_ble_eq_true rfl) ?_
  refine X12_out (fun h3 => ?_) (fun h3 => ?_)
  · skip
    refine v_if_ne 19 9 dX12_limit_6 rfl rfl (fun _ => ?_) (fun h => absurd (by decide) h)
    refine v_bipush 21 dX12_limit_19 rfl ⟨by decide +kernel, by decide⟩ ?_
    refine v_iretI dX12_limit_21 rfl ?_
    first | exact o1 (by omega) | exact o2 (by omega)
  · skip
    refine v_if_ne 19 9 dX12_limit_6 rfl rfl (fun h => absurd h (by decide)) (fun _ => ?_)
    refine v_iload2 10 dX12_limit_9 rfl ?_
    refine v_iconst 11 dX12_limit_10 rfl ⟨by decide +kernel, by decide⟩ ?_
    refine v_bipush 13 dX12_limit_11 rfl ⟨by decide +kernel, by decide⟩ ?_
    refine v_csI3 mX12_out 16 dX12_limit_13 rfl kX12_96 (by omega) (Nat.le_of_ble_eq_true rfl) ?_
    refine X12_out (fun h13 => ?_) (fun h13 => ?_)
    · skip
      refine v_if_eq 22 19 dX12_limit_16 rfl rfl (fun h => absurd h (by decide)) (fun _ => ?_)
      refine v_bipush 21 dX12_limit_19 rfl ⟨by decide +kernel, by decide⟩ ?_
      refine v_iretI dX12_limit_21 rfl ?_
      first | exact o1 (by omega) | exact o2 (by omega)
    · skip
      refine v_if_eq 22 19 dX12_limit_16 rfl rfl (fun _ => ?_) (fun h => absurd (by decide) h)
      refine v_aload0 23 dX12_limit_22 rfl ?_
      refine v_getR 26 dX12_limit_23 rfl fX12_34 rfl rfl ?_
      refine v_iload1 27 dX12_limit_26 rfl ?_
      refine v_iald 28 dX12_limit_27 rfl rfl (⟨by omega, by omega⟩) ?_
      refine v_istore3 29 dX12_limit_28 rfl (by decide) ?_
      refine v_aload0 30 dX12_limit_29 rfl ?_
      refine v_getR 33 dX12_limit_30 rfl fX12_34 rfl rfl ?_
      refine v_iload1 34 dX12_limit_33 rfl ?_
      refine v_iload2 35 dX12_limit_34 rfl ?_
      refine v_iast 36 dX12_limit_35 rfl rfl (⟨by omega, by omega⟩) ?_
      refine v_iload3 37 dX12_limit_36 rfl ?_
      refine v_iretI dX12_limit_37 rfl ?_
      first | exact o1 (by omega) | exact o2 (by omega)
set_option maxRecDepth 100000 in
set_option maxHeartbeats 4000000 in
theorem X12_fact {d : Nat} {F : Nat} {v : Int} {σ : Mem} {K : Int → Mem → Prop} (hF : σ 64 10 = F) (hF6 : F ≤ 6) (hd : 2 ≤ d) (o1 : v < -20 ∨ 20 < v → K (-2) σ) (o2 : ¬ (v < -20 ∨ 20 < v) ∧ 0 < σ 64 18 → K (-3) σ) (o3 : ¬ (v < -20 ∨ 20 < v) ∧ σ 64 18 ≤ 0 ∧ F = 6 → K (-4) σ) (o4 : ¬ (v < -20 ∨ 20 < v) ∧ σ 64 18 ≤ 0 ∧ F < 6 → K F (wr (wr σ 74 F v) 64 10 (F + 1))) : Run mX12_fact d [.inr (some 64), .inl v] σ (RI K) := by
  refine Run_of (ls := [.inr (some 64), .inl v]) (by decide) (Nat.le_of_ble_eq_true rfl) rfl ?_
  refine v_iload1 1 dX12_fact_0 rfl ?_
  refine v_bipush 3 dX12_fact_1 rfl ⟨by decide +kernel, by decide⟩ ?_
  refine v_bipush 5 dX12_fact_3 rfl ⟨by decide +kernel, by decide⟩ ?_
  refine v_csI3 mX12_out 8 dX12_fact_5 rfl kX12_96 (by omega) (Nat.le_of_ble_eq_true rfl) ?_
  refine X12_out (fun h5 => ?_) (fun h5 => ?_)
  · skip
    refine v_if_eq 14 11 dX12_fact_8 rfl rfl (fun h => absurd h (by decide)) (fun _ => ?_)
    refine v_bipush 13 dX12_fact_11 rfl ⟨by decide +kernel, by decide⟩ ?_
    refine v_iretI dX12_fact_13 rfl ?_
    first | exact o1 (by omega) | exact o2 (by omega) | exact o3 (by omega) | (rw [show (F : Int) + 1 - 1 = F by omega]; exact o4 (by omega))
  · skip
    refine v_if_eq 14 11 dX12_fact_8 rfl rfl (fun _ => ?_) (fun h => absurd (by decide) h)
    refine v_aload0 15 dX12_fact_14 rfl ?_
    refine v_getI 18 18 dX12_fact_15 rfl fX12_100 rfl rfl rfl ?_
    refine v_if_le 24 21 dX12_fact_18 rfl rfl (fun h18 => ?_) (fun h18 => ?_)
    · skip
      refine v_aload0 25 dX12_fact_24 rfl ?_
      refine v_getIe 28 10 (F) dX12_fact_25 rfl fX12_111 rfl rfl rfl (hF) ?_
      refine v_bipush 30 dX12_fact_28 rfl ⟨by decide +kernel, by decide⟩ ?_
      refine v_icmp_ne 36 33 dX12_fact_30 rfl rfl (fun h30 => ?_) (fun h30 => ?_)
      · skip
        refine v_aload0 37 dX12_fact_36 rfl ?_
        refine v_getR 40 dX12_fact_37 rfl fX12_37 rfl rfl ?_
        refine v_aload0 41 dX12_fact_40 rfl ?_
        refine v_getIe 44 10 (F) dX12_fact_41 rfl fX12_111 rfl rfl rfl (hF) ?_
        refine v_iload1 45 dX12_fact_44 rfl ?_
        refine v_iast 46 dX12_fact_45 rfl rfl (⟨by omega, by omega⟩) ?_
        refine v_aload0 47 dX12_fact_46 rfl ?_
        refine v_dup 48 dX12_fact_47 rfl ?_
        refine v_getIe 51 10 (F) dX12_fact_48 rfl fX12_111 rfl rfl rfl (hF) ?_
        refine v_iconst 52 dX12_fact_51 rfl ⟨by decide +kernel, by decide⟩ ?_
        refine v_iadd 53 dX12_fact_52 rfl (⟨by omega, by omega⟩) ?_
        refine v_putI 56 10 dX12_fact_53 rfl pX12_111 rfl rfl rfl ?_
        refine v_aload0 57 dX12_fact_56 rfl ?_
        refine v_getIe 60 10 ((F : Int) + 1) dX12_fact_57 rfl fX12_111 rfl rfl rfl (rfl) ?_
        refine v_iconst 61 dX12_fact_60 rfl ⟨by decide +kernel, by decide⟩ ?_
        refine v_isub 62 dX12_fact_61 rfl (⟨by omega, by omega⟩) ?_
        refine v_iretI dX12_fact_62 rfl ?_
        first | exact o1 (by omega) | exact o2 (by omega) | exact o3 (by omega) | (rw [show (F : Int) + 1 - 1 = F by omega]; exact o4 (by omega))
      · skip
        refine v_bipush 35 dX12_fact_33 rfl ⟨by decide +kernel, by decide⟩ ?_
        refine v_iretI dX12_fact_35 rfl ?_
        first | exact o1 (by omega) | exact o2 (by omega) | exact o3 (by omega) | (rw [show (F : Int) + 1 - 1 = F by omega]; exact o4 (by omega))
    · skip
      refine v_bipush 23 dX12_fact_21 rfl ⟨by decide +kernel, by decide⟩ ?_
      refine v_iretI dX12_fact_23 rfl ?_
      first | exact o1 (by omega) | exact o2 (by omega) | exact o3 (by omega) | (rw [show (F : Int) + 1 - 1 = F by omega]; exact o4 (by omega))
set_option maxRecDepth 100000 in
set_option maxHeartbeats 4000000 in
theorem X12_change {d : Nat} {F : Nat} {k v : Int} {σ : Mem} {K : Int → Mem → Prop} (hF : σ 64 10 = F) (hF6 : F ≤ 6) (hd : 2 ≤ d) (o1 : k < 0 ∨ (F : Int) ≤ k → K (-1) σ) (o2 : (0 ≤ k ∧ k < F) ∧ (v < -20 ∨ 20 < v) → K (-2) σ) (o3 : (0 ≤ k ∧ k < F) ∧ ¬ (v < -20 ∨ 20 < v) → K (σ 74 k) (wr σ 74 k v)) : Run mX12_change d [.inr (some 64), .inl k, .inl v] σ (RI K) := by
  refine Run_of (ls := [.inr (some 64), .inl k, .inl v, .inr none]) (by decide) (Nat.le_of_ble_eq_true rfl) rfl ?_
  refine v_iload1 1 dX12_change_0 rfl ?_
  refine v_iconst 2 dX12_change_1 rfl ⟨by decide +kernel, by decide⟩ ?_
  refine v_aload0 3 dX12_change_2 rfl ?_
  refine v_getI 6 10 dX12_change_3 rfl fX12_111 rfl rfl rfl ?_
  refine v_iconst 7 dX12_change_6 rfl ⟨by decide +kernel, by decide⟩ ?_
  refine v_isub 8 dX12_change_7 rfl (⟨by omega, by omega⟩) ?_
  refine v_csI3 mX12_out 11 dX12_change_8 rfl kX12_96 (by omega) (Nat.le_of_ble_eq_true rfl) ?_
  refine X12_out (fun h8 => ?_) (fun h8 => ?_)
  · skip
    refine v_if_eq 16 14 dX12_change_11 rfl rfl (fun h => absurd h (by decide)) (fun _ => ?_)
    refine v_iconst 15 dX12_change_14 rfl ⟨by decide +kernel, by decide⟩ ?_
    refine v_iretI dX12_change_15 rfl ?_
    first | exact o1 (by omega) | exact o2 (by omega) | exact o3 (by omega)
  · skip
    refine v_if_eq 16 14 dX12_change_11 rfl rfl (fun _ => ?_) (fun h => absurd (by decide) h)
    refine v_iload2 17 dX12_change_16 rfl ?_
    refine v_bipush 19 dX12_change_17 rfl ⟨by decide +kernel, by decide⟩ ?_
    refine v_bipush 21 dX12_change_19 rfl ⟨by decide +kernel, by decide⟩ ?_
    refine v_csI3 mX12_out 24 dX12_change_21 rfl kX12_96 (by omega) (Nat.le_of_ble_eq_true rfl) ?_
    refine X12_out (fun h21 => ?_) (fun h21 => ?_)
    · skip
      refine v_if_eq 30 27 dX12_change_24 rfl rfl (fun h => absurd h (by decide)) (fun _ => ?_)
      refine v_bipush 29 dX12_change_27 rfl ⟨by decide +kernel, by decide⟩ ?_
      refine v_iretI dX12_change_29 rfl ?_
      first | exact o1 (by omega) | exact o2 (by omega) | exact o3 (by omega)
    · skip
      refine v_if_eq 30 27 dX12_change_24 rfl rfl (fun _ => ?_) (fun h => absurd (by decide) h)
      refine v_aload0 31 dX12_change_30 rfl ?_
      refine v_getR 34 dX12_change_31 rfl fX12_37 rfl rfl ?_
      refine v_iload1 35 dX12_change_34 rfl ?_
      refine v_iald 36 dX12_change_35 rfl rfl (⟨by omega, by omega⟩) ?_
      refine v_istore3 37 dX12_change_36 rfl (by decide) ?_
      refine v_aload0 38 dX12_change_37 rfl ?_
      refine v_getR 41 dX12_change_38 rfl fX12_37 rfl rfl ?_
      refine v_iload1 42 dX12_change_41 rfl ?_
      refine v_iload2 43 dX12_change_42 rfl ?_
      refine v_iast 44 dX12_change_43 rfl rfl (⟨by omega, by omega⟩) ?_
      refine v_iload3 45 dX12_change_44 rfl ?_
      refine v_iretI dX12_change_45 rfl ?_
      first | exact o1 (by omega) | exact o2 (by omega) | exact o3 (by omega)
set_option maxRecDepth 100000 in
set_option maxHeartbeats 4000000 in
theorem X12_rule {d : Nat} {n R F : Nat} {kd a b f : Int} {σ : Mem} {K : Int → Mem → Prop} (hn : σ 64 0 = n) (hn6 : n ≤ 6) (hd : 2 ≤ d) (hF : σ 64 10 = F) (hF6 : F ≤ 6) (hR : σ 64 12 = R) (hR12 : R ≤ 12) (o1 : (kd < 0 ∨ 5 < kd ∨ (kd = 5 ∧ (b < 0 ∨ 5 < b))) → K (-2) σ) (o2 : ¬ (kd < 0 ∨ 5 < kd ∨ (kd = 5 ∧ (b < 0 ∨ 5 < b))) ∧ ((kd ≠ 5 ∧ (a < 0 ∨ (n : Int) ≤ a ∨ b < 0 ∨ (n : Int) ≤ b)) ∨ f < 0 ∨ (F : Int) ≤ f) → K (-1) σ) (o3 : ¬ (kd < 0 ∨ 5 < kd ∨ (kd = 5 ∧ (b < 0 ∨ 5 < b))) ∧ ¬ ((kd ≠ 5 ∧ (a < 0 ∨ (n : Int) ≤ a ∨ b < 0 ∨ (n : Int) ≤ b)) ∨ f < 0 ∨ (F : Int) ≤ f) ∧ R = 12 → K (-4) σ) (o4 : ¬ (kd < 0 ∨ 5 < kd ∨ (kd = 5 ∧ (b < 0 ∨ 5 < b))) ∧ ¬ ((kd ≠ 5 ∧ (a < 0 ∨ (n : Int) ≤ a ∨ b < 0 ∨ (n : Int) ≤ b)) ∨ f < 0 ∨ (F : Int) ≤ f) ∧ R < 12 → K R (wr (wr (wr (wr (wr σ 75 R kd) 76 R a) 77 R b) 78 R f) 64 12 (R + 1))) : Run mX12_rule d [.inr (some 64), .inl kd, .inl a, .inl b, .inl f] σ (RI K) := by
  refine Run_of (ls := [.inr (some 64), .inl kd, .inl a, .inl b, .inl f]) (by decide) (Nat.le_of_ble_eq_true rfl) rfl ?_
  refine v_iload1 1 dX12_rule_0 rfl ?_
  refine v_iconst 2 dX12_rule_1 rfl ⟨by decide +kernel, by decide⟩ ?_
  refine v_iconst 3 dX12_rule_2 rfl ⟨by decide +kernel, by decide⟩ ?_
  refine v_csI3 mX12_out 6 dX12_rule_3 rfl kX12_96 (by omega) (Nat.le_of_ble_eq_true rfl) ?_
  refine X12_out (fun h3 => ?_) (fun h3 => ?_)
  · skip
    refine v_if_ne 23 9 dX12_rule_6 rfl rfl (fun _ => ?_) (fun h => absurd (by decide) h)
    refine v_bipush 25 dX12_rule_23 rfl ⟨by decide +kernel, by decide⟩ ?_
    refine v_iretI dX12_rule_25 rfl ?_
    first | exact o1 (by omega) | exact o2 (by omega) | exact o3 (by omega) | (rw [show (R : Int) + 1 - 1 = R by omega]; exact o4 (by omega))
  · skip
    refine v_if_ne 23 9 dX12_rule_6 rfl rfl (fun h => absurd h (by decide)) (fun _ => ?_)
    refine v_iload1 10 dX12_rule_9 rfl ?_
    refine v_iconst 11 dX12_rule_10 rfl ⟨by decide +kernel, by decide⟩ ?_
    refine v_icmp_ne 26 14 dX12_rule_11 rfl rfl (fun h11 => ?_) (fun h11 => ?_)
    · skip
      refine v_iload1 27 dX12_rule_26 rfl ?_
      refine v_iconst 28 dX12_rule_27 rfl ⟨by decide +kernel, by decide⟩ ?_
      refine v_icmp_ge 47 31 dX12_rule_28 rfl rfl (fun h28 => ?_) (fun h28 => ?_)
      · skip
        refine v_iload4 49 dX12_rule_47 rfl ?_
        refine v_iconst 50 dX12_rule_49 rfl ⟨by decide +kernel, by decide⟩ ?_
        refine v_aload0 51 dX12_rule_50 rfl ?_
        refine v_getI 54 10 dX12_rule_51 rfl fX12_111 rfl rfl rfl ?_
        refine v_iconst 55 dX12_rule_54 rfl ⟨by decide +kernel, by decide⟩ ?_
        refine v_isub 56 dX12_rule_55 rfl (⟨by omega, by omega⟩) ?_
        refine v_csI3 mX12_out 59 dX12_rule_56 rfl kX12_96 (by omega) (Nat.le_of_ble_eq_true rfl) ?_
        refine X12_out (fun h56 => ?_) (fun h56 => ?_)
        · skip
          refine v_if_eq 64 62 dX12_rule_59 rfl rfl (fun h => absurd h (by decide)) (fun _ => ?_)
          refine v_iconst 63 dX12_rule_62 rfl ⟨by decide +kernel, by decide⟩ ?_
          refine v_iretI dX12_rule_63 rfl ?_
          first | exact o1 (by omega) | exact o2 (by omega) | exact o3 (by omega) | (rw [show (R : Int) + 1 - 1 = R by omega]; exact o4 (by omega))
        · skip
          refine v_if_eq 64 62 dX12_rule_59 rfl rfl (fun _ => ?_) (fun h => absurd (by decide) h)
          refine v_aload0 65 dX12_rule_64 rfl ?_
          refine v_getIe 68 12 (R) dX12_rule_65 rfl fX12_114 rfl rfl rfl (hR) ?_
          refine v_bipush 70 dX12_rule_68 rfl ⟨by decide +kernel, by decide⟩ ?_
          refine v_icmp_ne 76 73 dX12_rule_70 rfl rfl (fun h70 => ?_) (fun h70 => ?_)
          · skip
            refine v_aload0 77 dX12_rule_76 rfl ?_
            refine v_getR 80 dX12_rule_77 rfl fX12_40 rfl rfl ?_
            refine v_aload0 81 dX12_rule_80 rfl ?_
            refine v_getIe 84 12 (R) dX12_rule_81 rfl fX12_114 rfl rfl rfl (hR) ?_
            refine v_iload1 85 dX12_rule_84 rfl ?_
            refine v_iast 86 dX12_rule_85 rfl rfl (⟨by omega, by omega⟩) ?_
            refine v_aload0 87 dX12_rule_86 rfl ?_
            refine v_getR 90 dX12_rule_87 rfl fX12_43 rfl rfl ?_
            refine v_aload0 91 dX12_rule_90 rfl ?_
            refine v_getIe 94 12 (R) dX12_rule_91 rfl fX12_114 rfl rfl rfl (hR) ?_
            refine v_iload2 95 dX12_rule_94 rfl ?_
            refine v_iast 96 dX12_rule_95 rfl rfl (⟨by omega, by omega⟩) ?_
            refine v_aload0 97 dX12_rule_96 rfl ?_
            refine v_getR 100 dX12_rule_97 rfl fX12_46 rfl rfl ?_
            refine v_aload0 101 dX12_rule_100 rfl ?_
            refine v_getIe 104 12 (R) dX12_rule_101 rfl fX12_114 rfl rfl rfl (hR) ?_
            refine v_iload3 105 dX12_rule_104 rfl ?_
            refine v_iast 106 dX12_rule_105 rfl rfl (⟨by omega, by omega⟩) ?_
            refine v_aload0 107 dX12_rule_106 rfl ?_
            refine v_getR 110 dX12_rule_107 rfl fX12_49 rfl rfl ?_
            refine v_aload0 111 dX12_rule_110 rfl ?_
            refine v_getIe 114 12 (R) dX12_rule_111 rfl fX12_114 rfl rfl rfl (hR) ?_
            refine v_iload4 116 dX12_rule_114 rfl ?_
            refine v_iast 117 dX12_rule_116 rfl rfl (⟨by omega, by omega⟩) ?_
            refine v_aload0 118 dX12_rule_117 rfl ?_
            refine v_dup 119 dX12_rule_118 rfl ?_
            refine v_getIe 122 12 (R) dX12_rule_119 rfl fX12_114 rfl rfl rfl (hR) ?_
            refine v_iconst 123 dX12_rule_122 rfl ⟨by decide +kernel, by decide⟩ ?_
            refine v_iadd 124 dX12_rule_123 rfl (⟨by omega, by omega⟩) ?_
            refine v_putI 127 12 dX12_rule_124 rfl pX12_114 rfl rfl rfl ?_
            refine v_aload0 128 dX12_rule_127 rfl ?_
            refine v_getIe 131 12 ((R : Int) + 1) dX12_rule_128 rfl fX12_114 rfl rfl rfl (rfl) ?_
            refine v_iconst 132 dX12_rule_131 rfl ⟨by decide +kernel, by decide⟩ ?_
            refine v_isub 133 dX12_rule_132 rfl (⟨by omega, by omega⟩) ?_
            refine v_iretI dX12_rule_133 rfl ?_
            first | exact o1 (by omega) | exact o2 (by omega) | exact o3 (by omega) | (rw [show (R : Int) + 1 - 1 = R by omega]; exact o4 (by omega))
          · skip
            refine v_bipush 75 dX12_rule_73 rfl ⟨by decide +kernel, by decide⟩ ?_
            refine v_iretI dX12_rule_75 rfl ?_
            first | exact o1 (by omega) | exact o2 (by omega) | exact o3 (by omega) | (rw [show (R : Int) + 1 - 1 = R by omega]; exact o4 (by omega))
      · skip
        refine v_aload0 32 dX12_rule_31 rfl ?_
        refine v_iload2 33 dX12_rule_32 rfl ?_
        refine v_cvI1 mX12_noDecision 36 dX12_rule_33 rfl kX12_103 rfl rfl (by omega) (Nat.le_of_ble_eq_true rfl) ?_
        refine X12_noDecision (by omega) (by omega) (fun h33 => ?_) (fun h33 => ?_)
        · skip
          refine v_if_ne 62 39 dX12_rule_36 rfl rfl (fun _ => ?_) (fun h => absurd (by decide) h)
          refine v_iconst 63 dX12_rule_62 rfl ⟨by decide +kernel, by decide⟩ ?_
          refine v_iretI dX12_rule_63 rfl ?_
          first | exact o1 (by omega) | exact o2 (by omega) | exact o3 (by omega) | (rw [show (R : Int) + 1 - 1 = R by omega]; exact o4 (by omega))
        · skip
          refine v_if_ne 62 39 dX12_rule_36 rfl rfl (fun h => absurd h (by decide)) (fun _ => ?_)
          refine v_aload0 40 dX12_rule_39 rfl ?_
          refine v_iload3 41 dX12_rule_40 rfl ?_
          refine v_cvI1 mX12_noDecision 44 dX12_rule_41 rfl kX12_103 rfl rfl (by omega) (Nat.le_of_ble_eq_true rfl) ?_
          refine X12_noDecision (by omega) (by omega) (fun h41 => ?_) (fun h41 => ?_)
          · skip
            refine v_if_ne 62 47 dX12_rule_44 rfl rfl (fun _ => ?_) (fun h => absurd (by decide) h)
            refine v_iconst 63 dX12_rule_62 rfl ⟨by decide +kernel, by decide⟩ ?_
            refine v_iretI dX12_rule_63 rfl ?_
            first | exact o1 (by omega) | exact o2 (by omega) | exact o3 (by omega) | (rw [show (R : Int) + 1 - 1 = R by omega]; exact o4 (by omega))
          · skip
            refine v_if_ne 62 47 dX12_rule_44 rfl rfl (fun h => absurd h (by decide)) (fun _ => ?_)
            refine v_iload4 49 dX12_rule_47 rfl ?_
            refine v_iconst 50 dX12_rule_49 rfl ⟨by decide +kernel, by decide⟩ ?_
            refine v_aload0 51 dX12_rule_50 rfl ?_
            refine v_getI 54 10 dX12_rule_51 rfl fX12_111 rfl rfl rfl ?_
            refine v_iconst 55 dX12_rule_54 rfl ⟨by decide +kernel, by decide⟩ ?_
            refine v_isub 56 dX12_rule_55 rfl (⟨by omega, by omega⟩) ?_
            refine v_csI3 mX12_out 59 dX12_rule_56 rfl kX12_96 (by omega) (Nat.le_of_ble_eq_true rfl) ?_
            refine X12_out (fun h56 => ?_) (fun h56 => ?_)
            · skip
              refine v_if_eq 64 62 dX12_rule_59 rfl rfl (fun h => absurd h (by decide)) (fun _ => ?_)
              refine v_iconst 63 dX12_rule_62 rfl ⟨by decide +kernel, by decide⟩ ?_
              refine v_iretI dX12_rule_63 rfl ?_
              first | exact o1 (by omega) | exact o2 (by omega) | exact o3 (by omega) | (rw [show (R : Int) + 1 - 1 = R by omega]; exact o4 (by omega))
            · skip
              refine v_if_eq 64 62 dX12_rule_59 rfl rfl (fun _ => ?_) (fun h => absurd (by decide) h)
              refine v_aload0 65 dX12_rule_64 rfl ?_
              refine v_getIe 68 12 (R) dX12_rule_65 rfl fX12_114 rfl rfl rfl (hR) ?_
              refine v_bipush 70 dX12_rule_68 rfl ⟨by decide +kernel, by decide⟩ ?_
              refine v_icmp_ne 76 73 dX12_rule_70 rfl rfl (fun h70 => ?_) (fun h70 => ?_)
              · skip
                refine v_aload0 77 dX12_rule_76 rfl ?_
                refine v_getR 80 dX12_rule_77 rfl fX12_40 rfl rfl ?_
                refine v_aload0 81 dX12_rule_80 rfl ?_
                refine v_getIe 84 12 (R) dX12_rule_81 rfl fX12_114 rfl rfl rfl (hR) ?_
                refine v_iload1 85 dX12_rule_84 rfl ?_
                refine v_iast 86 dX12_rule_85 rfl rfl (⟨by omega, by omega⟩) ?_
                refine v_aload0 87 dX12_rule_86 rfl ?_
                refine v_getR 90 dX12_rule_87 rfl fX12_43 rfl rfl ?_
                refine v_aload0 91 dX12_rule_90 rfl ?_
                refine v_getIe 94 12 (R) dX12_rule_91 rfl fX12_114 rfl rfl rfl (hR) ?_
                refine v_iload2 95 dX12_rule_94 rfl ?_
                refine v_iast 96 dX12_rule_95 rfl rfl (⟨by omega, by omega⟩) ?_
                refine v_aload0 97 dX12_rule_96 rfl ?_
                refine v_getR 100 dX12_rule_97 rfl fX12_46 rfl rfl ?_
                refine v_aload0 101 dX12_rule_100 rfl ?_
                refine v_getIe 104 12 (R) dX12_rule_101 rfl fX12_114 rfl rfl rfl (hR) ?_
                refine v_iload3 105 dX12_rule_104 rfl ?_
                refine v_iast 106 dX12_rule_105 rfl rfl (⟨by omega, by omega⟩) ?_
                refine v_aload0 107 dX12_rule_106 rfl ?_
                refine v_getR 110 dX12_rule_107 rfl fX12_49 rfl rfl ?_
                refine v_aload0 111 dX12_rule_110 rfl ?_
                refine v_getIe 114 12 (R) dX12_rule_111 rfl fX12_114 rfl rfl rfl (hR) ?_
                refine v_iload4 116 dX12_rule_114 rfl ?_
                refine v_iast 117 dX12_rule_116 rfl rfl (⟨by omega, by omega⟩) ?_
                refine v_aload0 118 dX12_rule_117 rfl ?_
                refine v_dup 119 dX12_rule_118 rfl ?_
                refine v_getIe 122 12 (R) dX12_rule_119 rfl fX12_114 rfl rfl rfl (hR) ?_
                refine v_iconst 123 dX12_rule_122 rfl ⟨by decide +kernel, by decide⟩ ?_
                refine v_iadd 124 dX12_rule_123 rfl (⟨by omega, by omega⟩) ?_
                refine v_putI 127 12 dX12_rule_124 rfl pX12_114 rfl rfl rfl ?_
                refine v_aload0 128 dX12_rule_127 rfl ?_
                refine v_getIe 131 12 ((R : Int) + 1) dX12_rule_128 rfl fX12_114 rfl rfl rfl (rfl) ?_
                refine v_iconst 132 dX12_rule_131 rfl ⟨by decide +kernel, by decide⟩ ?_
                refine v_isub 133 dX12_rule_132 rfl (⟨by omega, by omega⟩) ?_
                refine v_iretI dX12_rule_133 rfl ?_
                first | exact o1 (by omega) | exact o2 (by omega) | exact o3 (by omega) | (rw [show (R : Int) + 1 - 1 = R by omega]; exact o4 (by omega))
              · skip
                refine v_bipush 75 dX12_rule_73 rfl ⟨by decide +kernel, by decide⟩ ?_
                refine v_iretI dX12_rule_75 rfl ?_
                first | exact o1 (by omega) | exact o2 (by omega) | exact o3 (by omega) | (rw [show (R : Int) + 1 - 1 = R by omega]; exact o4 (by omega))
    · skip
      refine v_iload3 15 dX12_rule_14 rfl ?_
      refine v_iconst 16 dX12_rule_15 rfl ⟨by decide +kernel, by decide⟩ ?_
      refine v_iconst 17 dX12_rule_16 rfl ⟨by decide +kernel, by decide⟩ ?_
      refine v_csI3 mX12_out 20 dX12_rule_17 rfl kX12_96 (by omega) (Nat.le_of_ble_eq_true rfl) ?_
      refine X12_out (fun h17 => ?_) (fun h17 => ?_)
      · skip
        refine v_if_eq 26 23 dX12_rule_20 rfl rfl (fun h => absurd h (by decide)) (fun _ => ?_)
        refine v_bipush 25 dX12_rule_23 rfl ⟨by decide +kernel, by decide⟩ ?_
        refine v_iretI dX12_rule_25 rfl ?_
        first | exact o1 (by omega) | exact o2 (by omega) | exact o3 (by omega) | (rw [show (R : Int) + 1 - 1 = R by omega]; exact o4 (by omega))
      · skip
        refine v_if_eq 26 23 dX12_rule_20 rfl rfl (fun _ => ?_) (fun h => absurd (by decide) h)
        refine v_iload1 27 dX12_rule_26 rfl ?_
        refine v_iconst 28 dX12_rule_27 rfl ⟨by decide +kernel, by decide⟩ ?_
        refine v_icmp_ge 47 31 dX12_rule_28 rfl rfl (fun h28 => ?_) (fun h28 => ?_)
        · skip
          refine v_iload4 49 dX12_rule_47 rfl ?_
          refine v_iconst 50 dX12_rule_49 rfl ⟨by decide +kernel, by decide⟩ ?_
          refine v_aload0 51 dX12_rule_50 rfl ?_
          refine v_getI 54 10 dX12_rule_51 rfl fX12_111 rfl rfl rfl ?_
          refine v_iconst 55 dX12_rule_54 rfl ⟨by decide +kernel, by decide⟩ ?_
          refine v_isub 56 dX12_rule_55 rfl (⟨by omega, by omega⟩) ?_
          refine v_csI3 mX12_out 59 dX12_rule_56 rfl kX12_96 (by omega) (Nat.le_of_ble_eq_true rfl) ?_
          refine X12_out (fun h56 => ?_) (fun h56 => ?_)
          · skip
            refine v_if_eq 64 62 dX12_rule_59 rfl rfl (fun h => absurd h (by decide)) (fun _ => ?_)
            refine v_iconst 63 dX12_rule_62 rfl ⟨by decide +kernel, by decide⟩ ?_
            refine v_iretI dX12_rule_63 rfl ?_
            first | exact o1 (by omega) | exact o2 (by omega) | exact o3 (by omega) | (rw [show (R : Int) + 1 - 1 = R by omega]; exact o4 (by omega))
          · skip
            refine v_if_eq 64 62 dX12_rule_59 rfl rfl (fun _ => ?_) (fun h => absurd (by decide) h)
            refine v_aload0 65 dX12_rule_64 rfl ?_
            refine v_getIe 68 12 (R) dX12_rule_65 rfl fX12_114 rfl rfl rfl (hR) ?_
            refine v_bipush 70 dX12_rule_68 rfl ⟨by decide +kernel, by decide⟩ ?_
            refine v_icmp_ne 76 73 dX12_rule_70 rfl rfl (fun h70 => ?_) (fun h70 => ?_)
            · skip
              refine v_aload0 77 dX12_rule_76 rfl ?_
              refine v_getR 80 dX12_rule_77 rfl fX12_40 rfl rfl ?_
              refine v_aload0 81 dX12_rule_80 rfl ?_
              refine v_getIe 84 12 (R) dX12_rule_81 rfl fX12_114 rfl rfl rfl (hR) ?_
              refine v_iload1 85 dX12_rule_84 rfl ?_
              refine v_iast 86 dX12_rule_85 rfl rfl (⟨by omega, by omega⟩) ?_
              refine v_aload0 87 dX12_rule_86 rfl ?_
              refine v_getR 90 dX12_rule_87 rfl fX12_43 rfl rfl ?_
              refine v_aload0 91 dX12_rule_90 rfl ?_
              refine v_getIe 94 12 (R) dX12_rule_91 rfl fX12_114 rfl rfl rfl (hR) ?_
              refine v_iload2 95 dX12_rule_94 rfl ?_
              refine v_iast 96 dX12_rule_95 rfl rfl (⟨by omega, by omega⟩) ?_
              refine v_aload0 97 dX12_rule_96 rfl ?_
              refine v_getR 100 dX12_rule_97 rfl fX12_46 rfl rfl ?_
              refine v_aload0 101 dX12_rule_100 rfl ?_
              refine v_getIe 104 12 (R) dX12_rule_101 rfl fX12_114 rfl rfl rfl (hR) ?_
              refine v_iload3 105 dX12_rule_104 rfl ?_
              refine v_iast 106 dX12_rule_105 rfl rfl (⟨by omega, by omega⟩) ?_
              refine v_aload0 107 dX12_rule_106 rfl ?_
              refine v_getR 110 dX12_rule_107 rfl fX12_49 rfl rfl ?_
              refine v_aload0 111 dX12_rule_110 rfl ?_
              refine v_getIe 114 12 (R) dX12_rule_111 rfl fX12_114 rfl rfl rfl (hR) ?_
              refine v_iload4 116 dX12_rule_114 rfl ?_
              refine v_iast 117 dX12_rule_116 rfl rfl (⟨by omega, by omega⟩) ?_
              refine v_aload0 118 dX12_rule_117 rfl ?_
              refine v_dup 119 dX12_rule_118 rfl ?_
              refine v_getIe 122 12 (R) dX12_rule_119 rfl fX12_114 rfl rfl rfl (hR) ?_
              refine v_iconst 123 dX12_rule_122 rfl ⟨by decide +kernel, by decide⟩ ?_
              refine v_iadd 124 dX12_rule_123 rfl (⟨by omega, by omega⟩) ?_
              refine v_putI 127 12 dX12_rule_124 rfl pX12_114 rfl rfl rfl ?_
              refine v_aload0 128 dX12_rule_127 rfl ?_
              refine v_getIe 131 12 ((R : Int) + 1) dX12_rule_128 rfl fX12_114 rfl rfl rfl (rfl) ?_
              refine v_iconst 132 dX12_rule_131 rfl ⟨by decide +kernel, by decide⟩ ?_
              refine v_isub 133 dX12_rule_132 rfl (⟨by omega, by omega⟩) ?_
              refine v_iretI dX12_rule_133 rfl ?_
              first | exact o1 (by omega) | exact o2 (by omega) | exact o3 (by omega) | (rw [show (R : Int) + 1 - 1 = R by omega]; exact o4 (by omega))
            · skip
              refine v_bipush 75 dX12_rule_73 rfl ⟨by decide +kernel, by decide⟩ ?_
              refine v_iretI dX12_rule_75 rfl ?_
              first | exact o1 (by omega) | exact o2 (by omega) | exact o3 (by omega) | (rw [show (R : Int) + 1 - 1 = R by omega]; exact o4 (by omega))
        · skip
          refine v_aload0 32 dX12_rule_31 rfl ?_
          refine v_iload2 33 dX12_rule_32 rfl ?_
          refine v_cvI1 mX12_noDecision 36 dX12_rule_33 rfl kX12_103 rfl rfl (by omega) (Nat.le_of_ble_eq_true rfl) ?_
          refine X12_noDecision (by omega) (by omega) (fun h33 => ?_) (fun h33 => ?_)
          · skip
            refine v_if_ne 62 39 dX12_rule_36 rfl rfl (fun _ => ?_) (fun h => absurd (by decide) h)
            refine v_iconst 63 dX12_rule_62 rfl ⟨by decide +kernel, by decide⟩ ?_
            refine v_iretI dX12_rule_63 rfl ?_
            first | exact o1 (by omega) | exact o2 (by omega) | exact o3 (by omega) | (rw [show (R : Int) + 1 - 1 = R by omega]; exact o4 (by omega))
          · skip
            refine v_if_ne 62 39 dX12_rule_36 rfl rfl (fun h => absurd h (by decide)) (fun _ => ?_)
            refine v_aload0 40 dX12_rule_39 rfl ?_
            refine v_iload3 41 dX12_rule_40 rfl ?_
            refine v_cvI1 mX12_noDecision 44 dX12_rule_41 rfl kX12_103 rfl rfl (by omega) (Nat.le_of_ble_eq_true rfl) ?_
            refine X12_noDecision (by omega) (by omega) (fun h41 => ?_) (fun h41 => ?_)
            · skip
              refine v_if_ne 62 47 dX12_rule_44 rfl rfl (fun _ => ?_) (fun h => absurd (by decide) h)
              refine v_iconst 63 dX12_rule_62 rfl ⟨by decide +kernel, by decide⟩ ?_
              refine v_iretI dX12_rule_63 rfl ?_
              first | exact o1 (by omega) | exact o2 (by omega) | exact o3 (by omega) | (rw [show (R : Int) + 1 - 1 = R by omega]; exact o4 (by omega))
            · skip
              refine v_if_ne 62 47 dX12_rule_44 rfl rfl (fun h => absurd h (by decide)) (fun _ => ?_)
              refine v_iload4 49 dX12_rule_47 rfl ?_
              refine v_iconst 50 dX12_rule_49 rfl ⟨by decide +kernel, by decide⟩ ?_
              refine v_aload0 51 dX12_rule_50 rfl ?_
              refine v_getI 54 10 dX12_rule_51 rfl fX12_111 rfl rfl rfl ?_
              refine v_iconst 55 dX12_rule_54 rfl ⟨by decide +kernel, by decide⟩ ?_
              refine v_isub 56 dX12_rule_55 rfl (⟨by omega, by omega⟩) ?_
              refine v_csI3 mX12_out 59 dX12_rule_56 rfl kX12_96 (by omega) (Nat.le_of_ble_eq_true rfl) ?_
              refine X12_out (fun h56 => ?_) (fun h56 => ?_)
              · skip
                refine v_if_eq 64 62 dX12_rule_59 rfl rfl (fun h => absurd h (by decide)) (fun _ => ?_)
                refine v_iconst 63 dX12_rule_62 rfl ⟨by decide +kernel, by decide⟩ ?_
                refine v_iretI dX12_rule_63 rfl ?_
                first | exact o1 (by omega) | exact o2 (by omega) | exact o3 (by omega) | (rw [show (R : Int) + 1 - 1 = R by omega]; exact o4 (by omega))
              · skip
                refine v_if_eq 64 62 dX12_rule_59 rfl rfl (fun _ => ?_) (fun h => absurd (by decide) h)
                refine v_aload0 65 dX12_rule_64 rfl ?_
                refine v_getIe 68 12 (R) dX12_rule_65 rfl fX12_114 rfl rfl rfl (hR) ?_
                refine v_bipush 70 dX12_rule_68 rfl ⟨by decide +kernel, by decide⟩ ?_
                refine v_icmp_ne 76 73 dX12_rule_70 rfl rfl (fun h70 => ?_) (fun h70 => ?_)
                · skip
                  refine v_aload0 77 dX12_rule_76 rfl ?_
                  refine v_getR 80 dX12_rule_77 rfl fX12_40 rfl rfl ?_
                  refine v_aload0 81 dX12_rule_80 rfl ?_
                  refine v_getIe 84 12 (R) dX12_rule_81 rfl fX12_114 rfl rfl rfl (hR) ?_
                  refine v_iload1 85 dX12_rule_84 rfl ?_
                  refine v_iast 86 dX12_rule_85 rfl rfl (⟨by omega, by omega⟩) ?_
                  refine v_aload0 87 dX12_rule_86 rfl ?_
                  refine v_getR 90 dX12_rule_87 rfl fX12_43 rfl rfl ?_
                  refine v_aload0 91 dX12_rule_90 rfl ?_
                  refine v_getIe 94 12 (R) dX12_rule_91 rfl fX12_114 rfl rfl rfl (hR) ?_
                  refine v_iload2 95 dX12_rule_94 rfl ?_
                  refine v_iast 96 dX12_rule_95 rfl rfl (⟨by omega, by omega⟩) ?_
                  refine v_aload0 97 dX12_rule_96 rfl ?_
                  refine v_getR 100 dX12_rule_97 rfl fX12_46 rfl rfl ?_
                  refine v_aload0 101 dX12_rule_100 rfl ?_
                  refine v_getIe 104 12 (R) dX12_rule_101 rfl fX12_114 rfl rfl rfl (hR) ?_
                  refine v_iload3 105 dX12_rule_104 rfl ?_
                  refine v_iast 106 dX12_rule_105 rfl rfl (⟨by omega, by omega⟩) ?_
                  refine v_aload0 107 dX12_rule_106 rfl ?_
                  refine v_getR 110 dX12_rule_107 rfl fX12_49 rfl rfl ?_
                  refine v_aload0 111 dX12_rule_110 rfl ?_
                  refine v_getIe 114 12 (R) dX12_rule_111 rfl fX12_114 rfl rfl rfl (hR) ?_
                  refine v_iload4 116 dX12_rule_114 rfl ?_
                  refine v_iast 117 dX12_rule_116 rfl rfl (⟨by omega, by omega⟩) ?_
                  refine v_aload0 118 dX12_rule_117 rfl ?_
                  refine v_dup 119 dX12_rule_118 rfl ?_
                  refine v_getIe 122 12 (R) dX12_rule_119 rfl fX12_114 rfl rfl rfl (hR) ?_
                  refine v_iconst 123 dX12_rule_122 rfl ⟨by decide +kernel, by decide⟩ ?_
                  refine v_iadd 124 dX12_rule_123 rfl (⟨by omega, by omega⟩) ?_
                  refine v_putI 127 12 dX12_rule_124 rfl pX12_114 rfl rfl rfl ?_
                  refine v_aload0 128 dX12_rule_127 rfl ?_
                  refine v_getIe 131 12 ((R : Int) + 1) dX12_rule_128 rfl fX12_114 rfl rfl rfl (rfl) ?_
                  refine v_iconst 132 dX12_rule_131 rfl ⟨by decide +kernel, by decide⟩ ?_
                  refine v_isub 133 dX12_rule_132 rfl (⟨by omega, by omega⟩) ?_
                  refine v_iretI dX12_rule_133 rfl ?_
                  first | exact o1 (by omega) | exact o2 (by omega) | exact o3 (by omega) | (rw [show (R : Int) + 1 - 1 = R by omega]; exact o4 (by omega))
                · skip
                  refine v_bipush 75 dX12_rule_73 rfl ⟨by decide +kernel, by decide⟩ ?_
                  refine v_iretI dX12_rule_75 rfl ?_
                  first | exact o1 (by omega) | exact o2 (by omega) | exact o3 (by omega) | (rw [show (R : Int) + 1 - 1 = R by omega]; exact o4 (by omega))
set_option maxRecDepth 100000 in
set_option maxHeartbeats 4000000 in
theorem X12_first {d : Nat} {v : Int} {σ : Mem} {K : Int → Mem → Prop} (hd : 2 ≤ d) (o1 : v < 0 ∨ 1 < v → K (-2) σ) (o2 : 0 ≤ v ∧ v ≤ 1 → K (σ 64 17) (wr σ 64 17 v)) : Run mX12_first d [.inr (some 64), .inl v] σ (RI K) := by
  refine Run_of (ls := [.inr (some 64), .inl v, .inr none]) (by decide) (Nat.le_of_ble_eq_true rfl) rfl ?_
  refine v_iload1 1 dX12_first_0 rfl ?_
  refine v_iconst 2 dX12_first_1 rfl ⟨by decide +kernel, by decide⟩ ?_
  refine v_iconst 3 dX12_first_2 rfl ⟨by decide +kernel, by decide⟩ ?_
  refine v_csI3 mX12_out 6 dX12_first_3 rfl kX12_96 (by omega) (Nat.le_of_ble_eq_true rfl) ?_
  refine X12_out (fun h3 => ?_) (fun h3 => ?_)
  · skip
    refine v_if_eq 12 9 dX12_first_6 rfl rfl (fun h => absurd h (by decide)) (fun _ => ?_)
    refine v_bipush 11 dX12_first_9 rfl ⟨by decide +kernel, by decide⟩ ?_
    refine v_iretI dX12_first_11 rfl ?_
    first | exact o1 (by omega) | exact o2 (by omega)
  · skip
    refine v_if_eq 12 9 dX12_first_6 rfl rfl (fun _ => ?_) (fun h => absurd (by decide) h)
    refine v_aload0 13 dX12_first_12 rfl ?_
    refine v_getI 16 17 dX12_first_13 rfl fX12_117 rfl rfl rfl ?_
    refine v_istore2 17 dX12_first_16 rfl (by decide) ?_
    refine v_aload0 18 dX12_first_17 rfl ?_
    refine v_iload1 19 dX12_first_18 rfl ?_
    refine v_putI 22 17 dX12_first_19 rfl pX12_117 rfl rfl rfl ?_
    refine v_iload2 23 dX12_first_22 rfl ?_
    refine v_iretI dX12_first_23 rfl ?_
    first | exact o1 (by omega) | exact o2 (by omega)
set_option maxRecDepth 100000 in
set_option maxHeartbeats 4000000 in
theorem X12_put {d : Nat} {n : Nat} {k v : Int} {σ : Mem} {K : Int → Mem → Prop} (hn : σ 64 0 = n) (hn6 : n ≤ 6) (hd : 2 ≤ d) (o1 : k < 0 ∨ (n : Int) ≤ k → K (-1) σ) (o2 : (0 ≤ k ∧ k < n) ∧ (v < σ 65 k ∨ σ 66 k < v) → K (-2) σ) (o3 : (0 ≤ k ∧ k < n) ∧ (σ 65 k ≤ v ∧ v ≤ σ 66 k) → K (σ 72 k) (wr σ 72 k v)) : Run mX12_put d [.inr (some 64), .inl k, .inl v] σ (RI K) := by
  refine Run_of (ls := [.inr (some 64), .inl k, .inl v, .inr none]) (by decide) (Nat.le_of_ble_eq_true rfl) rfl ?_
  refine v_aload0 1 dX12_put_0 rfl ?_
  refine v_iload1 2 dX12_put_1 rfl ?_
  refine v_cvI1 mX12_noDecision 5 dX12_put_2 rfl kX12_103 rfl rfl (by omega) (Nat.le_of_ble_eq_true rfl) ?_
  refine X12_noDecision (by omega) (by omega) (fun h2 => ?_) (fun h2 => ?_)
  · skip
    refine v_if_eq 10 8 dX12_put_5 rfl rfl (fun h => absurd h (by decide)) (fun _ => ?_)
    refine v_iconst 9 dX12_put_8 rfl ⟨by decide +kernel, by decide⟩ ?_
    refine v_iretI dX12_put_9 rfl ?_
    first | exact o1 (by omega) | exact o2 (by omega) | exact o3 (by omega)
  · skip
    refine v_if_eq 10 8 dX12_put_5 rfl rfl (fun _ => ?_) (fun h => absurd (by decide) h)
    refine v_aload0 11 dX12_put_10 rfl ?_
    refine v_iload1 12 dX12_put_11 rfl ?_
    refine v_iload2 13 dX12_put_12 rfl ?_
    refine v_cvI2 mX12_mayHave 16 dX12_put_13 rfl kX12_107 rfl rfl (by omega) (Nat.le_of_ble_eq_true rfl) ?_
    refine X12_mayHave (by omega) (by omega) (fun h13 => ?_) (fun h13 => ?_)
    · skip
      refine v_if_ne 22 19 dX12_put_16 rfl rfl (fun _ => ?_) (fun h => absurd (by decide) h)
      refine v_aload0 23 dX12_put_22 rfl ?_
      refine v_getR 26 dX12_put_23 rfl fX12_31 rfl rfl ?_
      refine v_iload1 27 dX12_put_26 rfl ?_
      refine v_iald 28 dX12_put_27 rfl rfl (⟨by omega, by omega⟩) ?_
      refine v_istore3 29 dX12_put_28 rfl (by decide) ?_
      refine v_aload0 30 dX12_put_29 rfl ?_
      refine v_getR 33 dX12_put_30 rfl fX12_31 rfl rfl ?_
      refine v_iload1 34 dX12_put_33 rfl ?_
      refine v_iload2 35 dX12_put_34 rfl ?_
      refine v_iast 36 dX12_put_35 rfl rfl (⟨by omega, by omega⟩) ?_
      refine v_iload3 37 dX12_put_36 rfl ?_
      refine v_iretI dX12_put_37 rfl ?_
      first | exact o1 (by omega) | exact o2 (by omega) | exact o3 (by omega)
    · skip
      refine v_if_ne 22 19 dX12_put_16 rfl rfl (fun h => absurd h (by decide)) (fun _ => ?_)
      refine v_bipush 21 dX12_put_19 rfl ⟨by decide +kernel, by decide⟩ ?_
      refine v_iretI dX12_put_21 rfl ?_
      first | exact o1 (by omega) | exact o2 (by omega) | exact o3 (by omega)
set_option maxRecDepth 100000 in
set_option maxHeartbeats 4000000 in
theorem X12_value {d : Nat} {n : Nat} {k : Int} {σ : Mem} {K : Int → Mem → Prop} (hn : σ 64 0 = n) (hn6 : n ≤ 6) (hd : 2 ≤ d) (o1 : k < 0 ∨ (n : Int) ≤ k → K (-1) σ) (o2 : (0 ≤ k ∧ k < n) → K (σ 72 k) σ) : Run mX12_value d [.inr (some 64), .inl k] σ (RI K) := by
  refine Run_of (ls := [.inr (some 64), .inl k]) (by decide) (Nat.le_of_ble_eq_true rfl) rfl ?_
  refine v_aload0 1 dX12_value_0 rfl ?_
  refine v_iload1 2 dX12_value_1 rfl ?_
  refine v_cvI1 mX12_noDecision 5 dX12_value_2 rfl kX12_103 rfl rfl (by omega) (Nat.le_of_ble_eq_true rfl) ?_
  refine X12_noDecision (by omega) (by omega) (fun h2 => ?_) (fun h2 => ?_)
  · skip
    refine v_if_eq 12 8 dX12_value_5 rfl rfl (fun h => absurd h (by decide)) (fun _ => ?_)
    refine v_iconst 9 dX12_value_8 rfl ⟨by decide +kernel, by decide⟩ ?_
    refine v_goto 18 dX12_value_9 rfl ?_
    refine v_iretI dX12_value_18 rfl ?_
    first | exact o1 (by omega) | exact o2 (by omega)
  · skip
    refine v_if_eq 12 8 dX12_value_5 rfl rfl (fun _ => ?_) (fun h => absurd (by decide) h)
    refine v_aload0 13 dX12_value_12 rfl ?_
    refine v_getR 16 dX12_value_13 rfl fX12_31 rfl rfl ?_
    refine v_iload1 17 dX12_value_16 rfl ?_
    refine v_iald 18 dX12_value_17 rfl rfl (⟨by omega, by omega⟩) ?_
    refine v_iretI dX12_value_18 rfl ?_
    first | exact o1 (by omega) | exact o2 (by omega)
set_option maxRecDepth 100000 in
set_option maxHeartbeats 4000000 in
theorem X12_base {d : Nat} {kp : Nat} {k : Int} {σ : Mem} {K : Int → Mem → Prop} (hd : 2 ≤ d) (hkp : σ 64 18 = kp) (hkp3 : kp ≤ 3) (o1 : k < 0 ∨ (kp : Int) ≤ k → K (-1) σ) (o2 : (0 ≤ k ∧ k < kp) → K (σ 64 21) (wr σ 64 21 k)) : Run mX12_base d [.inr (some 64), .inl k] σ (RI K) := by
  refine Run_of (ls := [.inr (some 64), .inl k, .inr none]) (by decide) (Nat.le_of_ble_eq_true rfl) rfl ?_
  refine v_iload1 1 dX12_base_0 rfl ?_
  refine v_iconst 2 dX12_base_1 rfl ⟨by decide +kernel, by decide⟩ ?_
  refine v_aload0 3 dX12_base_2 rfl ?_
  refine v_getI 6 18 dX12_base_3 rfl fX12_100 rfl rfl rfl ?_
  refine v_iconst 7 dX12_base_6 rfl ⟨by decide +kernel, by decide⟩ ?_
  refine v_isub 8 dX12_base_7 rfl (⟨by omega, by omega⟩) ?_
  refine v_csI3 mX12_out 11 dX12_base_8 rfl kX12_96 (by omega) (Nat.le_of_ble_eq_true rfl) ?_
  refine X12_out (fun h8 => ?_) (fun h8 => ?_)
  · skip
    refine v_if_eq 16 14 dX12_base_11 rfl rfl (fun h => absurd h (by decide)) (fun _ => ?_)
    refine v_iconst 15 dX12_base_14 rfl ⟨by decide +kernel, by decide⟩ ?_
    refine v_iretI dX12_base_15 rfl ?_
    first | exact o1 (by omega) | exact o2 (by omega)
  · skip
    refine v_if_eq 16 14 dX12_base_11 rfl rfl (fun _ => ?_) (fun h => absurd (by decide) h)
    refine v_aload0 17 dX12_base_16 rfl ?_
    refine v_getI 20 21 dX12_base_17 rfl fX12_58 rfl rfl rfl ?_
    refine v_istore2 21 dX12_base_20 rfl (by decide) ?_
    refine v_aload0 22 dX12_base_21 rfl ?_
    refine v_iload1 23 dX12_base_22 rfl ?_
    refine v_putI 26 21 dX12_base_23 rfl pX12_58 rfl rfl rfl ?_
    refine v_iload2 27 dX12_base_26 rfl ?_
    refine v_iretI dX12_base_27 rfl ?_
    first | exact o1 (by omega) | exact o2 (by omega)
set_option maxRecDepth 100000 in
set_option maxHeartbeats 4000000 in
theorem X12_old {d : Nat} {n kp : Nat} {k j : Int} {σ : Mem} {K : Int → Mem → Prop} (hn : σ 64 0 = n) (hn6 : n ≤ 6) (hd : 2 ≤ d) (hkp : σ 64 18 = kp) (hkp3 : kp ≤ 3) (o1 : k < 0 ∨ (kp : Int) ≤ k ∨ j < 0 ∨ (n : Int) ≤ j → K (-1) σ) (o2 : 0 ≤ k ∧ k < kp ∧ 0 ≤ j ∧ j < n → K (σ 79 (6 * k + j)) σ) : Run mX12_old d [.inr (some 64), .inl k, .inl j] σ (RI K) := by
  refine Run_of (ls := [.inr (some 64), .inl k, .inl j]) (by decide) (Nat.le_of_ble_eq_true rfl) rfl ?_
  refine v_iload1 1 dX12_old_0 rfl ?_
  refine v_iconst 2 dX12_old_1 rfl ⟨by decide +kernel, by decide⟩ ?_
  refine v_aload0 3 dX12_old_2 rfl ?_
  refine v_getI 6 18 dX12_old_3 rfl fX12_100 rfl rfl rfl ?_
  refine v_iconst 7 dX12_old_6 rfl ⟨by decide +kernel, by decide⟩ ?_
  refine v_isub 8 dX12_old_7 rfl (⟨by omega, by omega⟩) ?_
  refine v_csI3 mX12_out 11 dX12_old_8 rfl kX12_96 (by omega) (Nat.le_of_ble_eq_true rfl) ?_
  refine X12_out (fun h8 => ?_) (fun h8 => ?_)
  · skip
    refine v_if_ne 22 14 dX12_old_11 rfl rfl (fun _ => ?_) (fun h => absurd (by decide) h)
    refine v_iconst 23 dX12_old_22 rfl ⟨by decide +kernel, by decide⟩ ?_
    refine v_goto 37 dX12_old_23 rfl ?_
    refine v_iretI dX12_old_37 rfl ?_
    first | exact o1 (by omega) | exact o2 (by omega)
  · skip
    refine v_if_ne 22 14 dX12_old_11 rfl rfl (fun h => absurd h (by decide)) (fun _ => ?_)
    refine v_aload0 15 dX12_old_14 rfl ?_
    refine v_iload2 16 dX12_old_15 rfl ?_
    refine v_cvI1 mX12_noDecision 19 dX12_old_16 rfl kX12_103 rfl rfl (by omega) (Nat.le_of_ble_eq_true rfl) ?_
    refine X12_noDecision (by omega) (by omega) (fun h16 => ?_) (fun h16 => ?_)
    · skip
      refine v_if_eq 26 22 dX12_old_19 rfl rfl (fun h => absurd h (by decide)) (fun _ => ?_)
      refine v_iconst 23 dX12_old_22 rfl ⟨by decide +kernel, by decide⟩ ?_
      refine v_goto 37 dX12_old_23 rfl ?_
      refine v_iretI dX12_old_37 rfl ?_
      first | exact o1 (by omega) | exact o2 (by omega)
    · skip
      refine v_if_eq 26 22 dX12_old_19 rfl rfl (fun _ => ?_) (fun h => absurd (by decide) h)
      refine v_aload0 27 dX12_old_26 rfl ?_
      refine v_getR 30 dX12_old_27 rfl fX12_52 rfl rfl ?_
      refine v_bipush 32 dX12_old_30 rfl ⟨by decide +kernel, by decide⟩ ?_
      refine v_iload1 33 dX12_old_32 rfl ?_
      refine v_imul 34 dX12_old_33 rfl (⟨by omega, by omega⟩) ?_
      refine v_iload2 35 dX12_old_34 rfl ?_
      refine v_iadd 36 dX12_old_35 rfl (⟨by omega, by omega⟩) ?_
      refine v_iald 37 dX12_old_36 rfl rfl (⟨by omega, by omega⟩) ?_
      refine v_iretI dX12_old_37 rfl ?_
      first | exact o1 (by omega) | exact o2 (by omega)
set_option maxRecDepth 100000 in
set_option maxHeartbeats 4000000 in
theorem X12_keep {d : Nat} {n kp : Nat} {σ : Mem} {K : Int → Mem → Prop} (hn : σ 64 0 = n) (hn6 : n ≤ 6) (hkp : σ 64 18 = kp) (hkp3 : kp ≤ 3) (o1 : n = 0 → K (-3) σ) (o2 : n ≠ 0 ∧ kp = 3 → K (-4) σ) (o3 : n ≠ 0 ∧ kp < 3 → ∀ τ : Mem, (∀ c, c ≠ 79 → c ≠ 80 → τ c = σ c) → (∀ j : Int, τ 79 j = if 6 * (kp : Int) ≤ j ∧ j < 6 * (kp : Int) + (6 : Nat) then σ 72 (j - 6 * (kp : Int)) else σ 79 j) → (∀ j : Int, τ 80 j = if 6 * (kp : Int) ≤ j ∧ j < 6 * (kp : Int) + (6 : Nat) then σ 74 (j - 6 * (kp : Int)) else σ 80 j) → K kp (wr (wr τ 64 21 kp) 64 18 (kp + 1))) : Run mX12_keep d [.inr (some 64)] σ (RI K) := by
  refine Run_of (ls := [.inr (some 64), .inr none]) (by decide) (Nat.le_of_ble_eq_true rfl) rfl ?_
  refine v_aload0 1 dX12_keep_0 rfl ?_
  refine v_getI 4 0 dX12_keep_1 rfl fX12_93 rfl rfl rfl ?_
  refine v_if_ne 10 7 dX12_keep_4 rfl rfl (fun h4 => ?_) (fun h4 => ?_)
  · skip
    refine v_aload0 11 dX12_keep_10 rfl ?_
    refine v_getI 14 18 dX12_keep_11 rfl fX12_100 rfl rfl rfl ?_
    refine v_iconst 15 dX12_keep_14 rfl ⟨by decide +kernel, by decide⟩ ?_
    refine v_icmp_ne 21 18 dX12_keep_15 rfl rfl (fun h15 => ?_) (fun h15 => ?_)
    · skip
      have L : ∀ (k : Nat) (i : Nat) (τ : Mem), 6 - i < k → i ≤ 6 → (∀ c, c ≠ 79 → c ≠ 80 → τ c = σ c) → (∀ j : Int, τ 79 j = if 6 * (kp : Int) ≤ j ∧ j < 6 * (kp : Int) + i then σ 72 (j - 6 * (kp : Int)) else σ 79 j) → (∀ j : Int, τ 80 j = if 6 * (kp : Int) ≤ j ∧ j < 6 * (kp : Int) + i then σ 74 (j - 6 * (kp : Int)) else σ 80 j) → V mX12_keep d (RI K) 23 [.inr (some 64), .inl (i : Int)] [] τ := by
        intro k
        induction k with
        | zero => intros; omega
        | succ k ih =>
            intro i τ hk hi g1 g2 g3
            refine v_iload1 24 dX12_keep_23 rfl ?_
            refine v_bipush 26 dX12_keep_24 rfl ⟨by decide +kernel, by decide⟩ ?_
            refine v_icmp_ge 75 29 dX12_keep_26 rfl rfl (fun h26 => ?_) (fun h26 => ?_)
            · skip
              refine v_aload0 76 dX12_keep_75 rfl ?_
              refine v_aload0 77 dX12_keep_76 rfl ?_
              refine v_getIe 80 18 (kp) dX12_keep_77 rfl fX12_100 rfl rfl rfl (by rw [g1 64 (by decide) (by decide)]; exact hkp) ?_
              refine v_putI 83 21 dX12_keep_80 rfl pX12_58 rfl rfl rfl ?_
              refine v_aload0 84 dX12_keep_83 rfl ?_
              refine v_dup 85 dX12_keep_84 rfl ?_
              refine v_getIe 88 18 (kp) dX12_keep_85 rfl fX12_100 rfl rfl rfl (by rw [wr_at, if_neg (by decide), g1 64 (by decide) (by decide)]; exact hkp) ?_
              refine v_iconst 89 dX12_keep_88 rfl ⟨by decide +kernel, by decide⟩ ?_
              refine v_iadd 90 dX12_keep_89 rfl (⟨by omega, by omega⟩) ?_
              refine v_putI 93 18 dX12_keep_90 rfl pX12_100 rfl rfl rfl ?_
              refine v_aload0 94 dX12_keep_93 rfl ?_
              refine v_getIe 97 21 (kp) dX12_keep_94 rfl fX12_58 rfl rfl rfl (by simp [wr]) ?_
              refine v_iretI dX12_keep_97 rfl ?_
              obtain rfl : i = 6 := by omega
              exact o3 ⟨by omega, by omega⟩ τ g1 g2 g3
            · skip
              refine v_aload0 30 dX12_keep_29 rfl ?_
              refine v_getR 33 dX12_keep_30 rfl fX12_52 rfl rfl ?_
              refine v_bipush 35 dX12_keep_33 rfl ⟨by decide +kernel, by decide⟩ ?_
              refine v_aload0 36 dX12_keep_35 rfl ?_
              refine v_getIe 39 18 (kp) dX12_keep_36 rfl fX12_100 rfl rfl rfl (by rw [g1 64 (by decide) (by decide)]; exact hkp) ?_
              refine v_imul 40 dX12_keep_39 rfl (⟨by omega, by omega⟩) ?_
              refine v_iload1 41 dX12_keep_40 rfl ?_
              refine v_iadd 42 dX12_keep_41 rfl (⟨by omega, by omega⟩) ?_
              refine v_aload0 43 dX12_keep_42 rfl ?_
              refine v_getR 46 dX12_keep_43 rfl fX12_31 rfl rfl ?_
              refine v_iload1 47 dX12_keep_46 rfl ?_
              refine v_ialde 48 (σ 72 (i : Int)) dX12_keep_47 rfl rfl (⟨by omega, by omega⟩) (by rw [g1 72 (by decide) (by decide)]) ?_
              refine v_iast 49 dX12_keep_48 rfl rfl (⟨by omega, by omega⟩) ?_
              refine v_aload0 50 dX12_keep_49 rfl ?_
              refine v_getR 53 dX12_keep_50 rfl fX12_55 rfl rfl ?_
              refine v_bipush 55 dX12_keep_53 rfl ⟨by decide +kernel, by decide⟩ ?_
              refine v_aload0 56 dX12_keep_55 rfl ?_
              refine v_getIe 59 18 (kp) dX12_keep_56 rfl fX12_100 rfl rfl rfl (by rw [wr_ne (by decide), g1 64 (by decide) (by decide)]; exact hkp) ?_
              refine v_imul 60 dX12_keep_59 rfl (⟨by omega, by omega⟩) ?_
              refine v_iload1 61 dX12_keep_60 rfl ?_
              refine v_iadd 62 dX12_keep_61 rfl (⟨by omega, by omega⟩) ?_
              refine v_aload0 63 dX12_keep_62 rfl ?_
              refine v_getR 66 dX12_keep_63 rfl fX12_37 rfl rfl ?_
              refine v_iload1 67 dX12_keep_66 rfl ?_
              refine v_ialde 68 (σ 74 (i : Int)) dX12_keep_67 rfl rfl (⟨by omega, by omega⟩) (by rw [wr_ne (by decide), g1 74 (by decide) (by decide)]) ?_
              refine v_iast 69 dX12_keep_68 rfl rfl (⟨by omega, by omega⟩) ?_
              refine v_iinc1 72 dX12_keep_69 rfl (by decide) rfl (⟨by omega, by omega⟩) ?_
              refine v_goto 23 dX12_keep_72 rfl ?_
              exact ih (i + 1) _ (by omega) (by omega) (fun c a b => by rw [wr_ne b, wr_ne a]; exact g1 c a b) (fun j => by
                have e1 := g2 j
                simp only [wr]
                by_cases ej : j = 6 * (kp : Int) + (i : Int)
                · subst ej
                  simp only [reduceIte, Nat.reduceEqDiff]
                  rw [if_pos (by omega)]
                  have e2 : 6 * (kp : Int) + (i : Int) - 6 * (kp : Int) = (i : Int) := by omega
                  rw [e2]
                · simp only [ej, reduceIte, Nat.reduceEqDiff, e1]
                  by_cases c1 : 6 * (kp : Int) ≤ j ∧ j < 6 * (kp : Int) + (i : Int)
                  · rw [if_pos c1, if_pos (by omega)]
                  · rw [if_neg c1, if_neg (by omega)]) (fun j => by
                have e1 := g3 j
                simp only [wr]
                by_cases ej : j = 6 * (kp : Int) + (i : Int)
                · subst ej
                  simp only [reduceIte, Nat.reduceEqDiff]
                  rw [if_pos (by omega)]
                  have e2 : 6 * (kp : Int) + (i : Int) - 6 * (kp : Int) = (i : Int) := by omega
                  rw [e2]
                · simp only [ej, reduceIte, Nat.reduceEqDiff, e1]
                  by_cases c1 : 6 * (kp : Int) ≤ j ∧ j < 6 * (kp : Int) + (i : Int)
                  · rw [if_pos c1, if_pos (by omega)]
                  · rw [if_neg c1, if_neg (by omega)])
      refine v_iconst 22 dX12_keep_21 rfl ⟨by decide +kernel, by decide⟩ ?_
      refine v_istore1 23 dX12_keep_22 rfl (by decide) ?_
      exact L 7 0 _ (by omega) (by omega) (fun _ _ _ => rfl) (fun j => by rw [if_neg (by omega)]) (fun j => by rw [if_neg (by omega)])
    · skip
      refine v_bipush 20 dX12_keep_18 rfl ⟨by decide +kernel, by decide⟩ ?_
      refine v_iretI dX12_keep_20 rfl ?_
      first | exact o1 (by omega) | exact o2 (by omega)
  · skip
    refine v_bipush 9 dX12_keep_7 rfl ⟨by decide +kernel, by decide⟩ ?_
    refine v_iretI dX12_keep_9 rfl ?_
    first | exact o1 (by omega) | exact o2 (by omega)
set_option maxRecDepth 100000 in
set_option maxHeartbeats 4000000 in
theorem X12_undo {d : Nat} {q : Nat} {u : Int} {σ : Mem} {K : Int → Mem → Prop} (hu : σ 64 22 = u) (hu8 : 0 ≤ u ∧ u ≤ 8) (hq : u ≠ 0 → σ 81 (u - 1) = q) (hq6 : q ≤ 6) (o1 : u = 0 → K (-3) σ) (o2 : u ≠ 0 → ∀ τ : Mem, (∀ c, c ≠ 72 → τ c = wr σ 64 22 (u - 1) c) → (∀ j : Int, τ 72 j = if 0 ≤ j ∧ j < q then σ 82 (6 * (u - 1) + j) else σ 72 j) → K (u - 1) τ) : Run mX12_undo d [.inr (some 64)] σ (RI K) := by
  refine Run_of (ls := [.inr (some 64), .inr none]) (by decide) (Nat.le_of_ble_eq_true rfl) rfl ?_
  refine v_aload0 1 dX12_undo_0 rfl ?_
  refine v_getI 4 22 dX12_undo_1 rfl fX12_151 rfl rfl rfl ?_
  refine v_if_ne 10 7 dX12_undo_4 rfl rfl (fun h4 => ?_) (fun h4 => ?_)
  · skip
    have hq := hq (by omega)
    have L : ∀ (k : Nat) (i : Nat) (τ : Mem), q - i < k → i ≤ q → (∀ c, c ≠ 72 → τ c = wr σ 64 22 (u - 1) c) → (∀ j : Int, τ 72 j = if 0 ≤ j ∧ j < i then σ 82 (6 * (u - 1) + j) else σ 72 j) → V mX12_undo d (RI K) 22 [.inr (some 64), .inl (i : Int)] [] τ := by
      intro k
      induction k with
      | zero => intros; omega
      | succ k ih =>
          intro i τ hk hi g1 g2
          have g0 : τ 64 22 = u - 1 := by rw [g1 64 (by decide), wr_eq]
          refine v_iload1 23 dX12_undo_22 rfl ?_
          refine v_aload0 24 dX12_undo_23 rfl ?_
          refine v_getR 27 dX12_undo_24 rfl fX12_62 rfl rfl ?_
          refine v_aload0 28 dX12_undo_27 rfl ?_
          refine v_getIe 31 22 (u - 1) dX12_undo_28 rfl fX12_151 rfl rfl rfl (g0) ?_
          refine v_ialde 32 (q) dX12_undo_31 rfl rfl (⟨by omega, by omega⟩) (by rw [g1 81 (by decide), wr_ne (by decide)]; exact hq) ?_
          refine v_icmp_ge 61 35 dX12_undo_32 rfl rfl (fun h32 => ?_) (fun h32 => ?_)
          · skip
            refine v_aload0 62 dX12_undo_61 rfl ?_
            refine v_getIe 65 22 (u - 1) dX12_undo_62 rfl fX12_151 rfl rfl rfl (g0) ?_
            refine v_iretI dX12_undo_65 rfl ?_
            obtain rfl : i = q := by omega
            exact o2 (by omega) τ g1 g2
          · skip
            refine v_aload0 36 dX12_undo_35 rfl ?_
            refine v_getR 39 dX12_undo_36 rfl fX12_31 rfl rfl ?_
            refine v_iload1 40 dX12_undo_39 rfl ?_
            refine v_aload0 41 dX12_undo_40 rfl ?_
            refine v_getR 44 dX12_undo_41 rfl fX12_65 rfl rfl ?_
            refine v_bipush 46 dX12_undo_44 rfl ⟨by decide +kernel, by decide⟩ ?_
            refine v_aload0 47 dX12_undo_46 rfl ?_
            refine v_getIe 50 22 (u - 1) dX12_undo_47 rfl fX12_151 rfl rfl rfl (g0) ?_
            refine v_imul 51 dX12_undo_50 rfl (⟨by omega, by omega⟩) ?_
            refine v_iload1 52 dX12_undo_51 rfl ?_
            refine v_iadd 53 dX12_undo_52 rfl (⟨by omega, by omega⟩) ?_
            refine v_ialde 54 (σ 82 (6 * (u - 1) + (i : Int))) dX12_undo_53 rfl rfl (⟨by omega, by omega⟩) (by rw [g1 82 (by decide), wr_ne (by decide)]) ?_
            refine v_iast 55 dX12_undo_54 rfl rfl (⟨by omega, by omega⟩) ?_
            refine v_iinc1 58 dX12_undo_55 rfl (by decide) rfl (⟨by omega, by omega⟩) ?_
            refine v_goto 22 dX12_undo_58 rfl ?_
            exact ih (i + 1) _ (by omega) (by omega) (fun c a => by rw [wr_ne a]; exact g1 c a) (fun j => by
              have e1 := g2 j
              simp only [wr]
              by_cases ej : j = (i : Int)
              · subst ej
                simp only [reduceIte]
                rw [if_pos (by omega)]
              · simp only [ej, reduceIte, e1]
                by_cases c1 : 0 ≤ j ∧ j < (i : Int)
                · rw [if_pos c1, if_pos (by omega)]
                · rw [if_neg c1, if_neg (by omega)])
    refine v_aload0 11 dX12_undo_10 rfl ?_
    refine v_dup 12 dX12_undo_11 rfl ?_
    refine v_getIe 15 22 (u) dX12_undo_12 rfl fX12_151 rfl rfl rfl (hu) ?_
    refine v_iconst 16 dX12_undo_15 rfl ⟨by decide +kernel, by decide⟩ ?_
    refine v_isub 17 dX12_undo_16 rfl (⟨by omega, by omega⟩) ?_
    refine v_putI 20 22 dX12_undo_17 rfl pX12_151 rfl rfl rfl ?_
    refine v_iconst 21 dX12_undo_20 rfl ⟨by decide +kernel, by decide⟩ ?_
    refine v_istore1 22 dX12_undo_21 rfl (by decide) ?_
    exact L (q + 1) 0 _ (by omega) (by omega) (fun _ _ => rfl) (fun j => by rw [if_neg (by omega), wr_ne (by decide)])
  · skip
    refine v_bipush 9 dX12_undo_7 rfl ⟨by decide +kernel, by decide⟩ ?_
    refine v_iretI dX12_undo_9 rfl ?_
    first | exact o1 (by omega)
