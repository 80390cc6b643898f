set_option maxRecDepth 100000 in
set_option maxHeartbeats 4000000 in
theorem X3_add {d : Nat} {n : Nat} {lo hi pe : Int} {σ : Mem} {K : Int → Mem → Prop} (hn : σ 1 0 = n) (hn6 : n < 6) (hk0 : K n (wr (wr (wr (wr (wr (wr σ 12 n lo) 13 n hi) 14 n pe) 15 n 1) 17 n (-5)) 1 0 (n + 1))) : Run mX3_add d [.inr (some 1), .inl lo, .inl hi, .inl pe] σ (RI K) := by
  refine Run_of (ls := [.inr (some 1), .inl lo, .inl hi, .inl pe, .inr none]) (by decide) (Nat.le_of_ble_eq_true rfl) rfl ?_
  refine v_aload0 1 dX3_add_0 rfl ?_
  refine v_getIe 4 0 (n) dX3_add_1 rfl fX3_9 rfl rfl rfl (hn) ?_
  refine v_istore4 6 dX3_add_4 rfl (by decide) ?_
  refine v_aload0 7 dX3_add_6 rfl ?_
  refine v_getR 10 dX3_add_7 rfl fX3_15 rfl rfl ?_
  refine v_iload4 12 dX3_add_10 rfl ?_
  refine v_iload1 13 dX3_add_12 rfl ?_
  refine v_iast 14 dX3_add_13 rfl rfl (⟨by omega, by omega⟩) ?_
  refine v_aload0 15 dX3_add_14 rfl ?_
  refine v_getR 18 dX3_add_15 rfl fX3_19 rfl rfl ?_
  refine v_iload4 20 dX3_add_18 rfl ?_
  refine v_iload2 21 dX3_add_20 rfl ?_
  refine v_iast 22 dX3_add_21 rfl rfl (⟨by omega, by omega⟩) ?_
  refine v_aload0 23 dX3_add_22 rfl ?_
  refine v_getR 26 dX3_add_23 rfl fX3_22 rfl rfl ?_
  refine v_iload4 28 dX3_add_26 rfl ?_
  refine v_iload3 29 dX3_add_28 rfl ?_
  refine v_iast 30 dX3_add_29 rfl rfl (⟨by omega, by omega⟩) ?_
  refine v_aload0 31 dX3_add_30 rfl ?_
  refine v_getR 34 dX3_add_31 rfl fX3_25 rfl rfl ?_
  refine v_iload4 36 dX3_add_34 rfl ?_
  refine v_iconst 37 dX3_add_36 rfl ⟨by decide +kernel, by decide⟩ ?_
  refine v_iast 38 dX3_add_37 rfl rfl (⟨by omega, by omega⟩) ?_
  refine v_aload0 39 dX3_add_38 rfl ?_
  refine v_getR 42 dX3_add_39 rfl fX3_31 rfl rfl ?_
  refine v_iload4 44 dX3_add_42 rfl ?_
  refine v_bipush 46 dX3_add_44 rfl ⟨by decide +kernel, by decide⟩ ?_
  refine v_iast 47 dX3_add_46 rfl rfl (⟨by omega, by omega⟩) ?_
  refine v_aload0 48 dX3_add_47 rfl ?_
  refine v_dup 49 dX3_add_48 rfl ?_
  refine v_getIe 52 0 (n) dX3_add_49 rfl fX3_9 rfl rfl rfl (hn) ?_
  refine v_iconst 53 dX3_add_52 rfl ⟨by decide +kernel, by decide⟩ ?_
  refine v_iadd 54 dX3_add_53 rfl (⟨by omega, by omega⟩) ?_
  refine v_putI 57 0 dX3_add_54 rfl pX3_9 rfl rfl rfl ?_
  refine v_iload4 59 dX3_add_57 rfl ?_
  refine v_iretI dX3_add_59 rfl ?_
  exact hk0
set_option maxRecDepth 100000 in
set_option maxHeartbeats 4000000 in
theorem X11_decision {d : Nat} {n : Nat} {lo hi pe : Int} {σ : Mem} {K : Int → Mem → Prop} (hn : σ 1 0 = n) (hn6 : n ≤ 6) (hd : 2 ≤ d) (o1 : (lo < 0 ∨ 5 < lo ∨ hi < 0 ∨ 5 < hi ∨ hi < lo ∨ pe < 0 ∨ 3 < pe) → K (-2) σ) (o2 : ¬ (lo < 0 ∨ 5 < lo ∨ hi < 0 ∨ 5 < hi ∨ hi < lo ∨ pe < 0 ∨ 3 < pe) ∧ 0 < σ 3 0 → K (-3) σ) (o3 : ¬ (lo < 0 ∨ 5 < lo ∨ hi < 0 ∨ 5 < hi ∨ hi < lo ∨ pe < 0 ∨ 3 < pe) ∧ σ 3 0 ≤ 0 ∧ n = 6 → K (-4) σ) (o4 : ¬ (lo < 0 ∨ 5 < lo ∨ hi < 0 ∨ 5 < hi ∨ hi < lo ∨ pe < 0 ∨ 3 < pe) ∧ σ 3 0 ≤ 0 ∧ n < 6 → K n (wr (wr (wr (wr (wr (wr (wr σ 12 n lo) 13 n hi) 14 n pe) 15 n 1) 17 n (-5)) 1 0 (n + 1)) 11 n lo)) : Run mX11_decision d [.inr (some 0), .inl lo, .inl hi, .inl pe] σ (RI K) := by
  refine Run_of (ls := [.inr (some 0), .inl lo, .inl hi, .inl pe, .inr none]) (by decide) (Nat.le_of_ble_eq_true rfl) rfl ?_
  refine v_iload1 1 dX11_decision_0 rfl ?_
  refine v_iconst 2 dX11_decision_1 rfl ⟨by decide +kernel, by decide⟩ ?_
  refine v_iconst 3 dX11_decision_2 rfl ⟨by decide +kernel, by decide⟩ ?_
  refine v_csI3 mX11_within 6 dX11_decision_3 rfl kX11_93 (by omega) (Nat.le_of_ble_eq_true rfl) ?_
  refine X11_within (fun h3 => ?_) (fun h3 => ?_)
  · skip
    refine v_if_eq 18 9 dX11_decision_6 rfl rfl (fun h => absurd h (by decide)) (fun _ => ?_)
    refine v_iload2 10 dX11_decision_9 rfl ?_
    refine v_iconst 11 dX11_decision_10 rfl ⟨by decide +kernel, by decide⟩ ?_
    refine v_iconst 12 dX11_decision_11 rfl ⟨by decide +kernel, by decide⟩ ?_
    refine v_csI3 mX11_within 15 dX11_decision_12 rfl kX11_93 (by omega) (Nat.le_of_ble_eq_true rfl) ?_
    refine X11_within (fun h12 => ?_) (fun h12 => ?_)
    · skip
      refine v_if_ne 21 18 dX11_decision_15 rfl rfl (fun _ => ?_) (fun h => absurd (by decide) h)
      refine v_iload1 22 dX11_decision_21 rfl ?_
      refine v_iload2 23 dX11_decision_22 rfl ?_
      refine v_icmp_gt 35 26 dX11_decision_23 rfl rfl (fun h23 => ?_) (fun h23 => ?_)
      · skip
        refine v_bipush 37 dX11_decision_35 rfl ⟨by decide +kernel, by decide⟩ ?_
        refine v_iretI dX11_decision_37 rfl ?_
        first | exact o1 (by omega) | exact o2 (by omega) | exact o3 (by omega) | exact o4 (by omega)
      · skip
        refine v_iload3 27 dX11_decision_26 rfl ?_
        refine v_iconst 28 dX11_decision_27 rfl ⟨by decide +kernel, by decide⟩ ?_
        refine v_iconst 29 dX11_decision_28 rfl ⟨by decide +kernel, by decide⟩ ?_
        refine v_csI3 mX11_within 32 dX11_decision_29 rfl kX11_93 (by omega) (Nat.le_of_ble_eq_true rfl) ?_
        refine X11_within (fun h29 => ?_) (fun h29 => ?_)
        · skip
          refine v_if_ne 38 35 dX11_decision_32 rfl rfl (fun _ => ?_) (fun h => absurd (by decide) h)
          refine v_aload0 39 dX11_decision_38 rfl ?_
          refine v_getR 42 dX11_decision_39 rfl fX11_26 rfl rfl ?_
          refine v_getI 45 0 dX11_decision_42 rfl fX11_97 rfl rfl rfl ?_
          refine v_if_le 51 48 dX11_decision_45 rfl rfl (fun h45 => ?_) (fun h45 => ?_)
          · skip
            refine v_aload0 52 dX11_decision_51 rfl ?_
            refine v_getR 55 dX11_decision_52 rfl fX11_12 rfl rfl ?_
            refine v_getIe 58 0 (n) dX11_decision_55 rfl fX11_101 rfl rfl rfl (hn) ?_
            refine v_bipush 60 dX11_decision_58 rfl ⟨by decide +kernel, by decide⟩ ?_
            refine v_icmp_lt 66 63 dX11_decision_60 rfl rfl (fun h60 => ?_) (fun h60 => ?_)
            · skip
              refine v_aload0 67 dX11_decision_66 rfl ?_
              refine v_getR 70 dX11_decision_67 rfl fX11_12 rfl rfl ?_
              refine v_iload1 71 dX11_decision_70 rfl ?_
              refine v_iload2 72 dX11_decision_71 rfl ?_
              refine v_iload3 73 dX11_decision_72 rfl ?_
              refine v_cvI3 mX3_add 76 dX11_decision_73 rfl kX11_102 rfl rfl (by omega) (Nat.le_of_ble_eq_true rfl) ?_
              refine X3_add hn (by omega) ?_
              refine v_istore4 78 dX11_decision_76 rfl (by decide) ?_
              refine v_aload0 79 dX11_decision_78 rfl ?_
              refine v_getR 82 dX11_decision_79 rfl fX11_85 rfl rfl ?_
              refine v_iload4 84 dX11_decision_82 rfl ?_
              refine v_iload1 85 dX11_decision_84 rfl ?_
              refine v_iast 86 dX11_decision_85 rfl rfl (⟨by omega, by omega⟩) ?_
              refine v_iload4 88 dX11_decision_86 rfl ?_
              refine v_iretI dX11_decision_88 rfl ?_
              first | exact o1 (by omega) | exact o2 (by omega) | exact o3 (by omega) | exact o4 (by omega)
            · skip
              refine v_bipush 65 dX11_decision_63 rfl ⟨by decide +kernel, by decide⟩ ?_
              refine v_iretI dX11_decision_65 rfl ?_
              first | exact o1 (by omega) | exact o2 (by omega) | exact o3 (by omega) | exact o4 (by omega)
          · skip
            refine v_bipush 50 dX11_decision_48 rfl ⟨by decide +kernel, by decide⟩ ?_
            refine v_iretI dX11_decision_50 rfl ?_
            first | exact o1 (by omega) | exact o2 (by omega) | exact o3 (by omega) | exact o4 (by omega)
        · skip
          refine v_if_ne 38 35 dX11_decision_32 rfl rfl (fun h => absurd h (by decide)) (fun _ => ?_)
          refine v_bipush 37 dX11_decision_35 rfl ⟨by decide +kernel, by decide⟩ ?_
          refine v_iretI dX11_decision_37 rfl ?_
          first | exact o1 (by omega) | exact o2 (by omega) | exact o3 (by omega) | exact o4 (by omega)
    · skip
      refine v_if_ne 21 18 dX11_decision_15 rfl rfl (fun h => absurd h (by decide)) (fun _ => ?_)
      refine v_bipush 20 dX11_decision_18 rfl ⟨by decide +kernel, by decide⟩ ?_
      refine v_iretI dX11_decision_20 rfl ?_
      first | exact o1 (by omega) | exact o2 (by omega) | exact o3 (by omega) | exact o4 (by omega)
  · skip
    refine v_if_eq 18 9 dX11_decision_6 rfl rfl (fun _ => ?_) (fun h => absurd (by decide) h)
    refine v_bipush 20 dX11_decision_18 rfl ⟨by decide +kernel, by decide⟩ ?_
    refine v_iretI dX11_decision_20 rfl ?_
    first | exact o1 (by omega) | exact o2 (by omega) | exact o3 (by omega) | exact o4 (by omega)
set_option maxRecDepth 100000 in
set_option maxHeartbeats 4000000 in
theorem X11_weight {d : Nat} {n : Nat} {k w p : Int} {σ : Mem} {K : Int → Mem → Prop} (hn : σ 1 0 = n) (hn6 : n ≤ 6) (hd : 2 ≤ d) (o1 : k < 0 ∨ (n : Int) ≤ k → K (-1) σ) (o2 : (0 ≤ k ∧ k < n) ∧ (w < 0 ∨ 100 < w ∨ p < 0 ∨ 20 < p) → K (-2) σ) (o3 : (0 ≤ k ∧ k < n) ∧ ¬ (w < 0 ∨ 100 < w ∨ p < 0 ∨ 20 < p) → K 1 (wr (wr σ 15 k w) 16 k p)) : Run mX11_weight d [.inr (some 0), .inl k, .inl w, .inl p] σ (RI K) := by
  refine Run_of (ls := [.inr (some 0), .inl k, .inl w, .inl p]) (by decide) (Nat.le_of_ble_eq_true rfl) rfl ?_
  refine v_aload0 1 dX11_weight_0 rfl ?_
  refine v_getR 4 dX11_weight_1 rfl fX11_12 rfl rfl ?_
  refine v_iload1 5 dX11_weight_4 rfl ?_
  refine v_cvI1 mX3_has 8 dX11_weight_5 rfl kX11_106 rfl rfl (by omega) (Nat.le_of_ble_eq_true rfl) ?_
  refine X3_has (fun h5 => ?_) (fun h5 => ?_)
  · skip
    refine v_if_ne 13 11 dX11_weight_8 rfl rfl (fun _ => ?_) (fun h => absurd (by decide) h)
    refine v_iload2 14 dX11_weight_13 rfl ?_
    refine v_iconst 15 dX11_weight_14 rfl ⟨by decide +kernel, by decide⟩ ?_
    refine v_bipush 17 dX11_weight_15 rfl ⟨by decide +kernel, by decide⟩ ?_
    refine v_csI3 mX11_within 20 dX11_weight_17 rfl kX11_93 (by omega) (Nat.le_of_ble_eq_true rfl) ?_
    refine X11_within (fun h17 => ?_) (fun h17 => ?_)
    · skip
      refine v_if_eq 33 23 dX11_weight_20 rfl rfl (fun h => absurd h (by decide)) (fun _ => ?_)
      refine v_iload3 24 dX11_weight_23 rfl ?_
      refine v_iconst 25 dX11_weight_24 rfl ⟨by decide +kernel, by decide⟩ ?_
      refine v_bipush 27 dX11_weight_25 rfl ⟨by decide +kernel, by decide⟩ ?_
      refine v_csI3 mX11_within 30 dX11_weight_27 rfl kX11_93 (by omega) (Nat.le_of_ble_eq_true rfl) ?_
      refine X11_within (fun h27 => ?_) (fun h27 => ?_)
      · skip
        refine v_if_ne 36 33 dX11_weight_30 rfl rfl (fun _ => ?_) (fun h => absurd (by decide) h)
        refine v_aload0 37 dX11_weight_36 rfl ?_
        refine v_getR 40 dX11_weight_37 rfl fX11_12 rfl rfl ?_
        refine v_getR 43 dX11_weight_40 rfl fX11_110 rfl rfl ?_
        refine v_iload1 44 dX11_weight_43 rfl ?_
        refine v_iload2 45 dX11_weight_44 rfl ?_
        refine v_iast 46 dX11_weight_45 rfl rfl (⟨by omega, by omega⟩) ?_
        refine v_aload0 47 dX11_weight_46 rfl ?_
        refine v_getR 50 dX11_weight_47 rfl fX11_12 rfl rfl ?_
        refine v_getR 53 dX11_weight_50 rfl fX11_113 rfl rfl ?_
        refine v_iload1 54 dX11_weight_53 rfl ?_
        refine v_iload3 55 dX11_weight_54 rfl ?_
        refine v_iast 56 dX11_weight_55 rfl rfl (⟨by omega, by omega⟩) ?_
        refine v_iconst 57 dX11_weight_56 rfl ⟨by decide +kernel, by decide⟩ ?_
        refine v_iretI dX11_weight_57 rfl ?_
        first | exact o1 (by omega) | exact o2 (by omega) | exact o3 (by omega)
      · skip
        refine v_if_ne 36 33 dX11_weight_30 rfl rfl (fun h => absurd h (by decide)) (fun _ => ?_)
        refine v_bipush 35 dX11_weight_33 rfl ⟨by decide +kernel, by decide⟩ ?_
        refine v_iretI dX11_weight_35 rfl ?_
        first | exact o1 (by omega) | exact o2 (by omega) | exact o3 (by omega)
    · skip
      refine v_if_eq 33 23 dX11_weight_20 rfl rfl (fun _ => ?_) (fun h => absurd (by decide) h)
      refine v_bipush 35 dX11_weight_33 rfl ⟨by decide +kernel, by decide⟩ ?_
      refine v_iretI dX11_weight_35 rfl ?_
      first | exact o1 (by omega) | exact o2 (by omega) | exact o3 (by omega)
  · skip
    refine v_if_ne 13 11 dX11_weight_8 rfl rfl (fun h => absurd h (by decide)) (fun _ => ?_)
    refine v_iconst 12 dX11_weight_11 rfl ⟨by decide +kernel, by decide⟩ ?_
    refine v_iretI dX11_weight_12 rfl ?_
    first | exact o1 (by omega) | exact o2 (by omega) | exact o3 (by omega)
set_option maxRecDepth 100000 in
set_option maxHeartbeats 4000000 in
theorem X11_worth {d : Nat} {n : Nat} {k v w : Int} {σ : Mem} {K : Int → Mem → Prop} (hn : σ 1 0 = n) (hn6 : n ≤ 6) (hd : 2 ≤ d) (o1 : k < 0 ∨ (n : Int) ≤ k → K (-1) σ) (o2 : (0 ≤ k ∧ k < n) ∧ (v < 0 ∨ 5 < v ∨ w < 0 ∨ 100 < w) → K (-2) σ) (o3 : (0 ≤ k ∧ k < n) ∧ ¬ (v < 0 ∨ 5 < v ∨ w < 0 ∨ 100 < w) → K (σ (19 + k.toNat) v) (wr σ (19 + k.toNat) v w)) : Run mX11_worth d [.inr (some 0), .inl k, .inl v, .inl w] σ (RI K) := by
  refine Run_of (ls := [.inr (some 0), .inl k, .inl v, .inl w, .inr none]) (by decide) (Nat.le_of_ble_eq_true rfl) rfl ?_
  refine v_aload0 1 dX11_worth_0 rfl ?_
  refine v_getR 4 dX11_worth_1 rfl fX11_12 rfl rfl ?_
  refine v_iload1 5 dX11_worth_4 rfl ?_
  refine v_cvI1 mX3_has 8 dX11_worth_5 rfl kX11_106 rfl rfl (by omega) (Nat.le_of_ble_eq_true rfl) ?_
  refine X3_has (fun h5 => ?_) (fun h5 => ?_)
  · skip
    refine v_if_ne 13 11 dX11_worth_8 rfl rfl (fun _ => ?_) (fun h => absurd (by decide) h)
    refine v_iload2 14 dX11_worth_13 rfl ?_
    refine v_iconst 15 dX11_worth_14 rfl ⟨by decide +kernel, by decide⟩ ?_
    refine v_iconst 16 dX11_worth_15 rfl ⟨by decide +kernel, by decide⟩ ?_
    refine v_csI3 mX11_within 19 dX11_worth_16 rfl kX11_93 (by omega) (Nat.le_of_ble_eq_true rfl) ?_
    refine X11_within (fun h16 => ?_) (fun h16 => ?_)
    · skip
      refine v_if_eq 32 22 dX11_worth_19 rfl rfl (fun h => absurd h (by decide)) (fun _ => ?_)
      refine v_iload3 23 dX11_worth_22 rfl ?_
      refine v_iconst 24 dX11_worth_23 rfl ⟨by decide +kernel, by decide⟩ ?_
      refine v_bipush 26 dX11_worth_24 rfl ⟨by decide +kernel, by decide⟩ ?_
      refine v_csI3 mX11_within 29 dX11_worth_26 rfl kX11_93 (by omega) (Nat.le_of_ble_eq_true rfl) ?_
      refine X11_within (fun h26 => ?_) (fun h26 => ?_)
      · skip
        refine v_if_ne 35 32 dX11_worth_29 rfl rfl (fun _ => ?_) (fun h => absurd (by decide) h)
        refine v_aload0 36 dX11_worth_35 rfl ?_
        refine v_getR 39 dX11_worth_36 rfl fX11_12 rfl rfl ?_
        refine v_getR 42 dX11_worth_39 rfl fX11_116 rfl rfl ?_
        refine v_iload1 43 dX11_worth_42 rfl ?_
        refine v_aald 44 dX11_worth_43 rfl rfl (⟨by omega, by omega⟩) ?_
        refine v_iload2 45 dX11_worth_44 rfl ?_
        refine v_iald 46 dX11_worth_45 rfl (sh19 _ (by omega)) (⟨by omega, by omega⟩) ?_
        refine v_istore4 48 dX11_worth_46 rfl (by decide) ?_
        refine v_aload0 49 dX11_worth_48 rfl ?_
        refine v_getR 52 dX11_worth_49 rfl fX11_12 rfl rfl ?_
        refine v_getR 55 dX11_worth_52 rfl fX11_116 rfl rfl ?_
        refine v_iload1 56 dX11_worth_55 rfl ?_
        refine v_aald 57 dX11_worth_56 rfl rfl (⟨by omega, by omega⟩) ?_
        refine v_iload2 58 dX11_worth_57 rfl ?_
        refine v_iload3 59 dX11_worth_58 rfl ?_
        refine v_iast 60 dX11_worth_59 rfl (sh19 _ (by omega)) (⟨by omega, by omega⟩) ?_
        refine v_iload4 62 dX11_worth_60 rfl ?_
        refine v_iretI dX11_worth_62 rfl ?_
        first | exact o1 (by omega) | exact o2 (by omega) | exact o3 (by omega)
      · skip
        refine v_if_ne 35 32 dX11_worth_29 rfl rfl (fun h => absurd h (by decide)) (fun _ => ?_)
        refine v_bipush 34 dX11_worth_32 rfl ⟨by decide +kernel, by decide⟩ ?_
        refine v_iretI dX11_worth_34 rfl ?_
        first | exact o1 (by omega) | exact o2 (by omega) | exact o3 (by omega)
    · skip
      refine v_if_eq 32 22 dX11_worth_19 rfl rfl (fun _ => ?_) (fun h => absurd (by decide) h)
      refine v_bipush 34 dX11_worth_32 rfl ⟨by decide +kernel, by decide⟩ ?_
      refine v_iretI dX11_worth_34 rfl ?_
      first | exact o1 (by omega) | exact o2 (by omega) | exact o3 (by omega)
  · skip
    refine v_if_ne 13 11 dX11_worth_8 rfl rfl (fun h => absurd h (by decide)) (fun _ => ?_)
    refine v_iconst 12 dX11_worth_11 rfl ⟨by decide +kernel, by decide⟩ ?_
    refine v_iretI dX11_worth_12 rfl ?_
    first | exact o1 (by omega) | exact o2 (by omega) | exact o3 (by omega)
set_option maxRecDepth 100000 in
set_option maxHeartbeats 4000000 in
theorem X11_pin {d : Nat} {n : Nat} {k v : Int} {σ : Mem} {K : Int → Mem → Prop} (hn : σ 1 0 = n) (hn6 : n ≤ 6) (hd : 2 ≤ d) (o1 : k < 0 ∨ (n : Int) ≤ k → K (-1) σ) (o2 : (0 ≤ k ∧ k < n) ∧ v ≠ -5 ∧ (v < σ 12 k ∨ σ 13 k < v) → K (-2) σ) (o3 : (0 ≤ k ∧ k < n) ∧ (v = -5 ∨ (σ 12 k ≤ v ∧ v ≤ σ 13 k)) → K 1 (wr σ 17 k v)) : Run mX11_pin d [.inr (some 0), .inl k, .inl v] σ (RI K) := by
  refine Run_of (ls := [.inr (some 0), .inl k, .inl v]) (by decide) (Nat.le_of_ble_eq_true rfl) rfl ?_
  refine v_aload0 1 dX11_pin_0 rfl ?_
  refine v_getR 4 dX11_pin_1 rfl fX11_12 rfl rfl ?_
  refine v_iload1 5 dX11_pin_4 rfl ?_
  refine v_cvI1 mX3_has 8 dX11_pin_5 rfl kX11_106 rfl rfl (by omega) (Nat.le_of_ble_eq_true rfl) ?_
  refine X3_has (fun h5 => ?_) (fun h5 => ?_)
  · skip
    refine v_if_ne 13 11 dX11_pin_8 rfl rfl (fun _ => ?_) (fun h => absurd (by decide) h)
    refine v_iload2 14 dX11_pin_13 rfl ?_
    refine v_bipush 16 dX11_pin_14 rfl ⟨by decide +kernel, by decide⟩ ?_
    refine v_icmp_eq 34 19 dX11_pin_16 rfl rfl (fun h16 => ?_) (fun h16 => ?_)
    · skip
      refine v_aload0 35 dX11_pin_34 rfl ?_
      refine v_getR 38 dX11_pin_35 rfl fX11_12 rfl rfl ?_
      refine v_getR 41 dX11_pin_38 rfl fX11_124 rfl rfl ?_
      refine v_iload1 42 dX11_pin_41 rfl ?_
      refine v_iload2 43 dX11_pin_42 rfl ?_
      refine v_iast 44 dX11_pin_43 rfl rfl (⟨by omega, by omega⟩) ?_
      refine v_iconst 45 dX11_pin_44 rfl ⟨by decide +kernel, by decide⟩ ?_
      refine v_iretI dX11_pin_45 rfl ?_
      first | exact o1 (by omega) | exact o2 (by omega) | exact o3 (by omega)
    · skip
      refine v_aload0 20 dX11_pin_19 rfl ?_
      refine v_getR 23 dX11_pin_20 rfl fX11_12 rfl rfl ?_
      refine v_iload1 24 dX11_pin_23 rfl ?_
      refine v_iload2 25 dX11_pin_24 rfl ?_
      refine v_cvI2 mX3_mayHave 28 dX11_pin_25 rfl kX11_120 rfl rfl (by omega) (Nat.le_of_ble_eq_true rfl) ?_
      refine X3_mayHave (by omega) (fun h25 => ?_) (fun h25 => ?_)
      · skip
        refine v_if_ne 34 31 dX11_pin_28 rfl rfl (fun _ => ?_) (fun h => absurd (by decide) h)
        refine v_aload0 35 dX11_pin_34 rfl ?_
        refine v_getR 38 dX11_pin_35 rfl fX11_12 rfl rfl ?_
        refine v_getR 41 dX11_pin_38 rfl fX11_124 rfl rfl ?_
        refine v_iload1 42 dX11_pin_41 rfl ?_
        refine v_iload2 43 dX11_pin_42 rfl ?_
        refine v_iast 44 dX11_pin_43 rfl rfl (⟨by omega, by omega⟩) ?_
        refine v_iconst 45 dX11_pin_44 rfl ⟨by decide +kernel, by decide⟩ ?_
        refine v_iretI dX11_pin_45 rfl ?_
        first | exact o1 (by omega) | exact o2 (by omega) | exact o3 (by omega)
      · skip
        refine v_if_ne 34 31 dX11_pin_28 rfl rfl (fun h => absurd h (by decide)) (fun _ => ?_)
        refine v_bipush 33 dX11_pin_31 rfl ⟨by decide +kernel, by decide⟩ ?_
        refine v_iretI dX11_pin_33 rfl ?_
        first | exact o1 (by omega) | exact o2 (by omega) | exact o3 (by omega)
  · skip
    refine v_if_ne 13 11 dX11_pin_8 rfl rfl (fun h => absurd h (by decide)) (fun _ => ?_)
    refine v_iconst 12 dX11_pin_11 rfl ⟨by decide +kernel, by decide⟩ ?_
    refine v_iretI dX11_pin_12 rfl ?_
    first | exact o1 (by omega) | exact o2 (by omega) | exact o3 (by omega)
set_option maxRecDepth 100000 in
set_option maxHeartbeats 4000000 in
theorem X11_limit {d : Nat} {w v : Int} {σ : Mem} {K : Int → Mem → Prop} (hd : 2 ≤ d) (o1 : w < 0 ∨ 3 < w ∨ v < 0 ∨ 6 < v → K (-2) σ) (o2 : ¬ (w < 0 ∨ 3 < w ∨ v < 0 ∨ 6 < v) → K (σ 25 w) (wr σ 25 w v)) : Run mX11_limit d [.inr (some 0), .inl w, .inl v] σ (RI K) := by
  refine Run_of (ls := [.inr (some 0), .inl w, .inl v, .inr none]) (by decide) (Nat.le_of_ble_eq_true rfl) rfl ?_
  refine v_iload1 1 dX11_limit_0 rfl ?_
  refine v_iconst 2 dX11_limit_1 rfl ⟨by decide +kernel, by decide⟩ ?_
  refine v_iconst 3 dX11_limit_2 rfl ⟨by decide +kernel, by decide⟩ ?_
  refine v_csI3 mX11_within 6 dX11_limit_3 rfl kX11_93 (by omega) (Nat.le_of_ble_eq_true rfl) ?_
  refine X11_within (fun h3 => ?_) (fun h3 => ?_)
  · skip
    refine v_if_eq 19 9 dX11_limit_6 rfl rfl (fun h => absurd h (by decide)) (fun _ => ?_)
    refine v_iload2 10 dX11_limit_9 rfl ?_
    refine v_iconst 11 dX11_limit_10 rfl ⟨by decide +kernel, by decide⟩ ?_
    refine v_bipush 13 dX11_limit_11 rfl ⟨by decide +kernel, by decide⟩ ?_
    refine v_csI3 mX11_within 16 dX11_limit_13 rfl kX11_93 (by omega) (Nat.le_of_ble_eq_true rfl) ?_
    refine X11_within (fun h13 => ?_) (fun h13 => ?_)
    · skip
      refine v_if_ne 22 19 dX11_limit_16 rfl rfl (fun _ => ?_) (fun h => absurd (by decide) h)
      refine v_aload0 23 dX11_limit_22 rfl ?_
      refine v_getR 26 dX11_limit_23 rfl fX11_12 rfl rfl ?_
      refine v_getR 29 dX11_limit_26 rfl fX11_127 rfl rfl ?_
      refine v_iload1 30 dX11_limit_29 rfl ?_
      refine v_iald 31 dX11_limit_30 rfl rfl (⟨by omega, by omega⟩) ?_
      refine v_istore3 32 dX11_limit_31 rfl (by decide) ?_
      refine v_aload0 33 dX11_limit_32 rfl ?_
      refine v_getR 36 dX11_limit_33 rfl fX11_12 rfl rfl ?_
      refine v_getR 39 dX11_limit_36 rfl fX11_127 rfl rfl ?_
      refine v_iload1 40 dX11_limit_39 rfl ?_
      refine v_iload2 41 dX11_limit_40 rfl ?_
      refine v_iast 42 dX11_limit_41 rfl rfl (⟨by omega, by omega⟩) ?_
      refine v_iload3 43 dX11_limit_42 rfl ?_
      refine v_iretI dX11_limit_43 rfl ?_
      first | exact o1 (by omega) | exact o2 (by omega)
    · skip
      refine v_if_ne 22 19 dX11_limit_16 rfl rfl (fun h => absurd h (by decide)) (fun _ => ?_)
      refine v_bipush 21 dX11_limit_19 rfl ⟨by decide +kernel, by decide⟩ ?_
      refine v_iretI dX11_limit_21 rfl ?_
      first | exact o1 (by omega) | exact o2 (by omega)
  · skip
    refine v_if_eq 19 9 dX11_limit_6 rfl rfl (fun _ => ?_) (fun h => absurd (by decide) h)
    refine v_bipush 21 dX11_limit_19 rfl ⟨by decide +kernel, by decide⟩ ?_
    refine v_iretI dX11_limit_21 rfl ?_
    first | exact o1 (by omega) | exact o2 (by omega)
set_option maxRecDepth 100000 in
set_option maxHeartbeats 4000000 in
theorem X8_addFact {d : Nat} {F : Nat} {v : Int} {σ : Mem} {K : Int → Mem → Prop} (hF : σ 2 0 = F) (hF6 : F < 6) (hk0 : K F (wr (wr σ 26 F v) 2 0 (F + 1))) : Run mX8_addFact d [.inr (some 2), .inl v] σ (RI K) := by
  refine Run_of (ls := [.inr (some 2), .inl v]) (by decide) (Nat.le_of_ble_eq_true rfl) rfl ?_
  refine v_aload0 1 dX8_addFact_0 rfl ?_
  refine v_getR 4 dX8_addFact_1 rfl fX8_15 rfl rfl ?_
  refine v_aload0 5 dX8_addFact_4 rfl ?_
  refine v_getIe 8 0 (F) dX8_addFact_5 rfl fX8_9 rfl rfl rfl (hF) ?_
  refine v_iload1 9 dX8_addFact_8 rfl ?_
  refine v_iast 10 dX8_addFact_9 rfl rfl (⟨by omega, by omega⟩) ?_
  refine v_aload0 11 dX8_addFact_10 rfl ?_
  refine v_dup 12 dX8_addFact_11 rfl ?_
  refine v_getIe 15 0 (F) dX8_addFact_12 rfl fX8_9 rfl rfl rfl (hF) ?_
  refine v_iconst 16 dX8_addFact_15 rfl ⟨by decide +kernel, by decide⟩ ?_
  refine v_iadd 17 dX8_addFact_16 rfl (⟨by omega, by omega⟩) ?_
  refine v_putI 20 0 dX8_addFact_17 rfl pX8_9 rfl rfl rfl ?_
  refine v_aload0 21 dX8_addFact_20 rfl ?_
  refine v_getIe 24 0 ((F : Int) + 1) dX8_addFact_21 rfl fX8_9 rfl rfl rfl (rfl) ?_
  refine v_iconst 25 dX8_addFact_24 rfl ⟨by decide +kernel, by decide⟩ ?_
  refine v_isub 26 dX8_addFact_25 rfl (⟨by omega, by omega⟩) ?_
  refine v_iretI dX8_addFact_26 rfl ?_
  rw [show (F : Int) + 1 - 1 = F by omega]; exact hk0
set_option maxRecDepth 100000 in
set_option maxHeartbeats 4000000 in
theorem X11_fact {d : Nat} {F : Nat} {v : Int} {σ : Mem} {K : Int → Mem → Prop} (hF : σ 2 0 = F) (hF6 : F ≤ 6) (hd : 2 ≤ d) (o1 : v < -20 ∨ 20 < v → K (-2) σ) (o2 : ¬ (v < -20 ∨ 20 < v) ∧ 0 < σ 3 0 → K (-3) σ) (o3 : ¬ (v < -20 ∨ 20 < v) ∧ σ 3 0 ≤ 0 ∧ F = 6 → K (-4) σ) (o4 : ¬ (v < -20 ∨ 20 < v) ∧ σ 3 0 ≤ 0 ∧ F < 6 → K F (wr (wr σ 26 F v) 2 0 (F + 1))) : Run mX11_fact d [.inr (some 0), .inl v] σ (RI K) := by
  refine Run_of (ls := [.inr (some 0), .inl v]) (by decide) (Nat.le_of_ble_eq_true rfl) rfl ?_
  refine v_iload1 1 dX11_fact_0 rfl ?_
  refine v_bipush 3 dX11_fact_1 rfl ⟨by decide +kernel, by decide⟩ ?_
  refine v_bipush 5 dX11_fact_3 rfl ⟨by decide +kernel, by decide⟩ ?_
  refine v_csI3 mX11_within 8 dX11_fact_5 rfl kX11_93 (by omega) (Nat.le_of_ble_eq_true rfl) ?_
  refine X11_within (fun h5 => ?_) (fun h5 => ?_)
  · skip
    refine v_if_ne 14 11 dX11_fact_8 rfl rfl (fun _ => ?_) (fun h => absurd (by decide) h)
    refine v_aload0 15 dX11_fact_14 rfl ?_
    refine v_getR 18 dX11_fact_15 rfl fX11_26 rfl rfl ?_
    refine v_getI 21 0 dX11_fact_18 rfl fX11_97 rfl rfl rfl ?_
    refine v_if_le 27 24 dX11_fact_21 rfl rfl (fun h21 => ?_) (fun h21 => ?_)
    · skip
      refine v_aload0 28 dX11_fact_27 rfl ?_
      refine v_getR 31 dX11_fact_28 rfl fX11_19 rfl rfl ?_
      refine v_getIe 34 0 (F) dX11_fact_31 rfl fX11_130 rfl rfl rfl (hF) ?_
      refine v_bipush 36 dX11_fact_34 rfl ⟨by decide +kernel, by decide⟩ ?_
      refine v_icmp_lt 42 39 dX11_fact_36 rfl rfl (fun h36 => ?_) (fun h36 => ?_)
      · skip
        refine v_aload0 43 dX11_fact_42 rfl ?_
        refine v_getR 46 dX11_fact_43 rfl fX11_19 rfl rfl ?_
        refine v_iload1 47 dX11_fact_46 rfl ?_
        refine v_cvI1 mX8_addFact 50 dX11_fact_47 rfl kX11_133 rfl rfl (by omega) (Nat.le_of_ble_eq_true rfl) ?_
        refine X8_addFact hF (by omega) ?_
        refine v_iretI dX11_fact_50 rfl ?_
        first | exact o1 (by omega) | exact o2 (by omega) | exact o3 (by omega) | exact o4 (by omega)
      · skip
        refine v_bipush 41 dX11_fact_39 rfl ⟨by decide +kernel, by decide⟩ ?_
        refine v_iretI dX11_fact_41 rfl ?_
        first | exact o1 (by omega) | exact o2 (by omega) | exact o3 (by omega) | exact o4 (by omega)
    · skip
      refine v_bipush 26 dX11_fact_24 rfl ⟨by decide +kernel, by decide⟩ ?_
      refine v_iretI dX11_fact_26 rfl ?_
      first | exact o1 (by omega) | exact o2 (by omega) | exact o3 (by omega) | exact o4 (by omega)
  · skip
    refine v_if_ne 14 11 dX11_fact_8 rfl rfl (fun h => absurd h (by decide)) (fun _ => ?_)
    refine v_bipush 13 dX11_fact_11 rfl ⟨by decide +kernel, by decide⟩ ?_
    refine v_iretI dX11_fact_13 rfl ?_
    first | exact o1 (by omega) | exact o2 (by omega) | exact o3 (by omega) | exact o4 (by omega)
set_option maxRecDepth 100000 in
set_option maxHeartbeats 4000000 in
theorem X11_change {d : Nat} {F : Nat} {k v : Int} {σ : Mem} {K : Int → Mem → Prop} (hF : σ 2 0 = F) (hF6 : F ≤ 6) (hd : 2 ≤ d) (o1 : k < 0 ∨ (F : Int) ≤ k → K (-1) σ) (o2 : (0 ≤ k ∧ k < F) ∧ (v < -20 ∨ 20 < v) → K (-2) σ) (o3 : (0 ≤ k ∧ k < F) ∧ ¬ (v < -20 ∨ 20 < v) → K (σ 26 k) (wr σ 26 k v)) : Run mX11_change d [.inr (some 0), .inl k, .inl v] σ (RI K) := by
  refine Run_of (ls := [.inr (some 0), .inl k, .inl v, .inr none]) (by decide) (Nat.le_of_ble_eq_true rfl) rfl ?_
  refine v_aload0 1 dX11_change_0 rfl ?_
  refine v_getR 4 dX11_change_1 rfl fX11_19 rfl rfl ?_
  refine v_iload1 5 dX11_change_4 rfl ?_
  refine v_cvI1 mX8_hasFact 8 dX11_change_5 rfl kX11_137 rfl rfl (by omega) (Nat.le_of_ble_eq_true rfl) ?_
  refine X8_hasFact (fun h5 => ?_) (fun h5 => ?_)
  · skip
    refine v_if_ne 13 11 dX11_change_8 rfl rfl (fun _ => ?_) (fun h => absurd (by decide) h)
    refine v_iload2 14 dX11_change_13 rfl ?_
    refine v_bipush 16 dX11_change_14 rfl ⟨by decide +kernel, by decide⟩ ?_
    refine v_bipush 18 dX11_change_16 rfl ⟨by decide +kernel, by decide⟩ ?_
    refine v_csI3 mX11_within 21 dX11_change_18 rfl kX11_93 (by omega) (Nat.le_of_ble_eq_true rfl) ?_
    refine X11_within (fun h18 => ?_) (fun h18 => ?_)
    · skip
      refine v_if_ne 27 24 dX11_change_21 rfl rfl (fun _ => ?_) (fun h => absurd (by decide) h)
      refine v_aload0 28 dX11_change_27 rfl ?_
      refine v_getR 31 dX11_change_28 rfl fX11_19 rfl rfl ?_
      refine v_getR 34 dX11_change_31 rfl fX11_140 rfl rfl ?_
      refine v_iload1 35 dX11_change_34 rfl ?_
      refine v_iald 36 dX11_change_35 rfl rfl (⟨by omega, by omega⟩) ?_
      refine v_istore3 37 dX11_change_36 rfl (by decide) ?_
      refine v_aload0 38 dX11_change_37 rfl ?_
      refine v_getR 41 dX11_change_38 rfl fX11_19 rfl rfl ?_
      refine v_getR 44 dX11_change_41 rfl fX11_140 rfl rfl ?_
      refine v_iload1 45 dX11_change_44 rfl ?_
      refine v_iload2 46 dX11_change_45 rfl ?_
      refine v_iast 47 dX11_change_46 rfl rfl (⟨by omega, by omega⟩) ?_
      refine v_iload3 48 dX11_change_47 rfl ?_
      refine v_iretI dX11_change_48 rfl ?_
      first | exact o1 (by omega) | exact o2 (by omega) | exact o3 (by omega)
    · skip
      refine v_if_ne 27 24 dX11_change_21 rfl rfl (fun h => absurd h (by decide)) (fun _ => ?_)
      refine v_bipush 26 dX11_change_24 rfl ⟨by decide +kernel, by decide⟩ ?_
      refine v_iretI dX11_change_26 rfl ?_
      first | exact o1 (by omega) | exact o2 (by omega) | exact o3 (by omega)
  · skip
    refine v_if_ne 13 11 dX11_change_8 rfl rfl (fun h => absurd h (by decide)) (fun _ => ?_)
    refine v_iconst 12 dX11_change_11 rfl ⟨by decide +kernel, by decide⟩ ?_
    refine v_iretI dX11_change_12 rfl ?_
    first | exact o1 (by omega) | exact o2 (by omega) | exact o3 (by omega)
set_option maxRecDepth 100000 in
set_option maxHeartbeats 4000000 in
theorem X8_add {d : Nat} {R : Nat} {kd a b f : Int} {σ : Mem} {K : Int → Mem → Prop} (hR : σ 2 2 = R) (hR12 : R < 12) (hd : 1 ≤ d) (h5 : kd = 5 → 0 ≤ b ∧ b ≤ 5) (h6 : kd ≠ 5 → 0 ≤ a ∧ a ≤ 5 ∧ 0 ≤ b ∧ b ≤ 5) (o1 : kd = 5 → K R (wr (wr (wr (wr (wr (wr σ 27 R kd) 28 R a) 29 R b) 30 R f) 32 b (bor (σ 32 b) ((2 ^ R : Nat) : Int))) 2 2 (R + 1))) (o2 : kd ≠ 5 → K R (wr (wr (wr (wr (wr (wr σ 27 R kd) 28 R a) 29 R b) 30 R f) 31 (max a b) (bor (σ 31 (max a b)) ((2 ^ R : Nat) : Int))) 2 2 (R + 1))) : Run mX8_add d [.inr (some 2), .inl kd, .inl a, .inl b, .inl f] σ (RI K) := by
  refine Run_of (ls := [.inr (some 2), .inl kd, .inl a, .inl b, .inl f, .inr none]) (by decide) (Nat.le_of_ble_eq_true rfl) rfl ?_
  refine v_aload0 1 dX8_add_0 rfl ?_
  refine v_getIe 4 2 (R) dX8_add_1 rfl fX8_19 rfl rfl rfl (hR) ?_
  refine v_istore5 6 dX8_add_4 rfl (by decide) ?_
  refine v_aload0 7 dX8_add_6 rfl ?_
  refine v_getR 10 dX8_add_7 rfl fX8_22 rfl rfl ?_
  refine v_iload5 12 dX8_add_10 rfl ?_
  refine v_iload1 13 dX8_add_12 rfl ?_
  refine v_iast 14 dX8_add_13 rfl rfl (⟨by omega, by omega⟩) ?_
  refine v_aload0 15 dX8_add_14 rfl ?_
  refine v_getR 18 dX8_add_15 rfl fX8_25 rfl rfl ?_
  refine v_iload5 20 dX8_add_18 rfl ?_
  refine v_iload2 21 dX8_add_20 rfl ?_
  refine v_iast 22 dX8_add_21 rfl rfl (⟨by omega, by omega⟩) ?_
  refine v_aload0 23 dX8_add_22 rfl ?_
  refine v_getR 26 dX8_add_23 rfl fX8_28 rfl rfl ?_
  refine v_iload5 28 dX8_add_26 rfl ?_
  refine v_iload3 29 dX8_add_28 rfl ?_
  refine v_iast 30 dX8_add_29 rfl rfl (⟨by omega, by omega⟩) ?_
  refine v_aload0 31 dX8_add_30 rfl ?_
  refine v_getR 34 dX8_add_31 rfl fX8_31 rfl rfl ?_
  refine v_iload5 36 dX8_add_34 rfl ?_
  refine v_iload4 38 dX8_add_36 rfl ?_
  refine v_iast 39 dX8_add_38 rfl rfl (⟨by omega, by omega⟩) ?_
  refine v_iload1 40 dX8_add_39 rfl ?_
  refine v_iconst 41 dX8_add_40 rfl ⟨by decide +kernel, by decide⟩ ?_
  refine v_icmp_ne 60 44 dX8_add_41 rfl rfl (fun h41 => ?_) (fun h41 => ?_)
  · skip
    have h66 := h6 (by omega)
    refine v_aload0 61 dX8_add_60 rfl ?_
    refine v_getR 64 dX8_add_61 rfl fX8_34 rfl rfl ?_
    refine v_iload2 65 dX8_add_64 rfl ?_
    refine v_iload3 66 dX8_add_65 rfl ?_
    refine v_mmax 69 dX8_add_66 rfl kX8_40 (by omega) (Nat.le_of_ble_eq_true rfl) ?_
    refine v_dup2 70 dX8_add_69 rfl ?_
    refine v_ialde 71 (σ 31 (max a b)) dX8_add_70 rfl rfl (⟨by omega, by omega⟩) (rfl) ?_
    refine v_iconst 72 dX8_add_71 rfl ⟨by decide +kernel, by decide⟩ ?_
    refine v_iload5 74 dX8_add_72 rfl ?_
    refine v_ishl 75 dX8_add_74 rfl ?_
    rw [bshl_one (by omega : R < 31)]
    refine v_ior 76 dX8_add_75 rfl ?_
    refine v_iast 77 dX8_add_76 rfl rfl (⟨by omega, by omega⟩) ?_
    refine v_aload0 78 dX8_add_77 rfl ?_
    refine v_dup 79 dX8_add_78 rfl ?_
    refine v_getIe 82 2 (R) dX8_add_79 rfl fX8_19 rfl rfl rfl (hR) ?_
    refine v_iconst 83 dX8_add_82 rfl ⟨by decide +kernel, by decide⟩ ?_
    refine v_iadd 84 dX8_add_83 rfl (⟨by omega, by omega⟩) ?_
    refine v_putI 87 2 dX8_add_84 rfl pX8_19 rfl rfl rfl ?_
    refine v_iload5 89 dX8_add_87 rfl ?_
    refine v_iretI dX8_add_89 rfl ?_
    first | exact o1 (by omega) | exact o2 (by omega)
  · skip
    have h55 := h5 (by omega)
    refine v_aload0 45 dX8_add_44 rfl ?_
    refine v_getR 48 dX8_add_45 rfl fX8_37 rfl rfl ?_
    refine v_iload3 49 dX8_add_48 rfl ?_
    refine v_dup2 50 dX8_add_49 rfl ?_
    refine v_ialde 51 (σ 32 b) dX8_add_50 rfl rfl (⟨by omega, by omega⟩) (rfl) ?_
    refine v_iconst 52 dX8_add_51 rfl ⟨by decide +kernel, by decide⟩ ?_
    refine v_iload5 54 dX8_add_52 rfl ?_
    refine v_ishl 55 dX8_add_54 rfl ?_
    rw [bshl_one (by omega : R < 31)]
    refine v_ior 56 dX8_add_55 rfl ?_
    refine v_iast 57 dX8_add_56 rfl rfl (⟨by omega, by omega⟩) ?_
    refine v_goto 77 dX8_add_57 rfl ?_
    refine v_aload0 78 dX8_add_77 rfl ?_
    refine v_dup 79 dX8_add_78 rfl ?_
    refine v_getIe 82 2 (R) dX8_add_79 rfl fX8_19 rfl rfl rfl (hR) ?_
    refine v_iconst 83 dX8_add_82 rfl ⟨by decide +kernel, by decide⟩ ?_
    refine v_iadd 84 dX8_add_83 rfl (⟨by omega, by omega⟩) ?_
    refine v_putI 87 2 dX8_add_84 rfl pX8_19 rfl rfl rfl ?_
    refine v_iload5 89 dX8_add_87 rfl ?_
    refine v_iretI dX8_add_89 rfl ?_
    first | exact o1 (by omega) | exact o2 (by omega)
set_option maxRecDepth 100000 in
set_option maxHeartbeats 4000000 in
theorem X11_rule {d : Nat} {n R F : Nat} {kd a b f : Int} {σ : Mem} {K : Int → Mem → Prop} (hn : σ 1 0 = n) (hn6 : n ≤ 6) (hd : 2 ≤ d) (hF : σ 2 0 = F) (hF6 : F ≤ 6) (hR : σ 2 2 = R) (hR12 : R ≤ 12) (o1 : (kd < 0 ∨ 5 < kd ∨ (kd = 5 ∧ (b < 0 ∨ 5 < b))) → K (-2) σ) (o2 : ¬ (kd < 0 ∨ 5 < kd ∨ (kd = 5 ∧ (b < 0 ∨ 5 < b))) ∧ ((kd ≠ 5 ∧ (a < 0 ∨ (n : Int) ≤ a ∨ b < 0 ∨ (n : Int) ≤ b)) ∨ f < 0 ∨ (F : Int) ≤ f) → K (-1) σ) (o3 : ¬ (kd < 0 ∨ 5 < kd ∨ (kd = 5 ∧ (b < 0 ∨ 5 < b))) ∧ ¬ ((kd ≠ 5 ∧ (a < 0 ∨ (n : Int) ≤ a ∨ b < 0 ∨ (n : Int) ≤ b)) ∨ f < 0 ∨ (F : Int) ≤ f) ∧ R = 12 → K (-4) σ) (o4 : ¬ (kd < 0 ∨ 5 < kd ∨ (kd = 5 ∧ (b < 0 ∨ 5 < b))) ∧ ¬ ((kd ≠ 5 ∧ (a < 0 ∨ (n : Int) ≤ a ∨ b < 0 ∨ (n : Int) ≤ b)) ∨ f < 0 ∨ (F : Int) ≤ f) ∧ R < 12 ∧ kd = 5 → K R (wr (wr (wr (wr (wr (wr σ 27 R kd) 28 R a) 29 R b) 30 R f) 32 b (bor (σ 32 b) ((2 ^ R : Nat) : Int))) 2 2 (R + 1))) (o5 : ¬ (kd < 0 ∨ 5 < kd ∨ (kd = 5 ∧ (b < 0 ∨ 5 < b))) ∧ ¬ ((kd ≠ 5 ∧ (a < 0 ∨ (n : Int) ≤ a ∨ b < 0 ∨ (n : Int) ≤ b)) ∨ f < 0 ∨ (F : Int) ≤ f) ∧ R < 12 ∧ kd ≠ 5 → K R (wr (wr (wr (wr (wr (wr σ 27 R kd) 28 R a) 29 R b) 30 R f) 31 (max a b) (bor (σ 31 (max a b)) ((2 ^ R : Nat) : Int))) 2 2 (R + 1))) : Run mX11_rule d [.inr (some 0), .inl kd, .inl a, .inl b, .inl f] σ (RI K) := by
  refine Run_of (ls := [.inr (some 0), .inl kd, .inl a, .inl b, .inl f]) (by decide) (Nat.le_of_ble_eq_true rfl) rfl ?_
  refine v_iload1 1 dX11_rule_0 rfl ?_
  refine v_iconst 2 dX11_rule_1 rfl ⟨by decide +kernel, by decide⟩ ?_
  refine v_iconst 3 dX11_rule_2 rfl ⟨by decide +kernel, by decide⟩ ?_
  refine v_csI3 mX11_within 6 dX11_rule_3 rfl kX11_93 (by omega) (Nat.le_of_ble_eq_true rfl) ?_
  refine X11_within (fun h3 => ?_) (fun h3 => ?_)
  · skip
    refine v_if_ne 12 9 dX11_rule_6 rfl rfl (fun _ => ?_) (fun h => absurd (by decide) h)
    refine v_iload1 13 dX11_rule_12 rfl ?_
    refine v_iconst 14 dX11_rule_13 rfl ⟨by decide +kernel, by decide⟩ ?_
    refine v_icmp_ne 29 17 dX11_rule_14 rfl rfl (fun h14 => ?_) (fun h14 => ?_)
    · skip
      refine v_iload1 30 dX11_rule_29 rfl ?_
      refine v_iconst 31 dX11_rule_30 rfl ⟨by decide +kernel, by decide⟩ ?_
      refine v_icmp_eq 58 34 dX11_rule_31 rfl rfl (fun h31 => ?_) (fun h31 => ?_)
      · skip
        refine v_aload0 59 dX11_rule_58 rfl ?_
        refine v_getR 62 dX11_rule_59 rfl fX11_19 rfl rfl ?_
        refine v_iload4 64 dX11_rule_62 rfl ?_
        refine v_cvI1 mX8_hasFact 67 dX11_rule_64 rfl kX11_137 rfl rfl (by omega) (Nat.le_of_ble_eq_true rfl) ?_
        refine X8_hasFact (fun h64 => ?_) (fun h64 => ?_)
        · skip
          refine v_if_ne 72 70 dX11_rule_67 rfl rfl (fun _ => ?_) (fun h => absurd (by decide) h)
          refine v_aload0 73 dX11_rule_72 rfl ?_
          refine v_getR 76 dX11_rule_73 rfl fX11_19 rfl rfl ?_
          refine v_getIe 79 2 (R) dX11_rule_76 rfl fX11_143 rfl rfl rfl (hR) ?_
          refine v_bipush 81 dX11_rule_79 rfl ⟨by decide +kernel, by decide⟩ ?_
          refine v_icmp_lt 87 84 dX11_rule_81 rfl rfl (fun h81 => ?_) (fun h81 => ?_)
          · skip
            refine v_aload0 88 dX11_rule_87 rfl ?_
            refine v_getR 91 dX11_rule_88 rfl fX11_19 rfl rfl ?_
            refine v_iload1 92 dX11_rule_91 rfl ?_
            refine v_iload2 93 dX11_rule_92 rfl ?_
            refine v_iload3 94 dX11_rule_93 rfl ?_
            refine v_iload4 96 dX11_rule_94 rfl ?_
            refine v_cvI4 mX8_add 99 dX11_rule_96 rfl kX11_144 rfl rfl (by omega) (Nat.le_of_ble_eq_true rfl) ?_
            refine X8_add hR (by omega) (by omega) (fun h5 => by omega) (fun h5 => by omega) (fun h5 => ?_) (fun h5 => ?_)
            · exact v_iretI dX11_rule_99 rfl (o4 (by omega))
            · exact v_iretI dX11_rule_99 rfl (o5 (by omega))
          · skip
            refine v_bipush 86 dX11_rule_84 rfl ⟨by decide +kernel, by decide⟩ ?_
            refine v_iretI dX11_rule_86 rfl ?_
            first | exact o1 (by omega) | exact o2 (by omega) | exact o3 (by omega)
        · skip
          refine v_if_ne 72 70 dX11_rule_67 rfl rfl (fun h => absurd h (by decide)) (fun _ => ?_)
          refine v_iconst 71 dX11_rule_70 rfl ⟨by decide +kernel, by decide⟩ ?_
          refine v_iretI dX11_rule_71 rfl ?_
          first | exact o1 (by omega) | exact o2 (by omega) | exact o3 (by omega)
      · skip
        refine v_aload0 35 dX11_rule_34 rfl ?_
        refine v_getR 38 dX11_rule_35 rfl fX11_12 rfl rfl ?_
        refine v_iload2 39 dX11_rule_38 rfl ?_
        refine v_cvI1 mX3_has 42 dX11_rule_39 rfl kX11_106 rfl rfl (by omega) (Nat.le_of_ble_eq_true rfl) ?_
        refine X3_has (fun h39 => ?_) (fun h39 => ?_)
        · skip
          refine v_if_eq 56 45 dX11_rule_42 rfl rfl (fun h => absurd h (by decide)) (fun _ => ?_)
          refine v_aload0 46 dX11_rule_45 rfl ?_
          refine v_getR 49 dX11_rule_46 rfl fX11_12 rfl rfl ?_
          refine v_iload3 50 dX11_rule_49 rfl ?_
          refine v_cvI1 mX3_has 53 dX11_rule_50 rfl kX11_106 rfl rfl (by omega) (Nat.le_of_ble_eq_true rfl) ?_
          refine X3_has (fun h50 => ?_) (fun h50 => ?_)
          · skip
            refine v_if_ne 58 56 dX11_rule_53 rfl rfl (fun _ => ?_) (fun h => absurd (by decide) h)
            refine v_aload0 59 dX11_rule_58 rfl ?_
            refine v_getR 62 dX11_rule_59 rfl fX11_19 rfl rfl ?_
            refine v_iload4 64 dX11_rule_62 rfl ?_
            refine v_cvI1 mX8_hasFact 67 dX11_rule_64 rfl kX11_137 rfl rfl (by omega) (Nat.le_of_ble_eq_true rfl) ?_
            refine X8_hasFact (fun h64 => ?_) (fun h64 => ?_)
            · skip
              refine v_if_ne 72 70 dX11_rule_67 rfl rfl (fun _ => ?_) (fun h => absurd (by decide) h)
              refine v_aload0 73 dX11_rule_72 rfl ?_
              refine v_getR 76 dX11_rule_73 rfl fX11_19 rfl rfl ?_
              refine v_getIe 79 2 (R) dX11_rule_76 rfl fX11_143 rfl rfl rfl (hR) ?_
              refine v_bipush 81 dX11_rule_79 rfl ⟨by decide +kernel, by decide⟩ ?_
              refine v_icmp_lt 87 84 dX11_rule_81 rfl rfl (fun h81 => ?_) (fun h81 => ?_)
              · skip
                refine v_aload0 88 dX11_rule_87 rfl ?_
                refine v_getR 91 dX11_rule_88 rfl fX11_19 rfl rfl ?_
                refine v_iload1 92 dX11_rule_91 rfl ?_
                refine v_iload2 93 dX11_rule_92 rfl ?_
                refine v_iload3 94 dX11_rule_93 rfl ?_
                refine v_iload4 96 dX11_rule_94 rfl ?_
                refine v_cvI4 mX8_add 99 dX11_rule_96 rfl kX11_144 rfl rfl (by omega) (Nat.le_of_ble_eq_true rfl) ?_
                refine X8_add hR (by omega) (by omega) (fun h5 => by omega) (fun h5 => by omega) (fun h5 => ?_) (fun h5 => ?_)
                · exact v_iretI dX11_rule_99 rfl (o4 (by omega))
                · exact v_iretI dX11_rule_99 rfl (o5 (by omega))
              · skip
                refine v_bipush 86 dX11_rule_84 rfl ⟨by decide +kernel, by decide⟩ ?_
                refine v_iretI dX11_rule_86 rfl ?_
                first | exact o1 (by omega) | exact o2 (by omega) | exact o3 (by omega)
            · skip
              refine v_if_ne 72 70 dX11_rule_67 rfl rfl (fun h => absurd h (by decide)) (fun _ => ?_)
              refine v_iconst 71 dX11_rule_70 rfl ⟨by decide +kernel, by decide⟩ ?_
              refine v_iretI dX11_rule_71 rfl ?_
              first | exact o1 (by omega) | exact o2 (by omega) | exact o3 (by omega)
          · skip
            refine v_if_ne 58 56 dX11_rule_53 rfl rfl (fun h => absurd h (by decide)) (fun _ => ?_)
            refine v_iconst 57 dX11_rule_56 rfl ⟨by decide +kernel, by decide⟩ ?_
            refine v_iretI dX11_rule_57 rfl ?_
            first | exact o1 (by omega) | exact o2 (by omega) | exact o3 (by omega)
        · skip
          refine v_if_eq 56 45 dX11_rule_42 rfl rfl (fun _ => ?_) (fun h => absurd (by decide) h)
          refine v_iconst 57 dX11_rule_56 rfl ⟨by decide +kernel, by decide⟩ ?_
          refine v_iretI dX11_rule_57 rfl ?_
          first | exact o1 (by omega) | exact o2 (by omega) | exact o3 (by omega)
    · skip
      refine v_iload3 18 dX11_rule_17 rfl ?_
      refine v_iconst 19 dX11_rule_18 rfl ⟨by decide +kernel, by decide⟩ ?_
      refine v_iconst 20 dX11_rule_19 rfl ⟨by decide +kernel, by decide⟩ ?_
      refine v_csI3 mX11_within 23 dX11_rule_20 rfl kX11_93 (by omega) (Nat.le_of_ble_eq_true rfl) ?_
      refine X11_within (fun h20 => ?_) (fun h20 => ?_)
      · skip
        refine v_if_ne 29 26 dX11_rule_23 rfl rfl (fun _ => ?_) (fun h => absurd (by decide) h)
        refine v_iload1 30 dX11_rule_29 rfl ?_
        refine v_iconst 31 dX11_rule_30 rfl ⟨by decide +kernel, by decide⟩ ?_
        refine v_icmp_eq 58 34 dX11_rule_31 rfl rfl (fun h31 => ?_) (fun h31 => ?_)
        · skip
          refine v_aload0 59 dX11_rule_58 rfl ?_
          refine v_getR 62 dX11_rule_59 rfl fX11_19 rfl rfl ?_
          refine v_iload4 64 dX11_rule_62 rfl ?_
          refine v_cvI1 mX8_hasFact 67 dX11_rule_64 rfl kX11_137 rfl rfl (by omega) (Nat.le_of_ble_eq_true rfl) ?_
          refine X8_hasFact (fun h64 => ?_) (fun h64 => ?_)
          · skip
            refine v_if_ne 72 70 dX11_rule_67 rfl rfl (fun _ => ?_) (fun h => absurd (by decide) h)
            refine v_aload0 73 dX11_rule_72 rfl ?_
            refine v_getR 76 dX11_rule_73 rfl fX11_19 rfl rfl ?_
            refine v_getIe 79 2 (R) dX11_rule_76 rfl fX11_143 rfl rfl rfl (hR) ?_
            refine v_bipush 81 dX11_rule_79 rfl ⟨by decide +kernel, by decide⟩ ?_
            refine v_icmp_lt 87 84 dX11_rule_81 rfl rfl (fun h81 => ?_) (fun h81 => ?_)
            · skip
              refine v_aload0 88 dX11_rule_87 rfl ?_
              refine v_getR 91 dX11_rule_88 rfl fX11_19 rfl rfl ?_
              refine v_iload1 92 dX11_rule_91 rfl ?_
              refine v_iload2 93 dX11_rule_92 rfl ?_
              refine v_iload3 94 dX11_rule_93 rfl ?_
              refine v_iload4 96 dX11_rule_94 rfl ?_
              refine v_cvI4 mX8_add 99 dX11_rule_96 rfl kX11_144 rfl rfl (by omega) (Nat.le_of_ble_eq_true rfl) ?_
              refine X8_add hR (by omega) (by omega) (fun h5 => by omega) (fun h5 => by omega) (fun h5 => ?_) (fun h5 => ?_)
              · exact v_iretI dX11_rule_99 rfl (o4 (by omega))
              · exact v_iretI dX11_rule_99 rfl (o5 (by omega))
            · skip
              refine v_bipush 86 dX11_rule_84 rfl ⟨by decide +kernel, by decide⟩ ?_
              refine v_iretI dX11_rule_86 rfl ?_
              first | exact o1 (by omega) | exact o2 (by omega) | exact o3 (by omega)
          · skip
            refine v_if_ne 72 70 dX11_rule_67 rfl rfl (fun h => absurd h (by decide)) (fun _ => ?_)
            refine v_iconst 71 dX11_rule_70 rfl ⟨by decide +kernel, by decide⟩ ?_
            refine v_iretI dX11_rule_71 rfl ?_
            first | exact o1 (by omega) | exact o2 (by omega) | exact o3 (by omega)
        · skip
          refine v_aload0 35 dX11_rule_34 rfl ?_
          refine v_getR 38 dX11_rule_35 rfl fX11_12 rfl rfl ?_
          refine v_iload2 39 dX11_rule_38 rfl ?_
          refine v_cvI1 mX3_has 42 dX11_rule_39 rfl kX11_106 rfl rfl (by omega) (Nat.le_of_ble_eq_true rfl) ?_
          refine X3_has (fun h39 => ?_) (fun h39 => ?_)
          · skip
            refine v_if_eq 56 45 dX11_rule_42 rfl rfl (fun h => absurd h (by decide)) (fun _ => ?_)
            refine v_aload0 46 dX11_rule_45 rfl ?_
            refine v_getR 49 dX11_rule_46 rfl fX11_12 rfl rfl ?_
            refine v_iload3 50 dX11_rule_49 rfl ?_
            refine v_cvI1 mX3_has 53 dX11_rule_50 rfl kX11_106 rfl rfl (by omega) (Nat.le_of_ble_eq_true rfl) ?_
            refine X3_has (fun h50 => ?_) (fun h50 => ?_)
            · skip
              refine v_if_ne 58 56 dX11_rule_53 rfl rfl (fun _ => ?_) (fun h => absurd (by decide) h)
              refine v_aload0 59 dX11_rule_58 rfl ?_
              refine v_getR 62 dX11_rule_59 rfl fX11_19 rfl rfl ?_
              refine v_iload4 64 dX11_rule_62 rfl ?_
              refine v_cvI1 mX8_hasFact 67 dX11_rule_64 rfl kX11_137 rfl rfl (by omega) (Nat.le_of_ble_eq_true rfl) ?_
              refine X8_hasFact (fun h64 => ?_) (fun h64 => ?_)
              · skip
                refine v_if_ne 72 70 dX11_rule_67 rfl rfl (fun _ => ?_) (fun h => absurd (by decide) h)
                refine v_aload0 73 dX11_rule_72 rfl ?_
                refine v_getR 76 dX11_rule_73 rfl fX11_19 rfl rfl ?_
                refine v_getIe 79 2 (R) dX11_rule_76 rfl fX11_143 rfl rfl rfl (hR) ?_
                refine v_bipush 81 dX11_rule_79 rfl ⟨by decide +kernel, by decide⟩ ?_
                refine v_icmp_lt 87 84 dX11_rule_81 rfl rfl (fun h81 => ?_) (fun h81 => ?_)
                · skip
                  refine v_aload0 88 dX11_rule_87 rfl ?_
                  refine v_getR 91 dX11_rule_88 rfl fX11_19 rfl rfl ?_
                  refine v_iload1 92 dX11_rule_91 rfl ?_
                  refine v_iload2 93 dX11_rule_92 rfl ?_
                  refine v_iload3 94 dX11_rule_93 rfl ?_
                  refine v_iload4 96 dX11_rule_94 rfl ?_
                  refine v_cvI4 mX8_add 99 dX11_rule_96 rfl kX11_144 rfl rfl (by omega) (Nat.le_of_ble_eq_true rfl) ?_
                  refine X8_add hR (by omega) (by omega) (fun h5 => by omega) (fun h5 => by omega) (fun h5 => ?_) (fun h5 => ?_)
                  · exact v_iretI dX11_rule_99 rfl (o4 (by omega))
                  · exact v_iretI dX11_rule_99 rfl (o5 (by omega))
                · skip
                  refine v_bipush 86 dX11_rule_84 rfl ⟨by decide +kernel, by decide⟩ ?_
                  refine v_iretI dX11_rule_86 rfl ?_
                  first | exact o1 (by omega) | exact o2 (by omega) | exact o3 (by omega)
              · skip
                refine v_if_ne 72 70 dX11_rule_67 rfl rfl (fun h => absurd h (by decide)) (fun _ => ?_)
                refine v_iconst 71 dX11_rule_70 rfl ⟨by decide +kernel, by decide⟩ ?_
                refine v_iretI dX11_rule_71 rfl ?_
                first | exact o1 (by omega) | exact o2 (by omega) | exact o3 (by omega)
            · skip
              refine v_if_ne 58 56 dX11_rule_53 rfl rfl (fun h => absurd h (by decide)) (fun _ => ?_)
              refine v_iconst 57 dX11_rule_56 rfl ⟨by decide +kernel, by decide⟩ ?_
              refine v_iretI dX11_rule_57 rfl ?_
              first | exact o1 (by omega) | exact o2 (by omega) | exact o3 (by omega)
          · skip
            refine v_if_eq 56 45 dX11_rule_42 rfl rfl (fun _ => ?_) (fun h => absurd (by decide) h)
            refine v_iconst 57 dX11_rule_56 rfl ⟨by decide +kernel, by decide⟩ ?_
            refine v_iretI dX11_rule_57 rfl ?_
            first | exact o1 (by omega) | exact o2 (by omega) | exact o3 (by omega)
      · skip
        refine v_if_ne 29 26 dX11_rule_23 rfl rfl (fun h => absurd h (by decide)) (fun _ => ?_)
        refine v_bipush 28 dX11_rule_26 rfl ⟨by decide +kernel, by decide⟩ ?_
        refine v_iretI dX11_rule_28 rfl ?_
        first | exact o1 (by omega) | exact o2 (by omega) | exact o3 (by omega)
  · skip
    refine v_if_ne 12 9 dX11_rule_6 rfl rfl (fun h => absurd h (by decide)) (fun _ => ?_)
    refine v_bipush 11 dX11_rule_9 rfl ⟨by decide +kernel, by decide⟩ ?_
    refine v_iretI dX11_rule_11 rfl ?_
    first | exact o1 (by omega) | exact o2 (by omega) | exact o3 (by omega)
set_option maxRecDepth 100000 in
set_option maxHeartbeats 4000000 in
theorem X11_first {d : Nat} {v : Int} {σ : Mem} {K : Int → Mem → Prop} (hd : 2 ≤ d) (hb : σ 0 11 = 0 ∨ σ 0 11 = 1) (o1 : v < 0 ∨ 1 < v → K (-2) σ) (o2 : 0 ≤ v ∧ v ≤ 1 → K (σ 0 11) (wr σ 0 11 v)) : Run mX11_first d [.inr (some 0), .inl v] σ (RI K) := by
  refine Run_of (ls := [.inr (some 0), .inl v, .inr none]) (by decide) (Nat.le_of_ble_eq_true rfl) rfl ?_
  refine v_iload1 1 dX11_first_0 rfl ?_
  refine v_iconst 2 dX11_first_1 rfl ⟨by decide +kernel, by decide⟩ ?_
  refine v_iconst 3 dX11_first_2 rfl ⟨by decide +kernel, by decide⟩ ?_
  refine v_csI3 mX11_within 6 dX11_first_3 rfl kX11_93 (by omega) (Nat.le_of_ble_eq_true rfl) ?_
  refine X11_within (fun h3 => ?_) (fun h3 => ?_)
  · skip
    refine v_if_ne 12 9 dX11_first_6 rfl rfl (fun _ => ?_) (fun h => absurd (by decide) h)
    refine v_aload0 13 dX11_first_12 rfl ?_
    refine v_getI 16 11 dX11_first_13 rfl fX11_89 rfl rfl rfl ?_
    refine v_if_eq 23 19 dX11_first_16 rfl rfl (fun h16 => ?_) (fun h16 => ?_)
    · skip
      refine v_iconst 24 dX11_first_23 rfl ⟨by decide +kernel, by decide⟩ ?_
      refine v_istore2 25 dX11_first_24 rfl (by decide) ?_
      refine v_aload0 26 dX11_first_25 rfl ?_
      refine v_iload1 27 dX11_first_26 rfl ?_
      refine v_iconst 28 dX11_first_27 rfl ⟨by decide +kernel, by decide⟩ ?_
      refine v_icmp_ne 35 31 dX11_first_28 rfl rfl (fun h28 => ?_) (fun h28 => ?_)
      · skip
        refine v_iconst 36 dX11_first_35 rfl ⟨by decide +kernel, by decide⟩ ?_
        refine v_putZ 39 11 dX11_first_36 rfl pX11_89 rfl rfl rfl (Or.inl rfl) ?_
        refine v_iload2 40 dX11_first_39 rfl ?_
        refine v_iretI dX11_first_40 rfl ?_
        first
          | exact o1 (by omega)
          | (refine Eq.mp ?_ (o2 (by omega))
             congr 1 <;> (try congr 1) <;> omega)
      · skip
        refine v_iconst 32 dX11_first_31 rfl ⟨by decide +kernel, by decide⟩ ?_
        refine v_goto 36 dX11_first_32 rfl ?_
        refine v_putZ 39 11 dX11_first_36 rfl pX11_89 rfl rfl rfl (Or.inr rfl) ?_
        refine v_iload2 40 dX11_first_39 rfl ?_
        refine v_iretI dX11_first_40 rfl ?_
        first
          | exact o1 (by omega)
          | (refine Eq.mp ?_ (o2 (by omega))
             congr 1 <;> (try congr 1) <;> omega)
    · skip
      refine v_iconst 20 dX11_first_19 rfl ⟨by decide +kernel, by decide⟩ ?_
      refine v_goto 24 dX11_first_20 rfl ?_
      refine v_istore2 25 dX11_first_24 rfl (by decide) ?_
      refine v_aload0 26 dX11_first_25 rfl ?_
      refine v_iload1 27 dX11_first_26 rfl ?_
      refine v_iconst 28 dX11_first_27 rfl ⟨by decide +kernel, by decide⟩ ?_
      refine v_icmp_ne 35 31 dX11_first_28 rfl rfl (fun h28 => ?_) (fun h28 => ?_)
      · skip
        refine v_iconst 36 dX11_first_35 rfl ⟨by decide +kernel, by decide⟩ ?_
        refine v_putZ 39 11 dX11_first_36 rfl pX11_89 rfl rfl rfl (Or.inl rfl) ?_
        refine v_iload2 40 dX11_first_39 rfl ?_
        refine v_iretI dX11_first_40 rfl ?_
        first
          | exact o1 (by omega)
          | (refine Eq.mp ?_ (o2 (by omega))
             congr 1 <;> (try congr 1) <;> omega)
      · skip
        refine v_iconst 32 dX11_first_31 rfl ⟨by decide +kernel, by decide⟩ ?_
        refine v_goto 36 dX11_first_32 rfl ?_
        refine v_putZ 39 11 dX11_first_36 rfl pX11_89 rfl rfl rfl (Or.inr rfl) ?_
        refine v_iload2 40 dX11_first_39 rfl ?_
        refine v_iretI dX11_first_40 rfl ?_
        first
          | exact o1 (by omega)
          | (refine Eq.mp ?_ (o2 (by omega))
             congr 1 <;> (try congr 1) <;> omega)
  · skip
    refine v_if_ne 12 9 dX11_first_6 rfl rfl (fun h => absurd h (by decide)) (fun _ => ?_)
    refine v_bipush 11 dX11_first_9 rfl ⟨by decide +kernel, by decide⟩ ?_
    refine v_iretI dX11_first_11 rfl ?_
    first
      | exact o1 (by omega)
      | (refine Eq.mp ?_ (o2 (by omega))
         congr 1 <;> (try congr 1) <;> omega)
set_option maxRecDepth 100000 in
set_option maxHeartbeats 4000000 in
theorem X11_put {d : Nat} {n : Nat} {k v : Int} {σ : Mem} {K : Int → Mem → Prop} (hn : σ 1 0 = n) (hn6 : n ≤ 6) (hd : 2 ≤ d) (o1 : k < 0 ∨ (n : Int) ≤ k → K (-1) σ) (o2 : (0 ≤ k ∧ k < n) ∧ (v < σ 12 k ∨ σ 13 k < v) → K (-2) σ) (o3 : (0 ≤ k ∧ k < n) ∧ (σ 12 k ≤ v ∧ v ≤ σ 13 k) → K (σ 11 k) (wr σ 11 k v)) : Run mX11_put d [.inr (some 0), .inl k, .inl v] σ (RI K) := by
  refine Run_of (ls := [.inr (some 0), .inl k, .inl v, .inr none]) (by decide) (Nat.le_of_ble_eq_true rfl) rfl ?_
  refine v_aload0 1 dX11_put_0 rfl ?_
  refine v_getR 4 dX11_put_1 rfl fX11_12 rfl rfl ?_
  refine v_iload1 5 dX11_put_4 rfl ?_
  refine v_cvI1 mX3_has 8 dX11_put_5 rfl kX11_106 rfl rfl (by omega) (Nat.le_of_ble_eq_true rfl) ?_
  refine X3_has (fun h5 => ?_) (fun h5 => ?_)
  · skip
    refine v_if_ne 13 11 dX11_put_8 rfl rfl (fun _ => ?_) (fun h => absurd (by decide) h)
    refine v_aload0 14 dX11_put_13 rfl ?_
    refine v_getR 17 dX11_put_14 rfl fX11_12 rfl rfl ?_
    refine v_iload1 18 dX11_put_17 rfl ?_
    refine v_iload2 19 dX11_put_18 rfl ?_
    refine v_cvI2 mX3_mayHave 22 dX11_put_19 rfl kX11_120 rfl rfl (by omega) (Nat.le_of_ble_eq_true rfl) ?_
    refine X3_mayHave (by omega) (fun h19 => ?_) (fun h19 => ?_)
    · skip
      refine v_if_ne 28 25 dX11_put_22 rfl rfl (fun _ => ?_) (fun h => absurd (by decide) h)
      refine v_aload0 29 dX11_put_28 rfl ?_
      refine v_getR 32 dX11_put_29 rfl fX11_85 rfl rfl ?_
      refine v_iload1 33 dX11_put_32 rfl ?_
      refine v_iald 34 dX11_put_33 rfl rfl (⟨by omega, by omega⟩) ?_
      refine v_istore3 35 dX11_put_34 rfl (by decide) ?_
      refine v_aload0 36 dX11_put_35 rfl ?_
      refine v_getR 39 dX11_put_36 rfl fX11_85 rfl rfl ?_
      refine v_iload1 40 dX11_put_39 rfl ?_
      refine v_iload2 41 dX11_put_40 rfl ?_
      refine v_iast 42 dX11_put_41 rfl rfl (⟨by omega, by omega⟩) ?_
      refine v_iload3 43 dX11_put_42 rfl ?_
      refine v_iretI dX11_put_43 rfl ?_
      first | exact o1 (by omega) | exact o2 (by omega) | exact o3 (by omega)
    · skip
      refine v_if_ne 28 25 dX11_put_22 rfl rfl (fun h => absurd h (by decide)) (fun _ => ?_)
      refine v_bipush 27 dX11_put_25 rfl ⟨by decide +kernel, by decide⟩ ?_
      refine v_iretI dX11_put_27 rfl ?_
      first | exact o1 (by omega) | exact o2 (by omega) | exact o3 (by omega)
  · skip
    refine v_if_ne 13 11 dX11_put_8 rfl rfl (fun h => absurd h (by decide)) (fun _ => ?_)
    refine v_iconst 12 dX11_put_11 rfl ⟨by decide +kernel, by decide⟩ ?_
    refine v_iretI dX11_put_12 rfl ?_
    first | exact o1 (by omega) | exact o2 (by omega) | exact o3 (by omega)
set_option maxRecDepth 100000 in
set_option maxHeartbeats 4000000 in
theorem X11_value {d : Nat} {n : Nat} {k : Int} {σ : Mem} {K : Int → Mem → Prop} (hn : σ 1 0 = n) (hn6 : n ≤ 6) (hd : 2 ≤ d) (o1 : k < 0 ∨ (n : Int) ≤ k → K (-1) σ) (o2 : (0 ≤ k ∧ k < n) → K (σ 11 k) σ) : Run mX11_value d [.inr (some 0), .inl k] σ (RI K) := by
  refine Run_of (ls := [.inr (some 0), .inl k]) (by decide) (Nat.le_of_ble_eq_true rfl) rfl ?_
  refine v_aload0 1 dX11_value_0 rfl ?_
  refine v_getR 4 dX11_value_1 rfl fX11_12 rfl rfl ?_
  refine v_iload1 5 dX11_value_4 rfl ?_
  refine v_cvI1 mX3_has 8 dX11_value_5 rfl kX11_106 rfl rfl (by omega) (Nat.le_of_ble_eq_true rfl) ?_
  refine X3_has (fun h5 => ?_) (fun h5 => ?_)
  · skip
    refine v_if_eq 20 11 dX11_value_8 rfl rfl (fun h => absurd h (by decide)) (fun _ => ?_)
    refine v_aload0 12 dX11_value_11 rfl ?_
    refine v_getR 15 dX11_value_12 rfl fX11_85 rfl rfl ?_
    refine v_iload1 16 dX11_value_15 rfl ?_
    refine v_iald 17 dX11_value_16 rfl rfl (⟨by omega, by omega⟩) ?_
    refine v_goto 21 dX11_value_17 rfl ?_
    refine v_iretI dX11_value_21 rfl ?_
    first | exact o1 (by omega) | exact o2 (by omega)
  · skip
    refine v_if_eq 20 11 dX11_value_8 rfl rfl (fun _ => ?_) (fun h => absurd (by decide) h)
    refine v_iconst 21 dX11_value_20 rfl ⟨by decide +kernel, by decide⟩ ?_
    refine v_iretI dX11_value_21 rfl ?_
    first | exact o1 (by omega) | exact o2 (by omega)
set_option maxRecDepth 100000 in
set_option maxHeartbeats 4000000 in
theorem X11_base {d : Nat} {kp : Nat} {k : Int} {σ : Mem} {K : Int → Mem → Prop} (hd : 2 ≤ d) (hkp : σ 3 0 = kp) (hkp3 : kp ≤ 3) (o1 : k < 0 ∨ (kp : Int) ≤ k → K (-1) σ) (o2 : (0 ≤ k ∧ k < kp) → K (σ 3 1) (wr σ 3 1 k)) : Run mX11_base d [.inr (some 0), .inl k] σ (RI K) := by
  refine Run_of (ls := [.inr (some 0), .inl k, .inr none]) (by decide) (Nat.le_of_ble_eq_true rfl) rfl ?_
  refine v_aload0 1 dX11_base_0 rfl ?_
  refine v_getR 4 dX11_base_1 rfl fX11_26 rfl rfl ?_
  refine v_iload1 5 dX11_base_4 rfl ?_
  refine v_cvI1 mX5_has 8 dX11_base_5 rfl kX11_150 rfl rfl (by omega) (Nat.le_of_ble_eq_true rfl) ?_
  refine X5_has (fun h5 => ?_) (fun h5 => ?_)
  · skip
    refine v_if_ne 13 11 dX11_base_8 rfl rfl (fun _ => ?_) (fun h => absurd (by decide) h)
    refine v_aload0 14 dX11_base_13 rfl ?_
    refine v_getR 17 dX11_base_14 rfl fX11_26 rfl rfl ?_
    refine v_getI 20 1 dX11_base_17 rfl fX11_151 rfl rfl rfl ?_
    refine v_istore2 21 dX11_base_20 rfl (by decide) ?_
    refine v_aload0 22 dX11_base_21 rfl ?_
    refine v_getR 25 dX11_base_22 rfl fX11_26 rfl rfl ?_
    refine v_iload1 26 dX11_base_25 rfl ?_
    refine v_putI 29 1 dX11_base_26 rfl pX11_151 rfl rfl rfl ?_
    refine v_iload2 30 dX11_base_29 rfl ?_
    refine v_iretI dX11_base_30 rfl ?_
    first | exact o1 (by omega) | exact o2 (by omega)
  · skip
    refine v_if_ne 13 11 dX11_base_8 rfl rfl (fun h => absurd h (by decide)) (fun _ => ?_)
    refine v_iconst 12 dX11_base_11 rfl ⟨by decide +kernel, by decide⟩ ?_
    refine v_iretI dX11_base_12 rfl ?_
    first | exact o1 (by omega) | exact o2 (by omega)
set_option maxRecDepth 100000 in
set_option maxHeartbeats 4000000 in
theorem X11_old {d : Nat} {n kp : Nat} {k j : Int} {σ : Mem} {K : Int → Mem → Prop} (hn : σ 1 0 = n) (hn6 : n ≤ 6) (hd : 2 ≤ d) (hkp : σ 3 0 = kp) (hkp3 : kp ≤ 3) (o1 : k < 0 ∨ (kp : Int) ≤ k ∨ j < 0 ∨ (n : Int) ≤ j → K (-1) σ) (o2 : 0 ≤ k ∧ k < kp ∧ 0 ≤ j ∧ j < n → K (σ (34 + k.toNat) j) σ) : Run mX11_old d [.inr (some 0), .inl k, .inl j] σ (RI K) := by
  refine Run_of (ls := [.inr (some 0), .inl k, .inl j]) (by decide) (Nat.le_of_ble_eq_true rfl) rfl ?_
  refine v_aload0 1 dX11_old_0 rfl ?_
  refine v_getR 4 dX11_old_1 rfl fX11_26 rfl rfl ?_
  refine v_iload1 5 dX11_old_4 rfl ?_
  refine v_cvI1 mX5_has 8 dX11_old_5 rfl kX11_150 rfl rfl (by omega) (Nat.le_of_ble_eq_true rfl) ?_
  refine X5_has (fun h5 => ?_) (fun h5 => ?_)
  · skip
    refine v_if_eq 22 11 dX11_old_8 rfl rfl (fun h => absurd h (by decide)) (fun _ => ?_)
    refine v_aload0 12 dX11_old_11 rfl ?_
    refine v_getR 15 dX11_old_12 rfl fX11_12 rfl rfl ?_
    refine v_iload2 16 dX11_old_15 rfl ?_
    refine v_cvI1 mX3_has 19 dX11_old_16 rfl kX11_106 rfl rfl (by omega) (Nat.le_of_ble_eq_true rfl) ?_
    refine X3_has (fun h16 => ?_) (fun h16 => ?_)
    · skip
      refine v_if_ne 24 22 dX11_old_19 rfl rfl (fun _ => ?_) (fun h => absurd (by decide) h)
      refine v_aload0 25 dX11_old_24 rfl ?_
      refine v_getR 28 dX11_old_25 rfl fX11_26 rfl rfl ?_
      refine v_getR 31 dX11_old_28 rfl fX11_154 rfl rfl ?_
      refine v_iload1 32 dX11_old_31 rfl ?_
      refine v_aald 33 dX11_old_32 rfl rfl (⟨by omega, by omega⟩) ?_
      refine v_iload2 34 dX11_old_33 rfl ?_
      refine v_iald 35 dX11_old_34 rfl (sh34 _ (by omega)) (⟨by omega, by omega⟩) ?_
      refine v_iretI dX11_old_35 rfl ?_
      first | exact o1 (by omega) | exact o2 (by omega)
    · skip
      refine v_if_ne 24 22 dX11_old_19 rfl rfl (fun h => absurd h (by decide)) (fun _ => ?_)
      refine v_iconst 23 dX11_old_22 rfl ⟨by decide +kernel, by decide⟩ ?_
      refine v_iretI dX11_old_23 rfl ?_
      first | exact o1 (by omega) | exact o2 (by omega)
  · skip
    refine v_if_eq 22 11 dX11_old_8 rfl rfl (fun _ => ?_) (fun h => absurd (by decide) h)
    refine v_iconst 23 dX11_old_22 rfl ⟨by decide +kernel, by decide⟩ ?_
    refine v_iretI dX11_old_23 rfl ?_
    first | exact o1 (by omega) | exact o2 (by omega)
set_option maxRecDepth 100000 in
set_option maxHeartbeats 4000000 in
theorem X5_add {d : Nat} {kp : Nat} {σ : Mem} {K : Int → Mem → Prop} (hkp : σ 3 0 = kp) (hkp3 : kp < 3) (hd : 1 ≤ d) (hk0 : K kp (wr (wr (cp (cp σ 11 0 (34 + kp) 0 6) 26 0 (38 + kp) 0 6) 3 1 kp) 3 0 (kp + 1))) : Run mX5_add d [.inr (some 3), .inr (some 11), .inr (some 26)] σ (RI K) := by
  refine Run_of (ls := [.inr (some 3), .inr (some 11), .inr (some 26)]) (by decide) (Nat.le_of_ble_eq_true rfl) rfl ?_
  refine v_aload1 1 dX5_add_0 rfl ?_
  refine v_iconst 2 dX5_add_1 rfl ⟨by decide +kernel, by decide⟩ ?_
  refine v_aload0 3 dX5_add_2 rfl ?_
  refine v_getR 6 dX5_add_3 rfl fX5_20 rfl rfl ?_
  refine v_aload0 7 dX5_add_6 rfl ?_
  refine v_getIe 10 0 (kp) dX5_add_7 rfl fX5_9 rfl rfl rfl (hkp) ?_
  refine v_aald 11 dX5_add_10 rfl rfl (⟨by omega, by omega⟩) ?_
  rw [Int.toNat_natCast]
  refine v_iconst 12 dX5_add_11 rfl ⟨by decide +kernel, by decide⟩ ?_
  refine v_bipush 14 dX5_add_12 rfl ⟨by decide +kernel, by decide⟩ ?_
  refine v_copy 17 dX5_add_14 rfl kX5_26 (by omega) rfl (sh34 _ (by omega)) (by omega) ?_
  refine v_aload2 18 dX5_add_17 rfl ?_
  refine v_iconst 19 dX5_add_18 rfl ⟨by decide +kernel, by decide⟩ ?_
  refine v_aload0 20 dX5_add_19 rfl ?_
  refine v_getR 23 dX5_add_20 rfl fX5_23 rfl rfl ?_
  refine v_aload0 24 dX5_add_23 rfl ?_
  refine v_getIe 27 0 (kp) dX5_add_24 rfl fX5_9 rfl rfl rfl (by rw [cp_ne (by omega)]; exact hkp) ?_
  refine v_aald 28 dX5_add_27 rfl rfl (⟨by omega, by omega⟩) ?_
  rw [Int.toNat_natCast]
  refine v_iconst 29 dX5_add_28 rfl ⟨by decide +kernel, by decide⟩ ?_
  refine v_bipush 31 dX5_add_29 rfl ⟨by decide +kernel, by decide⟩ ?_
  refine v_copy 34 dX5_add_31 rfl kX5_26 (by omega) rfl (sh38 _ (by omega)) (by omega) ?_
  refine v_aload0 35 dX5_add_34 rfl ?_
  refine v_aload0 36 dX5_add_35 rfl ?_
  refine v_getIe 39 0 (kp) dX5_add_36 rfl fX5_9 rfl rfl rfl (by rw [cp_ne (by omega), cp_ne (by omega)]; exact hkp) ?_
  refine v_putI 42 1 dX5_add_39 rfl pX5_15 rfl rfl rfl ?_
  refine v_aload0 43 dX5_add_42 rfl ?_
  refine v_dup 44 dX5_add_43 rfl ?_
  refine v_getIe 47 0 (kp) dX5_add_44 rfl fX5_9 rfl rfl rfl (by rw [wr_at, if_neg (by decide), cp_ne (by omega), cp_ne (by omega)]; exact hkp) ?_
  refine v_iconst 48 dX5_add_47 rfl ⟨by decide +kernel, by decide⟩ ?_
  refine v_iadd 49 dX5_add_48 rfl (⟨by omega, by omega⟩) ?_
  refine v_putI 52 0 dX5_add_49 rfl pX5_9 rfl rfl rfl ?_
  refine v_aload0 53 dX5_add_52 rfl ?_
  refine v_getIe 56 1 (kp) dX5_add_53 rfl fX5_15 rfl rfl rfl (by simp [wr]) ?_
  refine v_iretI dX5_add_56 rfl ?_
  exact hk0
set_option maxRecDepth 100000 in
set_option maxHeartbeats 4000000 in
theorem X11_keep {d : Nat} {n kp : Nat} {σ : Mem} {K : Int → Mem → Prop} (hn : σ 1 0 = n) (hkp : σ 3 0 = kp) (hkp3 : kp ≤ 3) (hd : 2 ≤ d) (o1 : n = 0 → K (-3) σ) (o2 : n ≠ 0 ∧ kp = 3 → K (-4) σ) (o3 : n ≠ 0 ∧ kp < 3 → K kp (wr (wr (cp (cp σ 11 0 (34 + kp) 0 6) 26 0 (38 + kp) 0 6) 3 1 kp) 3 0 (kp + 1))) : Run mX11_keep d [.inr (some 0)] σ (RI K) := by
  refine Run_of (ls := [.inr (some 0)]) (by decide) (Nat.le_of_ble_eq_true rfl) rfl ?_
  refine v_aload0 1 dX11_keep_0 rfl ?_
  refine v_getR 4 dX11_keep_1 rfl fX11_12 rfl rfl ?_
  refine v_getIe 7 0 (n) dX11_keep_4 rfl fX11_101 rfl rfl rfl (hn) ?_
  refine v_if_ne 13 10 dX11_keep_7 rfl rfl (fun h7 => ?_) (fun h7 => ?_)
  · skip
    refine v_aload0 14 dX11_keep_13 rfl ?_
    refine v_getR 17 dX11_keep_14 rfl fX11_26 rfl rfl ?_
    refine v_getIe 20 0 (kp) dX11_keep_17 rfl fX11_97 rfl rfl rfl (hkp) ?_
    refine v_iconst 21 dX11_keep_20 rfl ⟨by decide +kernel, by decide⟩ ?_
    refine v_icmp_lt 27 24 dX11_keep_21 rfl rfl (fun h21 => ?_) (fun h21 => ?_)
    · skip
      refine v_aload0 28 dX11_keep_27 rfl ?_
      refine v_getR 31 dX11_keep_28 rfl fX11_26 rfl rfl ?_
      refine v_aload0 32 dX11_keep_31 rfl ?_
      refine v_getR 35 dX11_keep_32 rfl fX11_85 rfl rfl ?_
      refine v_aload0 36 dX11_keep_35 rfl ?_
      refine v_getR 39 dX11_keep_36 rfl fX11_19 rfl rfl ?_
      refine v_getR 42 dX11_keep_39 rfl fX11_140 rfl rfl ?_
      refine v_cvI2 mX5_add 45 dX11_keep_42 rfl kX11_147 rfl rfl (by omega) (Nat.le_of_ble_eq_true rfl) ?_
      refine X5_add hkp (by omega) (by omega) ?_
      refine v_iretI dX11_keep_45 rfl ?_
      first | exact o1 (by omega) | exact o2 (by omega) | exact o3 (by omega)
    · skip
      refine v_bipush 26 dX11_keep_24 rfl ⟨by decide +kernel, by decide⟩ ?_
      refine v_iretI dX11_keep_26 rfl ?_
      first | exact o1 (by omega) | exact o2 (by omega) | exact o3 (by omega)
  · skip
    refine v_bipush 12 dX11_keep_10 rfl ⟨by decide +kernel, by decide⟩ ?_
    refine v_iretI dX11_keep_12 rfl ?_
    first | exact o1 (by omega) | exact o2 (by omega) | exact o3 (by omega)
set_option maxRecDepth 100000 in
set_option maxHeartbeats 4000000 in
def cu1 (σ : Mem) : Int := if σ 4 0 = 8 then 7 else σ 4 0
def cum (σ : Mem) (j : Int) : Int := if σ 4 0 = 8 ∧ 0 ≤ j ∧ j < 7 then σ 50 (j + 1) else σ 50 j
def cuv (σ : Mem) (i : Nat) (q : Int) : Int := if σ 4 0 = 8 ∧ i < 7 then σ (43 + i) q else σ (42 + i) q
def PushP (σ υ : Mem) (sz : Int) : Prop := (∀ c, c ≠ 4 → (c < 42 ∨ 50 < c) → υ c = σ c) ∧ υ 4 0 = cu1 σ + 1 ∧ (∀ j : Int, υ 50 j = if j = cu1 σ then sz else cum σ j) ∧ ∀ (i : Nat) (q : Int), i < 8 → 0 ≤ q → q < 6 → υ (42 + i) q = if (i : Int) = cu1 σ then σ 11 q else cuv σ i q
set_option maxRecDepth 100000 in
set_option maxHeartbeats 4000000 in
theorem X6_forgetOldest {d : Nat}  {σ : Mem} {K : Mem → Prop} (hd : 1 ≤ d) (hk0 : ∀ τ : Mem, (∀ c, (c < 42 ∨ 50 < c) → τ c = σ c) → (∀ j : Int, τ 50 j = if 0 ≤ j ∧ j < ((8 : Nat) : Int) - 1 then σ 50 (j + 1) else σ 50 j) → (∀ (r : Nat) (q : Int), r < 8 → 0 ≤ q → q < 6 → τ (42 + r) q = if r + 1 < 8 then σ (43 + r) q else σ (42 + r) q) → K (wr τ 4 0 7)) : Run mX6_forgetOldest d [.inr (some 4)] σ (RV K) := by
  refine Run_of (ls := [.inr (some 4), .inr none]) (by decide) (Nat.le_of_ble_eq_true rfl) rfl ?_
  have L : ∀ (k : Nat) (i : Nat) (τ : Mem), 8 - i < k → 1 ≤ i → i ≤ 8 → (∀ c, (c < 42 ∨ 50 < c) → τ c = σ c) → (∀ j : Int, τ 50 j = if 0 ≤ j ∧ j < (i : Int) - 1 then σ 50 (j + 1) else σ 50 j) → (∀ (r : Nat) (q : Int), r < 8 → 0 ≤ q → q < 6 → τ (42 + r) q = if r + 1 < i then σ (43 + r) q else σ (42 + r) q) → V mX6_forgetOldest d (RV K) 2 [.inr (some 4), .inl (i : Int)] [] τ := by
    intro k
    induction k with
    | zero => intros; omega
    | succ k ih =>
        intro i τ hk hi1 hi8 g1 g2 g3
        refine v_iload1 3 dX6_forgetOldest_2 rfl ?_
        refine v_bipush 5 dX6_forgetOldest_3 rfl ⟨by decide +kernel, by decide⟩ ?_
        refine v_icmp_ge 49 8 dX6_forgetOldest_5 rfl rfl (fun h5 => ?_) (fun h5 => ?_)
        · skip
          refine v_aload0 50 dX6_forgetOldest_49 rfl ?_
          refine v_bipush 52 dX6_forgetOldest_50 rfl ⟨by decide +kernel, by decide⟩ ?_
          refine v_putI 55 0 dX6_forgetOldest_52 rfl pX6_9 rfl rfl rfl ?_
          refine v_vretV dX6_forgetOldest_55 rfl ?_
          obtain rfl : i = 8 := by omega
          exact hk0 τ g1 g2 g3
        · skip
          refine v_aload0 9 dX6_forgetOldest_8 rfl ?_
          refine v_getR 12 dX6_forgetOldest_9 rfl fX6_17 rfl rfl ?_
          refine v_iload1 13 dX6_forgetOldest_12 rfl ?_
          refine v_aald 14 dX6_forgetOldest_13 rfl rfl (⟨by omega, by omega⟩) ?_
          rw [Int.toNat_natCast]
          refine v_iconst 15 dX6_forgetOldest_14 rfl ⟨by decide +kernel, by decide⟩ ?_
          refine v_aload0 16 dX6_forgetOldest_15 rfl ?_
          refine v_getR 19 dX6_forgetOldest_16 rfl fX6_17 rfl rfl ?_
          refine v_iload1 20 dX6_forgetOldest_19 rfl ?_
          refine v_iconst 21 dX6_forgetOldest_20 rfl ⟨by decide +kernel, by decide⟩ ?_
          refine v_isub 22 dX6_forgetOldest_21 rfl (⟨by omega, by omega⟩) ?_
          refine v_aald 23 dX6_forgetOldest_22 rfl rfl (⟨by omega, by omega⟩) ?_
          rw [show ((i : Int) - 1).toNat = i - 1 by omega]
          refine v_iconst 24 dX6_forgetOldest_23 rfl ⟨by decide +kernel, by decide⟩ ?_
          refine v_bipush 26 dX6_forgetOldest_24 rfl ⟨by decide +kernel, by decide⟩ ?_
          refine v_copy 29 dX6_forgetOldest_26 rfl kX6_27 (by omega) (sh42 _ (by omega)) (sh42 _ (by omega)) (by omega) ?_
          refine v_aload0 30 dX6_forgetOldest_29 rfl ?_
          refine v_getR 33 dX6_forgetOldest_30 rfl fX6_20 rfl rfl ?_
          refine v_iload1 34 dX6_forgetOldest_33 rfl ?_
          refine v_iconst 35 dX6_forgetOldest_34 rfl ⟨by decide +kernel, by decide⟩ ?_
          refine v_isub 36 dX6_forgetOldest_35 rfl (⟨by omega, by omega⟩) ?_
          refine v_aload0 37 dX6_forgetOldest_36 rfl ?_
          refine v_getR 40 dX6_forgetOldest_37 rfl fX6_20 rfl rfl ?_
          refine v_iload1 41 dX6_forgetOldest_40 rfl ?_
          refine v_ialde 42 (σ 50 (i : Int)) dX6_forgetOldest_41 rfl rfl (⟨by omega, by omega⟩) (by rw [cp_ne (by omega), g2, if_neg (by omega)]) ?_
          refine v_iast 43 dX6_forgetOldest_42 rfl rfl (⟨by omega, by omega⟩) ?_
          refine v_iinc1 46 dX6_forgetOldest_43 rfl (by decide) rfl (⟨by omega, by omega⟩) ?_
          refine v_goto 2 dX6_forgetOldest_46 rfl ?_
          refine ih (i + 1) _ (by omega) (by omega) (by omega) (fun c a => by rw [wr_ne (by omega), cp_ne (by omega)]; exact g1 c a) (fun j => ?_) (fun r q a b c => ?_)
          · rw [wr_at]
            by_cases ej : j = (i : Int) - 1
            · rw [if_pos ej, if_pos (by omega), ej, show (i : Int) - 1 + 1 = (i : Int) by omega]
            · rw [if_neg ej, cp_ne (by omega), g2]
              by_cases c1 : 0 ≤ j ∧ j < (i : Int) - 1
              · rw [if_pos c1, if_pos (by omega)]
              · rw [if_neg c1, if_neg (by omega)]
          · rw [wr_ne (by omega)]
            by_cases er : r = i - 1
            · subst er
              rw [cp_at, if_pos (by omega), if_pos (by omega), show (0 : Int) + (q - 0) = q by omega, g3 i q (by omega) b c, if_neg (by omega), show 43 + (i - 1) = 42 + i by omega]
            · rw [cp_ne (by omega), g3 r q a b c]
              by_cases c1 : r + 1 < i
              · rw [if_pos c1, if_pos (by omega)]
              · rw [if_neg c1, if_neg (by omega)]
  refine v_iconst 1 dX6_forgetOldest_0 rfl ⟨by decide +kernel, by decide⟩ ?_
  refine v_istore1 2 dX6_forgetOldest_1 rfl (by decide) ?_
  exact L 8 1 σ (by decide) (by decide) (by decide) (fun _ _ => rfl) (fun j => by rw [if_neg (by omega)]) (fun r q a b c => by rw [if_neg (by omega)])
set_option maxRecDepth 100000 in
set_option maxHeartbeats 4000000 in
theorem X6_push {d : Nat} {sz : Int} {σ : Mem} {K : Mem → Prop} (hu : 0 ≤ σ 4 0 ∧ σ 4 0 ≤ 8) (hd : 2 ≤ d) (hk0 : ∀ υ : Mem, PushP σ υ sz → K υ) : Run mX6_push d [.inr (some 4), .inr (some 11), .inl sz] σ (RV K) := by
  refine Run_of (ls := [.inr (some 4), .inr (some 11), .inl sz]) (by decide) (Nat.le_of_ble_eq_true rfl) rfl ?_
  have h13 : ∀ (τ : Mem) (u : Nat), u < 8 → τ 4 0 = u → (∀ υ : Mem, υ = wr (wr (cp τ 11 0 (42 + u) 0 6) 50 u sz) 4 0 (u + 1) → K υ) → V mX6_push d (RV K) 13 [.inr (some 4), .inr (some 11), .inl sz] [] τ := by
    intro τ u hu h4 hk9
    refine v_aload1 14 dX6_push_13 rfl ?_
    refine v_iconst 15 dX6_push_14 rfl ⟨by decide +kernel, by decide⟩ ?_
    refine v_aload0 16 dX6_push_15 rfl ?_
    refine v_getR 19 dX6_push_16 rfl fX6_17 rfl rfl ?_
    refine v_aload0 20 dX6_push_19 rfl ?_
    refine v_getIe 23 0 ((u : Int)) dX6_push_20 rfl fX6_9 rfl rfl rfl (h4) ?_
    refine v_aald 24 dX6_push_23 rfl rfl (⟨by omega, by omega⟩) ?_
    rw [Int.toNat_natCast]
    refine v_iconst 25 dX6_push_24 rfl ⟨by decide +kernel, by decide⟩ ?_
    refine v_bipush 27 dX6_push_25 rfl ⟨by decide +kernel, by decide⟩ ?_
    refine v_copy 30 dX6_push_27 rfl kX6_27 (by omega) rfl (sh42 _ (by omega)) (by omega) ?_
    refine v_aload0 31 dX6_push_30 rfl ?_
    refine v_getR 34 dX6_push_31 rfl fX6_20 rfl rfl ?_
    refine v_aload0 35 dX6_push_34 rfl ?_
    refine v_getIe 38 0 ((u : Int)) dX6_push_35 rfl fX6_9 rfl rfl rfl (by rw [cp_ne (by omega)]; exact h4) ?_
    refine v_iload2 39 dX6_push_38 rfl ?_
    refine v_iast 40 dX6_push_39 rfl rfl (⟨by omega, by omega⟩) ?_
    refine v_aload0 41 dX6_push_40 rfl ?_
    refine v_dup 42 dX6_push_41 rfl ?_
    refine v_getIe 45 0 ((u : Int)) dX6_push_42 rfl fX6_9 rfl rfl rfl (by rw [wr_ne (by decide), cp_ne (by omega)]; exact h4) ?_
    refine v_iconst 46 dX6_push_45 rfl ⟨by decide +kernel, by decide⟩ ?_
    refine v_iadd 47 dX6_push_46 rfl (⟨by omega, by omega⟩) ?_
    refine v_putI 50 0 dX6_push_47 rfl pX6_9 rfl rfl rfl ?_
    refine v_vretV dX6_push_50 rfl ?_
    exact hk9 _ rfl
  refine v_aload0 1 dX6_push_0 rfl ?_
  refine v_getI 4 0 dX6_push_1 rfl fX6_9 rfl rfl rfl ?_
  refine v_bipush 6 dX6_push_4 rfl ⟨by decide +kernel, by decide⟩ ?_
  refine v_icmp_ne 13 9 dX6_push_6 rfl rfl (fun h6 => ?_) (fun h6 => ?_)
  · skip
    first
      | (refine h13 _ 7 (by omega) wr_eq (fun υ e => hk0 υ ?_)
         subst e
         have hc : cu1 σ = ((7 : Nat) : Int) := by unfold cu1; rw [if_pos (by omega)]; rfl
         refine ⟨fun c a b => ?_, ?_, fun j => ?_, fun i q a b c => ?_⟩
         · rw [wr_ne a, wr_ne (by omega), cp_ne (by omega), wr_ne a]; exact t1 c b
         · rw [wr_eq, hc]
         · rw [wr_ne (by decide), wr_at, hc]
           by_cases ej : j = ((7 : Nat) : Int)
           · rw [if_pos ej, if_pos ej]
           · rw [if_neg ej, if_neg ej, cp_ne (by omega), wr_ne (by decide), t2, cum]
             by_cases c1 : 0 ≤ j ∧ j < ((8 : Nat) : Int) - 1
             · rw [if_pos c1, if_pos (by omega)]
             · rw [if_neg c1, if_neg (by omega)]
         · rw [wr_ne (by omega), wr_ne (by omega), hc]
           by_cases ei : (i : Int) = ((7 : Nat) : Int)
           · have e2 : i = 7 := by omega
             subst e2
             rw [if_pos ei, cp_at, if_pos (by omega), wr_ne (by decide), t1 11 (by omega), show (0 : Int) + (q - 0) = q by omega]
           · rw [if_neg ei, cp_ne (by omega), wr_ne (by omega), t3 i q a b c, cuv]
             by_cases c1 : i + 1 < 8
             · rw [if_pos c1, if_pos (by omega)]
             · rw [if_neg c1, if_neg (by omega)])
      | (refine h13 σ (σ 4 0).toNat (by omega) (by omega) (fun υ e => hk0 υ ?_)
         subst e
         have hc : cu1 σ = σ 4 0 := by unfold cu1; rw [if_neg (by omega)]
         have hc2 : ((σ 4 0).toNat : Int) = σ 4 0 := by omega
         refine ⟨fun c a b => ?_, ?_, fun j => ?_, fun i q a b c => ?_⟩
         · rw [wr_ne a, wr_ne (by omega), cp_ne (by omega)]
         · rw [wr_eq, hc, hc2]
         · rw [wr_ne (by decide), wr_at, hc, hc2]
           by_cases ej : j = σ 4 0
           · rw [if_pos ej, if_pos ej]
           · rw [if_neg ej, if_neg ej, cp_ne (by omega), cum, if_neg (by omega)]
         · rw [wr_ne (by omega), wr_ne (by omega), hc]
           by_cases ei : (i : Int) = σ 4 0
           · have e2 : i = (σ 4 0).toNat := by omega
             rw [if_pos ei, e2, cp_at, if_pos (by omega), show (0 : Int) + (q - 0) = q by omega]
           · rw [if_neg ei, cp_ne (by omega), cuv, if_neg (by omega)])
  · skip
    refine v_aload0 10 dX6_push_9 rfl ?_
    refine v_cvV0 mX6_forgetOldest 13 dX6_push_10 rfl kX6_24 rfl rfl (by omega) (Nat.le_of_ble_eq_true rfl) ?_
    refine X6_forgetOldest (by omega) (fun τ t1 t2 t3 => ?_)
    first
      | (refine h13 _ 7 (by omega) wr_eq (fun υ e => hk0 υ ?_)
         subst e
         have hc : cu1 σ = ((7 : Nat) : Int) := by unfold cu1; rw [if_pos (by omega)]; rfl
         refine ⟨fun c a b => ?_, ?_, fun j => ?_, fun i q a b c => ?_⟩
         · rw [wr_ne a, wr_ne (by omega), cp_ne (by omega), wr_ne a]; exact t1 c b
         · rw [wr_eq, hc]
         · rw [wr_ne (by decide), wr_at, hc]
           by_cases ej : j = ((7 : Nat) : Int)
           · rw [if_pos ej, if_pos ej]
           · rw [if_neg ej, if_neg ej, cp_ne (by omega), wr_ne (by decide), t2, cum]
             by_cases c1 : 0 ≤ j ∧ j < ((8 : Nat) : Int) - 1
             · rw [if_pos c1, if_pos (by omega)]
             · rw [if_neg c1, if_neg (by omega)]
         · rw [wr_ne (by omega), wr_ne (by omega), hc]
           by_cases ei : (i : Int) = ((7 : Nat) : Int)
           · have e2 : i = 7 := by omega
             subst e2
             rw [if_pos ei, cp_at, if_pos (by omega), wr_ne (by decide), t1 11 (by omega), show (0 : Int) + (q - 0) = q by omega]
           · rw [if_neg ei, cp_ne (by omega), wr_ne (by omega), t3 i q a b c, cuv]
             by_cases c1 : i + 1 < 8
             · rw [if_pos c1, if_pos (by omega)]
             · rw [if_neg c1, if_neg (by omega)])
      | (refine h13 σ (σ 4 0).toNat (by omega) (by omega) (fun υ e => hk0 υ ?_)
         subst e
         have hc : cu1 σ = σ 4 0 := by unfold cu1; rw [if_neg (by omega)]
         have hc2 : ((σ 4 0).toNat : Int) = σ 4 0 := by omega
         refine ⟨fun c a b => ?_, ?_, fun j => ?_, fun i q a b c => ?_⟩
         · rw [wr_ne a, wr_ne (by omega), cp_ne (by omega)]
         · rw [wr_eq, hc, hc2]
         · rw [wr_ne (by decide), wr_at, hc, hc2]
           by_cases ej : j = σ 4 0
           · rw [if_pos ej, if_pos ej]
           · rw [if_neg ej, if_neg ej, cp_ne (by omega), cum, if_neg (by omega)]
         · rw [wr_ne (by omega), wr_ne (by omega), hc]
           by_cases ei : (i : Int) = σ 4 0
           · have e2 : i = (σ 4 0).toNat := by omega
             rw [if_pos ei, e2, cp_at, if_pos (by omega), show (0 : Int) + (q - 0) = q by omega]
           · rw [if_neg ei, cp_ne (by omega), cuv, if_neg (by omega)])
set_option maxRecDepth 100000 in
set_option maxHeartbeats 4000000 in
theorem X6_pop {d : Nat} {u : Int} {sz : Nat} {σ : Mem} {K : Mem → Prop} (hu : σ 4 0 = u) (hu8 : 1 ≤ u ∧ u ≤ 8) (hs : σ 50 (u - 1) = sz) (hs6 : sz ≤ 6) (hd : 1 ≤ d) (hk0 : K (cp (wr σ 4 0 (u - 1)) (42 + (u - 1).toNat) 0 11 0 sz)) : Run mX6_pop d [.inr (some 4), .inr (some 11)] σ (RV K) := by
  refine Run_of (ls := [.inr (some 4), .inr (some 11)]) (by decide) (Nat.le_of_ble_eq_true rfl) rfl ?_
  refine v_aload0 1 dX6_pop_0 rfl ?_
  refine v_getIe 4 0 (u) dX6_pop_1 rfl fX6_9 rfl rfl rfl (hu) ?_
  refine v_if_ne 8 7 dX6_pop_4 rfl rfl (fun h4 => ?_) (fun h4 => ?_)
  · skip
    refine v_aload0 9 dX6_pop_8 rfl ?_
    refine v_dup 10 dX6_pop_9 rfl ?_
    refine v_getIe 13 0 (u) dX6_pop_10 rfl fX6_9 rfl rfl rfl (hu) ?_
    refine v_iconst 14 dX6_pop_13 rfl ⟨by decide +kernel, by decide⟩ ?_
    refine v_isub 15 dX6_pop_14 rfl (⟨by omega, by omega⟩) ?_
    refine v_putI 18 0 dX6_pop_15 rfl pX6_9 rfl rfl rfl ?_
    refine v_aload0 19 dX6_pop_18 rfl ?_
    refine v_getR 22 dX6_pop_19 rfl fX6_17 rfl rfl ?_
    refine v_aload0 23 dX6_pop_22 rfl ?_
    refine v_getIe 26 0 (u - 1) dX6_pop_23 rfl fX6_9 rfl rfl rfl (wr_eq) ?_
    refine v_aald 27 dX6_pop_26 rfl rfl (⟨by omega, by omega⟩) ?_
    refine v_iconst 28 dX6_pop_27 rfl ⟨by decide +kernel, by decide⟩ ?_
    refine v_aload1 29 dX6_pop_28 rfl ?_
    refine v_iconst 30 dX6_pop_29 rfl ⟨by decide +kernel, by decide⟩ ?_
    refine v_aload0 31 dX6_pop_30 rfl ?_
    refine v_getR 34 dX6_pop_31 rfl fX6_20 rfl rfl ?_
    refine v_aload0 35 dX6_pop_34 rfl ?_
    refine v_getIe 38 0 (u - 1) dX6_pop_35 rfl fX6_9 rfl rfl rfl (wr_eq) ?_
    refine v_ialde 39 ((sz : Int)) dX6_pop_38 rfl rfl (⟨by omega, by omega⟩) (by rw [wr_ne (by decide)]; exact hs) ?_
    refine v_copy 42 dX6_pop_39 rfl kX6_27 (by omega) (sh42 _ (by omega)) rfl (by omega) ?_
    refine v_vretV dX6_pop_42 rfl ?_
    exact hk0
  · skip
    refine v_vretV dX6_pop_7 rfl ?_
    exfalso; omega
set_option maxRecDepth 100000 in
set_option maxHeartbeats 4000000 in
theorem X11_undo {d : Nat} {u : Int} {sz : Nat} {σ : Mem} {K : Int → Mem → Prop} (hu : σ 4 0 = u) (hu8 : 0 ≤ u ∧ u ≤ 8) (hs : u ≠ 0 → σ 50 (u - 1) = sz) (hs6 : sz ≤ 6) (hd : 2 ≤ d) (o1 : u = 0 → K (-3) σ) (o2 : u ≠ 0 → K (u - 1) (cp (wr σ 4 0 (u - 1)) (42 + (u - 1).toNat) 0 11 0 sz)) : Run mX11_undo d [.inr (some 0)] σ (RI K) := by
  refine Run_of (ls := [.inr (some 0)]) (by decide) (Nat.le_of_ble_eq_true rfl) rfl ?_
  refine v_aload0 1 dX11_undo_0 rfl ?_
  refine v_getR 4 dX11_undo_1 rfl fX11_33 rfl rfl ?_
  refine v_getIe 7 0 (u) dX11_undo_4 rfl fX11_187 rfl rfl rfl (hu) ?_
  refine v_if_ne 13 10 dX11_undo_7 rfl rfl (fun h7 => ?_) (fun h7 => ?_)
  · skip
    refine v_aload0 14 dX11_undo_13 rfl ?_
    refine v_getR 17 dX11_undo_14 rfl fX11_33 rfl rfl ?_
    refine v_aload0 18 dX11_undo_17 rfl ?_
    refine v_getR 21 dX11_undo_18 rfl fX11_85 rfl rfl ?_
    refine v_cvV1 mX6_pop 24 dX11_undo_21 rfl kX11_188 rfl rfl (by omega) (Nat.le_of_ble_eq_true rfl) ?_
    refine X6_pop hu (by omega) (hs (by omega)) hs6 (by omega) ?_
    refine v_aload0 25 dX11_undo_24 rfl ?_
    refine v_getR 28 dX11_undo_25 rfl fX11_33 rfl rfl ?_
    refine v_getIe 31 0 (u - 1) dX11_undo_28 rfl fX11_187 rfl rfl rfl (by rw [cp_ne (by decide), wr_eq]) ?_
    refine v_iretI dX11_undo_31 rfl ?_
    first | exact o1 (by omega) | exact o2 (by omega)
  · skip
    refine v_bipush 12 dX11_undo_10 rfl ⟨by decide +kernel, by decide⟩ ?_
    refine v_iretI dX11_undo_12 rfl ?_
    first | exact o1 (by omega) | exact o2 (by omega)
