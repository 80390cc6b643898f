set_option maxRecDepth 100000 in
set_option maxHeartbeats 4000000 in
theorem ccst_bnd {σ : Mem} {n R F : Nat} (hw : CW σ n R F) {p : Int → Int} {k : Int} (hk : 0 ≤ k ∧ k < n) (hp : 0 ≤ p k ∧ p k ≤ 5) : 0 ≤ cst (σ 3 1) (cbv σ) (σ 15) (σ 16) p k ∧ cst (σ 3 1) (cbv σ) (σ 15) (σ 16) p k ≤ 200 := by
  have hd1 := hw.2.2.1 k hk.1 hk.2
  have hcb := hw.2.2.2.2.2.1
  unfold cst
  split
  · rename_i h
    have hmv : σ 3 1 ≠ -5 ∧ p k ≠ cbv σ k := of_decide_eq_true h
    have hb2 := (hcb.resolve_left hmv.1).2.2 k hk.1 hk.2
    have hdb := dist_bnd hp hb2
    have hmb := mul_bnd (a := σ 16 k) (A := 20) ⟨hd1.2.2.2.2.2.2.2.1, hd1.2.2.2.2.2.2.2.2.1⟩ hdb
    omega
  · omega
set_option maxRecDepth 100000 in
set_option maxHeartbeats 4000000 in
theorem X9_costAt {d : Nat} {n R F : Nat} {k v : Int} {σ : Mem} {K : Int → Mem → Prop} (hw : CW σ n R F) (hk : 0 ≤ k ∧ k < n) (hv : 0 ≤ v ∧ v ≤ 5) (hd : 2 ≤ d) (hk0 : K (cst (σ 3 1) (cbv σ) (σ 15) (σ 16) (fun _ => v) k) σ) : Run mX9_costAt d [.inr (some 5), .inl k, .inl v] σ (RI K) := by
  have hw0 := hw
  obtain ⟨⟨hn, hn6, hR, hR12, hF, hF6⟩, hru, hde, hwo, hli, hcb, hwf, hbd, hbc⟩ := hw0
  have hd1 := hde k hk.1 hk.2
  refine Run_of (ls := [.inr (some 5), .inl k, .inl v, .inr none]) (by decide) (Nat.le_of_ble_eq_true rfl) rfl ?_
  refine v_aload0 1 dX9_costAt_0 rfl ?_
  refine v_getR 4 dX9_costAt_1 rfl fX9_15 rfl rfl ?_
  refine v_iload1 5 dX9_costAt_4 rfl ?_
  refine v_iload2 6 dX9_costAt_5 rfl ?_
  refine v_cvI2 mX5_moves 9 dX9_costAt_6 rfl kX9_19 rfl rfl (by omega) (Nat.le_of_ble_eq_true rfl) ?_
  refine X5_moves hcb (by omega) (by omega) (fun h6 => ?_) (fun h6 => ?_)
  · skip
    refine v_if_ne 14 12 dX9_costAt_9 rfl rfl (fun _ => ?_) (fun h => absurd (by decide) h)
    refine v_aload0 15 dX9_costAt_14 rfl ?_
    refine v_getR 18 dX9_costAt_15 rfl fX9_15 rfl rfl ?_
    refine v_iload1 19 dX9_costAt_18 rfl ?_
    refine v_cvI1 mX5_valueThen 22 dX9_costAt_19 rfl kX9_25 rfl rfl (by omega) (Nat.le_of_ble_eq_true rfl) ?_
    refine X5_valueThen hcb (by omega) (by omega) ?_
    have hmv : σ 3 1 ≠ -5 ∧ v ≠ cbv σ k := of_decide_eq_true h6
    rw [if_neg hmv.1]
    have hb2 := (hcb.resolve_left hmv.1).2.2 k hk.1 hk.2
    have hdb := dist_bnd hv hb2
    have hmb := mul_bnd (a := σ 16 k) (A := 20) ⟨hd1.2.2.2.2.2.2.2.1, hd1.2.2.2.2.2.2.2.2.1⟩ hdb
    refine v_iload2 23 dX9_costAt_22 rfl ?_
    refine v_isub 24 dX9_costAt_23 rfl (⟨by omega, by omega⟩) ?_
    refine v_mabs 27 dX9_costAt_24 rfl kX9_29 (by omega) (Nat.le_of_ble_eq_true rfl) (by omega) ?_
    rw [dist_abs, dist_symm (cbv σ k) v]
    refine v_istore3 28 dX9_costAt_27 rfl (by decide) ?_
    refine v_aload0 29 dX9_costAt_28 rfl ?_
    refine v_getR 32 dX9_costAt_29 rfl fX9_9 rfl rfl ?_
    refine v_getR 35 dX9_costAt_32 rfl fX9_34 rfl rfl ?_
    refine v_iload1 36 dX9_costAt_35 rfl ?_
    refine v_iald 37 dX9_costAt_36 rfl rfl (⟨by omega, by omega⟩) ?_
    refine v_aload0 38 dX9_costAt_37 rfl ?_
    refine v_getR 41 dX9_costAt_38 rfl fX9_9 rfl rfl ?_
    refine v_getR 44 dX9_costAt_41 rfl fX9_40 rfl rfl ?_
    refine v_iload1 45 dX9_costAt_44 rfl ?_
    refine v_iald 46 dX9_costAt_45 rfl rfl (⟨by omega, by omega⟩) ?_
    refine v_iload3 47 dX9_costAt_46 rfl ?_
    refine v_imul 48 dX9_costAt_47 rfl (⟨by omega, by omega⟩) ?_
    refine v_iadd 49 dX9_costAt_48 rfl (⟨by omega, by omega⟩) ?_
    refine v_iretI dX9_costAt_49 rfl ?_
    unfold cst at hk0
    rw [if_pos h6] at hk0
    exact hk0
  · skip
    refine v_if_ne 14 12 dX9_costAt_9 rfl rfl (fun h => absurd h (by decide)) (fun _ => ?_)
    refine v_iconst 13 dX9_costAt_12 rfl ⟨by decide +kernel, by decide⟩ ?_
    refine v_iretI dX9_costAt_13 rfl ?_
    unfold cst at hk0
    rw [h6] at hk0
    exact hk0
set_option maxRecDepth 100000 in
set_option maxHeartbeats 4000000 in
theorem X9_costOf {d : Nat} {vp n R F : Nat} {σ : Mem} {K : Int → Mem → Prop} (hw : CW σ n R F) (hvp : shapes[vp]? = some (0, 6, [])) (hp : ∀ i : Int, 0 ≤ i → i < n → 0 ≤ σ vp i ∧ σ vp i ≤ 5) (hd : 3 ≤ d) (hk0 : K (sumI (cst (σ 3 1) (cbv σ) (σ 15) (σ 16) (σ vp)) n) σ) : Run mX9_costOf d [.inr (some 5), .inr (some vp)] σ (RI K) := by
  have hw0 := hw
  obtain ⟨⟨hn, hn6, hR, hR12, hF, hF6⟩, hru, hde, hwo, hli, hcb, hwf, hbd, hbc⟩ := hw0
  refine Run_of (ls := [.inr (some 5), .inr (some vp), .inr none, .inr none]) (by decide) (Nat.le_of_ble_eq_true rfl) rfl ?_
  have L : ∀ (k : Nat) (i : Nat) (acc : Int), n - i < k → i ≤ n → acc = sumI (cst (σ 3 1) (cbv σ) (σ 15) (σ 16) (σ vp)) i → V mX9_costOf d (RI K) 4 [.inr (some 5), .inr (some vp), .inl acc, .inl (i : Int)] [] σ := by
    intro k
    induction k with
    | zero => intros; omega
    | succ k ih =>
        intro i acc hk hi ha
        have hb1 := sumI_bnd (f := cst (σ 3 1) (cbv σ) (σ 15) (σ 16) (σ vp)) (m := 200) (n := i) (fun k hk => ccst_bnd hw (by omega) (hp _ (by omega) (by omega)))
        refine v_iload3 5 dX9_costOf_4 rfl ?_
        refine v_aload0 6 dX9_costOf_5 rfl ?_
        refine v_getR 9 dX9_costOf_6 rfl fX9_9 rfl rfl ?_
        refine v_getIe 12 0 (n) dX9_costOf_9 rfl fX9_43 rfl rfl rfl (hn) ?_
        refine v_icmp_ge 32 15 dX9_costOf_12 rfl rfl (fun h12 => ?_) (fun h12 => ?_)
        · skip
          refine v_iload2 33 dX9_costOf_32 rfl ?_
          refine v_iretI dX9_costOf_33 rfl ?_
          obtain rfl : i = n := by omega
          rw [ha]
          exact hk0
        · skip
          have hp1 := hp (i : Int) (by omega) (by omega)
          have hc1 := ccst_bnd hw (p := σ vp) (k := (i : Int)) (by omega) hp1
          refine v_iload2 16 dX9_costOf_15 rfl ?_
          refine v_aload0 17 dX9_costOf_16 rfl ?_
          refine v_iload3 18 dX9_costOf_17 rfl ?_
          refine v_aload1 19 dX9_costOf_18 rfl ?_
          refine v_iload3 20 dX9_costOf_19 rfl ?_
          refine v_iald 21 dX9_costOf_20 rfl hvp (⟨by omega, by omega⟩) ?_
          refine v_cvI2 mX9_costAt 24 dX9_costOf_21 rfl kX9_47 rfl rfl (by omega) (Nat.le_of_ble_eq_true rfl) ?_
          refine X9_costAt hw (by omega) hp1 (by omega) ?_
          have e9 : cst (σ 3 1) (cbv σ) (σ 15) (σ 16) (fun _ => σ vp (i : Int)) (i : Int) = cst (σ 3 1) (cbv σ) (σ 15) (σ 16) (σ vp) (i : Int) := rfl
          rw [e9]
          refine v_iadd 25 dX9_costOf_24 rfl (⟨by omega, by omega⟩) ?_
          refine v_istore2 26 dX9_costOf_25 rfl (by decide) ?_
          refine v_iinc3 29 dX9_costOf_26 rfl (by decide) rfl (⟨by omega, by omega⟩) ?_
          refine v_goto 4 dX9_costOf_29 rfl ?_
          exact ih (i + 1) _ (by omega) (by omega) (sum_s ha rfl)
  refine v_iconst 1 dX9_costOf_0 rfl ⟨by decide +kernel, by decide⟩ ?_
  refine v_istore2 2 dX9_costOf_1 rfl (by decide) ?_
  refine v_iconst 3 dX9_costOf_2 rfl ⟨by decide +kernel, by decide⟩ ?_
  refine v_istore3 4 dX9_costOf_3 rfl (by decide) ?_
  exact L (n + 1) 0 _ (by omega) (by omega) rfl
set_option maxRecDepth 100000 in
set_option maxHeartbeats 4000000 in
theorem X9_worthAt {d : Nat} {k v : Int} {σ : Mem} {K : Int → Mem → Prop} (hk : 0 ≤ k ∧ k < 6) (hv : 0 ≤ v ∧ v < 6) (hk0 : K (σ (19 + k.toNat) v) σ) : Run mX9_worthAt d [.inr (some 5), .inl k, .inl v] σ (RI K) := by
  refine Run_of (ls := [.inr (some 5), .inl k, .inl v]) (by decide) (Nat.le_of_ble_eq_true rfl) rfl ?_
  refine v_aload0 1 dX9_worthAt_0 rfl ?_
  refine v_getR 4 dX9_worthAt_1 rfl fX9_9 rfl rfl ?_
  refine v_getR 7 dX9_worthAt_4 rfl fX9_51 rfl rfl ?_
  refine v_iload1 8 dX9_worthAt_7 rfl ?_
  refine v_aald 9 dX9_worthAt_8 rfl rfl (⟨by omega, by omega⟩) ?_
  refine v_iload2 10 dX9_worthAt_9 rfl ?_
  refine v_iald 11 dX9_worthAt_10 rfl (sh19 _ (by omega)) (⟨by omega, by omega⟩) ?_
  refine v_iretI dX9_worthAt_11 rfl ?_
  exact hk0
set_option maxRecDepth 100000 in
set_option maxHeartbeats 4000000 in
theorem X9_worthOf {d : Nat} {vp n R F : Nat} {σ : Mem} {K : Int → Mem → Prop} (hw : CW σ n R F) (hvp : shapes[vp]? = some (0, 6, [])) (hp : ∀ i : Int, 0 ≤ i → i < n → 0 ≤ σ vp i ∧ σ vp i ≤ 5) (hd : 3 ≤ d) (hk0 : K (sumI (fun d => σ (19 + d.toNat) (σ vp d)) n) σ) : Run mX9_worthOf d [.inr (some 5), .inr (some vp)] σ (RI K) := by
  have hw0 := hw
  obtain ⟨⟨hn, hn6, hR, hR12, hF, hF6⟩, hru, hde, hwo, hli, hcb, hwf, hbd, hbc⟩ := hw0
  refine Run_of (ls := [.inr (some 5), .inr (some vp), .inr none, .inr none]) (by decide) (Nat.le_of_ble_eq_true rfl) rfl ?_
  have L : ∀ (k : Nat) (i : Nat) (acc : Int), n - i < k → i ≤ n → acc = sumI (fun d => σ (19 + d.toNat) (σ vp d)) i → V mX9_worthOf d (RI K) 4 [.inr (some 5), .inr (some vp), .inl acc, .inl (i : Int)] [] σ := by
    intro k
    induction k with
    | zero => intros; omega
    | succ k ih =>
        intro i acc hk hi ha
        have hb1 := sumI_bnd (f := (fun d => σ (19 + d.toNat) (σ vp d))) (m := 100) (n := i) (fun k hk => hwo _ _ (by omega) (by omega) (hp (k : Int) (by omega) (by omega)).1 (by have := hp (k : Int) (by omega) (by omega); omega))
        refine v_iload3 5 dX9_worthOf_4 rfl ?_
        refine v_aload0 6 dX9_worthOf_5 rfl ?_
        refine v_getR 9 dX9_worthOf_6 rfl fX9_9 rfl rfl ?_
        refine v_getIe 12 0 (n) dX9_worthOf_9 rfl fX9_43 rfl rfl rfl (hn) ?_
        refine v_icmp_ge 32 15 dX9_worthOf_12 rfl rfl (fun h12 => ?_) (fun h12 => ?_)
        · skip
          refine v_iload2 33 dX9_worthOf_32 rfl ?_
          refine v_iretI dX9_worthOf_33 rfl ?_
          obtain rfl : i = n := by omega
          rw [ha]
          exact hk0
        · skip
          have hp1 := hp (i : Int) (by omega) (by omega)
          have hw1 := hwo (i : Int) (σ vp (i : Int)) (by omega) (by omega) (by omega) (by omega)
          refine v_iload2 16 dX9_worthOf_15 rfl ?_
          refine v_aload0 17 dX9_worthOf_16 rfl ?_
          refine v_iload3 18 dX9_worthOf_17 rfl ?_
          refine v_aload1 19 dX9_worthOf_18 rfl ?_
          refine v_iload3 20 dX9_worthOf_19 rfl ?_
          refine v_iald 21 dX9_worthOf_20 rfl hvp (⟨by omega, by omega⟩) ?_
          refine v_cvI2 mX9_worthAt 24 dX9_worthOf_21 rfl kX9_55 rfl rfl (by omega) (Nat.le_of_ble_eq_true rfl) ?_
          refine X9_worthAt (by omega) (by omega) ?_
          refine v_iadd 25 dX9_worthOf_24 rfl (⟨by omega, by omega⟩) ?_
          refine v_istore2 26 dX9_worthOf_25 rfl (by decide) ?_
          refine v_iinc3 29 dX9_worthOf_26 rfl (by decide) rfl (⟨by omega, by omega⟩) ?_
          refine v_goto 4 dX9_worthOf_29 rfl ?_
          exact ih (i + 1) _ (by omega) (by omega) (sum_s ha rfl)
  refine v_iconst 1 dX9_worthOf_0 rfl ⟨by decide +kernel, by decide⟩ ?_
  refine v_istore2 2 dX9_worthOf_1 rfl (by decide) ?_
  refine v_iconst 3 dX9_worthOf_2 rfl ⟨by decide +kernel, by decide⟩ ?_
  refine v_istore3 4 dX9_worthOf_3 rfl (by decide) ?_
  exact L (n + 1) 0 _ (by omega) (by omega) rfl
set_option maxRecDepth 100000 in
set_option maxHeartbeats 4000000 in
theorem X9_mostWorthAt {d : Nat} {n R F : Nat} {q : Int} {σ : Mem} {K : Int → Mem → Prop} (hw : CW σ n R F) (hq : 0 ≤ q ∧ q < n) (hd : 1 ≤ d) (hk0 : ∀ W : Int, 0 ≤ W ∧ W ≤ 100 → (∀ u : Int, σ 12 q ≤ u → u ≤ σ 13 q → (σ 17 q = -5 ∨ σ 17 q = u) → σ (19 + q.toNat) u ≤ W) → K W σ) : Run mX9_mostWorthAt d [.inr (some 5), .inl q] σ (RI K) := by
  have hw0 := hw
  obtain ⟨⟨hn, hn6, hR, hR12, hF, hF6⟩, hru, hde, hwo, hli, hcb, hwf, hbd, hbc⟩ := hw0
  have hd1 := hde q hq.1 hq.2
  refine Run_of (ls := [.inr (some 5), .inl q, .inr none, .inr none]) (by decide) (Nat.le_of_ble_eq_true rfl) rfl ?_
  have L : ∀ (k : Nat) (v acc : Int), (σ 13 q + 1 - v).toNat < k → σ 12 q ≤ v → v ≤ σ 13 q + 1 → 0 ≤ acc → acc ≤ 100 → (∀ u : Int, σ 12 q ≤ u → u < v → (σ 17 q = -5 ∨ σ 17 q = u) → σ (19 + q.toNat) u ≤ acc) → V mX9_mostWorthAt d (RI K) 12 [.inr (some 5), .inl q, .inl acc, .inl v] [] σ := by
    intro k
    induction k with
    | zero => intros; omega
    | succ k ih =>
        intro v acc hk hv0 hv1 ha0 ha1 hno
        refine v_iload3 13 dX9_mostWorthAt_12 rfl ?_
        refine v_aload0 14 dX9_mostWorthAt_13 rfl ?_
        refine v_getR 17 dX9_mostWorthAt_14 rfl fX9_9 rfl rfl ?_
        refine v_getR 20 dX9_mostWorthAt_17 rfl fX9_61 rfl rfl ?_
        refine v_iload1 21 dX9_mostWorthAt_20 rfl ?_
        refine v_iald 22 dX9_mostWorthAt_21 rfl rfl (⟨by omega, by omega⟩) ?_
        refine v_icmp_gt 54 25 dX9_mostWorthAt_22 rfl rfl (fun h22 => ?_) (fun h22 => ?_)
        · skip
          refine v_iload2 55 dX9_mostWorthAt_54 rfl ?_
          refine v_iretI dX9_mostWorthAt_55 rfl ?_
          exact hk0 acc ⟨ha0, ha1⟩ (fun u a b c => hno u a (by omega) c)
        · skip
          have hw1 := hwo q v (by omega) (by omega) (by omega) (by omega)
          refine v_aload0 26 dX9_mostWorthAt_25 rfl ?_
          refine v_getR 29 dX9_mostWorthAt_26 rfl fX9_9 rfl rfl ?_
          refine v_iload1 30 dX9_mostWorthAt_29 rfl ?_
          refine v_iload3 31 dX9_mostWorthAt_30 rfl ?_
          refine v_cvI2 mX3_pinLets 34 dX9_mostWorthAt_31 rfl kX9_64 rfl rfl (by omega) (Nat.le_of_ble_eq_true rfl) ?_
          refine X3_pinLets (by omega) (fun h31 => ?_) (fun h31 => ?_)
          · skip
            refine v_if_eq 48 37 dX9_mostWorthAt_34 rfl rfl (fun h => absurd h (by decide)) (fun _ => ?_)
            refine v_iload2 38 dX9_mostWorthAt_37 rfl ?_
            refine v_aload0 39 dX9_mostWorthAt_38 rfl ?_
            refine v_iload1 40 dX9_mostWorthAt_39 rfl ?_
            refine v_iload3 41 dX9_mostWorthAt_40 rfl ?_
            refine v_cvI2 mX9_worthAt 44 dX9_mostWorthAt_41 rfl kX9_55 rfl rfl (by omega) (Nat.le_of_ble_eq_true rfl) ?_
            refine X9_worthAt (by omega) (by omega) ?_
            refine v_mmax 47 dX9_mostWorthAt_44 rfl kX9_67 (by omega) (Nat.le_of_ble_eq_true rfl) ?_
            refine v_istore2 48 dX9_mostWorthAt_47 rfl (by decide) ?_
            refine v_iinc3 51 dX9_mostWorthAt_48 rfl (by decide) rfl (⟨by omega, by omega⟩) ?_
            refine v_goto 12 dX9_mostWorthAt_51 rfl ?_
            first
              | (refine ih (v + 1) _ (by omega) (by omega) (by omega) (by omega) (by omega) (fun u a b c => ?_)
                 by_cases e : u = v
                 · subst e; exfalso; omega
                 · exact hno u a (by omega) c)
              | (refine ih (v + 1) _ (by omega) (by omega) (by omega) (by omega) (by omega) (fun u a b c => ?_)
                 by_cases e : u = v
                 · rw [e]; exact Int.le_max_right _ _
                 · exact Int.le_trans (hno u a (by omega) c) (Int.le_max_left _ _))
          · skip
            refine v_if_eq 48 37 dX9_mostWorthAt_34 rfl rfl (fun _ => ?_) (fun h => absurd (by decide) h)
            refine v_iinc3 51 dX9_mostWorthAt_48 rfl (by decide) rfl (⟨by omega, by omega⟩) ?_
            refine v_goto 12 dX9_mostWorthAt_51 rfl ?_
            first
              | (refine ih (v + 1) _ (by omega) (by omega) (by omega) (by omega) (by omega) (fun u a b c => ?_)
                 by_cases e : u = v
                 · subst e; exfalso; omega
                 · exact hno u a (by omega) c)
              | (refine ih (v + 1) _ (by omega) (by omega) (by omega) (by omega) (by omega) (fun u a b c => ?_)
                 by_cases e : u = v
                 · rw [e]; exact Int.le_max_right _ _
                 · exact Int.le_trans (hno u a (by omega) c) (Int.le_max_left _ _))
  refine v_iconst 1 dX9_mostWorthAt_0 rfl ⟨by decide +kernel, by decide⟩ ?_
  refine v_istore2 2 dX9_mostWorthAt_1 rfl (by decide) ?_
  refine v_aload0 3 dX9_mostWorthAt_2 rfl ?_
  refine v_getR 6 dX9_mostWorthAt_3 rfl fX9_9 rfl rfl ?_
  refine v_getR 9 dX9_mostWorthAt_6 rfl fX9_58 rfl rfl ?_
  refine v_iload1 10 dX9_mostWorthAt_9 rfl ?_
  refine v_iald 11 dX9_mostWorthAt_10 rfl rfl (⟨by omega, by omega⟩) ?_
  refine v_istore3 12 dX9_mostWorthAt_11 rfl (by decide) ?_
  exact L _ _ _ (Nat.lt_succ_self _) (Int.le_refl _) (by omega) (by decide) (by decide) (fun u a b c => by omega)
set_option maxRecDepth 100000 in
set_option maxHeartbeats 4000000 in
def cmvb (σ : Mem) (vp n : Nat) : Nat := bitsN (fun d => mv (σ 3 1) (cbv σ) (σ vp) (d : Int)) n
set_option maxRecDepth 100000 in
set_option maxHeartbeats 4000000 in
theorem X9_movedBits {d : Nat} {vp n R F : Nat} {σ : Mem} {K : Int → Mem → Prop} (hw : CW σ n R F) (hvp : shapes[vp]? = some (0, 6, [])) (hd : 2 ≤ d) (hk0 : K (cmvb σ vp n : Int) σ) : Run mX9_movedBits d [.inr (some 5), .inr (some vp)] σ (RI K) := by
  have hw0 := hw
  obtain ⟨⟨hn, hn6, hR, hR12, hF, hF6⟩, hru, hde, hwo, hli, hcb, hwf, hbd, hbc⟩ := hw0
  refine Run_of (ls := [.inr (some 5), .inr (some vp), .inr none, .inr none]) (by decide) (Nat.le_of_ble_eq_true rfl) rfl ?_
  have L : ∀ (k : Nat) (i acc : Nat), n - i < k → i ≤ n → acc = bitsN (fun d => mv (σ 3 1) (cbv σ) (σ vp) (d : Int)) i → V mX9_movedBits d (RI K) 4 [.inr (some 5), .inr (some vp), .inl (acc : Int), .inl (i : Int)] [] σ := by
    intro k
    induction k with
    | zero => intros; omega
    | succ k ih =>
        intro i acc hk hi ha
        have hb1 : acc < 2 ^ i := by rw [ha]; exact bitsN_lt _ _
        have hb2 : 2 ^ i ≤ 2 ^ 12 := Nat.pow_le_pow_right (by omega) (by omega)
        have hb3 : (2 : Nat) ^ 12 = 4096 := by decide
        refine v_iload3 5 dX9_movedBits_4 rfl ?_
        refine v_aload0 6 dX9_movedBits_5 rfl ?_
        refine v_getR 9 dX9_movedBits_6 rfl fX9_9 rfl rfl ?_
        refine v_getIe 12 0 (n) dX9_movedBits_9 rfl fX9_43 rfl rfl rfl (hn) ?_
        refine v_icmp_ge 41 15 dX9_movedBits_12 rfl rfl (fun h12 => ?_) (fun h12 => ?_)
        · skip
          refine v_iload2 42 dX9_movedBits_41 rfl ?_
          refine v_iretI dX9_movedBits_42 rfl ?_
          obtain rfl : i = n := by omega
          rw [ha]
          exact hk0
        · skip
          refine v_aload0 16 dX9_movedBits_15 rfl ?_
          refine v_getR 19 dX9_movedBits_16 rfl fX9_15 rfl rfl ?_
          refine v_iload3 20 dX9_movedBits_19 rfl ?_
          refine v_aload1 21 dX9_movedBits_20 rfl ?_
          refine v_iload3 22 dX9_movedBits_21 rfl ?_
          refine v_iald 23 dX9_movedBits_22 rfl hvp (⟨by omega, by omega⟩) ?_
          refine v_cvI2 mX5_moves 26 dX9_movedBits_23 rfl kX9_19 rfl rfl (by omega) (Nat.le_of_ble_eq_true rfl) ?_
          refine X5_moves hcb (by omega) (by omega) (fun h23 => ?_) (fun h23 => ?_)
          all_goals have h23 : mv (σ 3 1) (cbv σ) (σ vp) (i : Int) = _ := h23
          · skip
            refine v_if_eq 35 29 dX9_movedBits_26 rfl rfl (fun h => absurd h (by decide)) (fun _ => ?_)
            refine v_iload2 30 dX9_movedBits_29 rfl ?_
            refine v_iconst 31 dX9_movedBits_30 rfl ⟨by decide +kernel, by decide⟩ ?_
            refine v_iload3 32 dX9_movedBits_31 rfl ?_
            refine v_ishl 33 dX9_movedBits_32 rfl ?_
            refine v_ior 34 dX9_movedBits_33 rfl ?_
            refine v_istore2 35 dX9_movedBits_34 rfl (by decide) ?_
            refine v_iinc3 38 dX9_movedBits_35 rfl (by decide) rfl (⟨by omega, by omega⟩) ?_
            refine v_goto 4 dX9_movedBits_38 rfl ?_
            first
              | (rw [bshl_one (by omega : i < 31), bor_pow hb1 (by omega)]
                 exact ih (i + 1) _ (by omega) (by omega) (by rw [bitsN, ← ha, h23, if_pos rfl]))
              | exact ih (i + 1) _ (by omega) (by omega) (by rw [bitsN, ← ha, h23]; rfl)
          · skip
            refine v_if_eq 35 29 dX9_movedBits_26 rfl rfl (fun _ => ?_) (fun h => absurd (by decide) h)
            refine v_iinc3 38 dX9_movedBits_35 rfl (by decide) rfl (⟨by omega, by omega⟩) ?_
            refine v_goto 4 dX9_movedBits_38 rfl ?_
            first
              | (rw [bshl_one (by omega : i < 31), bor_pow hb1 (by omega)]
                 exact ih (i + 1) _ (by omega) (by omega) (by rw [bitsN, ← ha, h23, if_pos rfl]))
              | exact ih (i + 1) _ (by omega) (by omega) (by rw [bitsN, ← ha, h23]; rfl)
  refine v_iconst 1 dX9_movedBits_0 rfl ⟨by decide +kernel, by decide⟩ ?_
  refine v_istore2 2 dX9_movedBits_1 rfl (by decide) ?_
  refine v_iconst 3 dX9_movedBits_2 rfl ⟨by decide +kernel, by decide⟩ ?_
  refine v_istore3 4 dX9_movedBits_3 rfl (by decide) ?_
  exact L (n + 1) 0 0 (by omega) (by omega) rfl
set_option maxRecDepth 100000 in
set_option maxHeartbeats 4000000 in
theorem X9_movedOf {d : Nat} {vp n R F : Nat} {w : Int} {σ : Mem} {K : Int → Mem → Prop} (hw : CW σ n R F) (hvp : shapes[vp]? = some (0, 6, [])) (hd : 2 ≤ d) (hk0 : K (sumI (fun d => one (decide (σ 14 d = w) && mv (σ 3 1) (cbv σ) (σ vp) d)) n) σ) : Run mX9_movedOf d [.inr (some 5), .inl w, .inr (some vp)] σ (RI K) := by
  have hw0 := hw
  obtain ⟨⟨hn, hn6, hR, hR12, hF, hF6⟩, hru, hde, hwo, hli, hcb, hwf, hbd, hbc⟩ := hw0
  refine Run_of (ls := [.inr (some 5), .inl w, .inr (some vp), .inr none, .inr none]) (by decide) (Nat.le_of_ble_eq_true rfl) rfl ?_
  have L : ∀ (k : Nat) (i : Nat) (acc : Int), n - i < k → i ≤ n → acc = sumI (fun d => one (decide (σ 14 d = w) && mv (σ 3 1) (cbv σ) (σ vp) d)) i → V mX9_movedOf d (RI K) 5 [.inr (some 5), .inl w, .inr (some vp), .inl acc, .inl (i : Int)] [] σ := by
    intro k
    induction k with
    | zero => intros; omega
    | succ k ih =>
        intro i acc hk hi ha
        have hb1 := sumI_bnd (f := (fun d => one (decide (σ 14 d = w) && mv (σ 3 1) (cbv σ) (σ vp) d))) (m := 1) (n := i) (fun _ _ => one_bnd _)
        refine v_iload4 7 dX9_movedOf_5 rfl ?_
        refine v_aload0 8 dX9_movedOf_7 rfl ?_
        refine v_getR 11 dX9_movedOf_8 rfl fX9_9 rfl rfl ?_
        refine v_getIe 14 0 (n) dX9_movedOf_11 rfl fX9_43 rfl rfl rfl (hn) ?_
        refine v_icmp_ge 56 17 dX9_movedOf_14 rfl rfl (fun h14 => ?_) (fun h14 => ?_)
        · skip
          refine v_iload3 57 dX9_movedOf_56 rfl ?_
          refine v_iretI dX9_movedOf_57 rfl ?_
          obtain rfl : i = n := by omega
          rw [ha]
          exact hk0
        · skip
          refine v_aload0 18 dX9_movedOf_17 rfl ?_
          refine v_getR 21 dX9_movedOf_18 rfl fX9_9 rfl rfl ?_
          refine v_getR 24 dX9_movedOf_21 rfl fX9_77 rfl rfl ?_
          refine v_iload4 26 dX9_movedOf_24 rfl ?_
          refine v_iald 27 dX9_movedOf_26 rfl rfl (⟨by omega, by omega⟩) ?_
          refine v_iload1 28 dX9_movedOf_27 rfl ?_
          refine v_icmp_ne 50 31 dX9_movedOf_28 rfl rfl (fun h28 => ?_) (fun h28 => ?_)
          · skip
            refine v_iinc4 53 dX9_movedOf_50 rfl (by decide) rfl (⟨by omega, by omega⟩) ?_
            refine v_goto 5 dX9_movedOf_53 rfl ?_
            first
              | exact ih (i + 1) _ (by omega) (by omega) (sum_s ha (by show one (decide _ && mv _ _ _ _) = 1; rw [h41, decide_eq_true (by omega : σ 14 (i : Int) = w)]; rfl))
              | exact ih (i + 1) _ (by omega) (by omega) (by rw [sumI, ← ha, h41, Bool.and_false, one_f, Int.add_zero])
              | exact ih (i + 1) _ (by omega) (by omega) (by rw [sumI, ← ha, decide_eq_false (by omega : ¬ σ 14 (i : Int) = w), Bool.false_and, one_f, Int.add_zero])
          · skip
            refine v_aload0 32 dX9_movedOf_31 rfl ?_
            refine v_getR 35 dX9_movedOf_32 rfl fX9_15 rfl rfl ?_
            refine v_iload4 37 dX9_movedOf_35 rfl ?_
            refine v_aload2 38 dX9_movedOf_37 rfl ?_
            refine v_iload4 40 dX9_movedOf_38 rfl ?_
            refine v_iald 41 dX9_movedOf_40 rfl hvp (⟨by omega, by omega⟩) ?_
            refine v_cvI2 mX5_moves 44 dX9_movedOf_41 rfl kX9_19 rfl rfl (by omega) (Nat.le_of_ble_eq_true rfl) ?_
            refine X5_moves hcb (by omega) (by omega) (fun h41 => ?_) (fun h41 => ?_)
            all_goals have h41 : mv (σ 3 1) (cbv σ) (σ vp) (i : Int) = _ := h41
            · skip
              refine v_if_eq 50 47 dX9_movedOf_44 rfl rfl (fun h => absurd h (by decide)) (fun _ => ?_)
              refine v_iinc3 50 dX9_movedOf_47 rfl (by decide) rfl (⟨by omega, by omega⟩) ?_
              refine v_iinc4 53 dX9_movedOf_50 rfl (by decide) rfl (⟨by omega, by omega⟩) ?_
              refine v_goto 5 dX9_movedOf_53 rfl ?_
              first
                | exact ih (i + 1) _ (by omega) (by omega) (sum_s ha (by show one (decide _ && mv _ _ _ _) = 1; rw [h41, decide_eq_true (by omega : σ 14 (i : Int) = w)]; rfl))
                | exact ih (i + 1) _ (by omega) (by omega) (by rw [sumI, ← ha, h41, Bool.and_false, one_f, Int.add_zero])
                | exact ih (i + 1) _ (by omega) (by omega) (by rw [sumI, ← ha, decide_eq_false (by omega : ¬ σ 14 (i : Int) = w), Bool.false_and, one_f, Int.add_zero])
            · skip
              refine v_if_eq 50 47 dX9_movedOf_44 rfl rfl (fun _ => ?_) (fun h => absurd (by decide) h)
              refine v_iinc4 53 dX9_movedOf_50 rfl (by decide) rfl (⟨by omega, by omega⟩) ?_
              refine v_goto 5 dX9_movedOf_53 rfl ?_
              first
                | exact ih (i + 1) _ (by omega) (by omega) (sum_s ha (by show one (decide _ && mv _ _ _ _) = 1; rw [h41, decide_eq_true (by omega : σ 14 (i : Int) = w)]; rfl))
                | exact ih (i + 1) _ (by omega) (by omega) (by rw [sumI, ← ha, h41, Bool.and_false, one_f, Int.add_zero])
                | exact ih (i + 1) _ (by omega) (by omega) (by rw [sumI, ← ha, decide_eq_false (by omega : ¬ σ 14 (i : Int) = w), Bool.false_and, one_f, Int.add_zero])
  refine v_iconst 1 dX9_movedOf_0 rfl ⟨by decide +kernel, by decide⟩ ?_
  refine v_istore3 2 dX9_movedOf_1 rfl (by decide) ?_
  refine v_iconst 3 dX9_movedOf_2 rfl ⟨by decide +kernel, by decide⟩ ?_
  refine v_istore4 5 dX9_movedOf_3 rfl (by decide) ?_
  exact L (n + 1) 0 _ (by omega) (by omega) rfl
set_option maxRecDepth 100000 in
set_option maxHeartbeats 4000000 in
def cAlw (σ : Mem) (p : Int → Int) (n : Nat) : Prop := (∀ w : Int, 0 ≤ w → w < 4 → sumI (fun d => one (decide (σ 14 d = w) && mv (σ 3 1) (cbv σ) p d)) n ≤ σ 25 w) ∧ ∀ d : Int, 0 ≤ d → d < n → (σ 17 d = -5 ∨ σ 17 d = p d)
set_option maxRecDepth 100000 in
set_option maxHeartbeats 4000000 in
theorem X9_isAllowed {d : Nat} {vp n R F : Nat} {σ : Mem} {K : Int → Mem → Prop} (hw : CW σ n R F) (hvp : shapes[vp]? = some (0, 6, [])) (hd : 3 ≤ d) (ht : cAlw σ (σ vp) n → K 1 σ) (hf : ¬ cAlw σ (σ vp) n → K 0 σ) : Run mX9_isAllowed d [.inr (some 5), .inr (some vp)] σ (RI K) := by
  have hw0 := hw
  obtain ⟨⟨hn, hn6, hR, hR12, hF, hF6⟩, hru, hde, hwo, hli, hcb, hwf, hbd, hbc⟩ := hw0
  refine Run_of (ls := [.inr (some 5), .inr (some vp), .inr none]) (by decide) (Nat.le_of_ble_eq_true rfl) rfl ?_
  have L2 : ∀ (k : Nat) (w : Int), (4 - w).toNat < k → 0 ≤ w → w ≤ 4 → (∀ w2 : Int, 0 ≤ w2 → w2 < w → sumI (fun d => one (decide (σ 14 d = w2) && mv (σ 3 1) (cbv σ) (σ vp) d)) n ≤ σ 25 w2) → (∀ d : Int, 0 ≤ d → d < n → (σ 17 d = -5 ∨ σ 17 d = σ vp d)) → V mX9_isAllowed d (RI K) 37 [.inr (some 5), .inr (some vp), .inl w] [] σ := by
    intro k
    induction k with
    | zero => intros; omega
    | succ k ih =>
        intro w hk hw0 hw4 hac hpn
        refine v_iload2 38 dX9_isAllowed_37 rfl ?_
        refine v_iconst 39 dX9_isAllowed_38 rfl ⟨by decide +kernel, by decide⟩ ?_
        refine v_icmp_ge 68 42 dX9_isAllowed_39 rfl rfl (fun h39 => ?_) (fun h39 => ?_)
        · skip
          refine v_iconst 69 dX9_isAllowed_68 rfl ⟨by decide +kernel, by decide⟩ ?_
          refine v_zretI dX9_isAllowed_69 rfl (Or.inr rfl) ?_
          exact ht ⟨fun w2 a b => hac w2 a (by omega), hpn⟩
        · skip
          refine v_aload0 43 dX9_isAllowed_42 rfl ?_
          refine v_iload2 44 dX9_isAllowed_43 rfl ?_
          refine v_aload1 45 dX9_isAllowed_44 rfl ?_
          refine v_cvI2 mX9_movedOf 48 dX9_isAllowed_45 rfl kX9_70 rfl rfl (by omega) (Nat.le_of_ble_eq_true rfl) ?_
          refine X9_movedOf hw hvp (by omega) ?_
          refine v_aload0 49 dX9_isAllowed_48 rfl ?_
          refine v_getR 52 dX9_isAllowed_49 rfl fX9_9 rfl rfl ?_
          refine v_getR 55 dX9_isAllowed_52 rfl fX9_74 rfl rfl ?_
          refine v_iload2 56 dX9_isAllowed_55 rfl ?_
          refine v_iald 57 dX9_isAllowed_56 rfl rfl (⟨by omega, by omega⟩) ?_
          refine v_icmp_le 62 60 dX9_isAllowed_57 rfl rfl (fun h57 => ?_) (fun h57 => ?_)
          · skip
            refine v_iinc2 65 dX9_isAllowed_62 rfl (by decide) rfl (⟨by omega, by omega⟩) ?_
            refine v_goto 37 dX9_isAllowed_65 rfl ?_
            exact ih (w + 1) (by omega) (by omega) (by omega) (fun w2 a b => by
              by_cases e : w2 = w
              · subst e; omega
              · exact hac w2 a (by omega)) hpn
          · skip
            refine v_iconst 61 dX9_isAllowed_60 rfl ⟨by decide +kernel, by decide⟩ ?_
            refine v_zretI dX9_isAllowed_61 rfl (Or.inl rfl) ?_
            exact hf (fun q => by have := q.1 w hw0 (by omega); omega)
  have L1 : ∀ (k : Nat) (i : Nat), n - i < k → i ≤ n → (∀ d : Int, 0 ≤ d → d < i → (σ 17 d = -5 ∨ σ 17 d = σ vp d)) → V mX9_isAllowed d (RI K) 2 [.inr (some 5), .inr (some vp), .inl (i : Int)] [] σ := by
    intro k
    induction k with
    | zero => intros; omega
    | succ k ih =>
        intro i hk hi hno
        refine v_iload2 3 dX9_isAllowed_2 rfl ?_
        refine v_aload0 4 dX9_isAllowed_3 rfl ?_
        refine v_getR 7 dX9_isAllowed_4 rfl fX9_9 rfl rfl ?_
        refine v_getIe 10 0 (n) dX9_isAllowed_7 rfl fX9_43 rfl rfl rfl (hn) ?_
        refine v_icmp_ge 35 13 dX9_isAllowed_10 rfl rfl (fun h10 => ?_) (fun h10 => ?_)
        · skip
          refine v_iconst 36 dX9_isAllowed_35 rfl ⟨by decide +kernel, by decide⟩ ?_
          refine v_istore2 37 dX9_isAllowed_36 rfl (by decide) ?_
          exact L2 5 0 (by decide) (by decide) (by decide) (fun w a b => by omega) (fun d a b => hno d a (by omega))
        · skip
          refine v_aload0 14 dX9_isAllowed_13 rfl ?_
          refine v_getR 17 dX9_isAllowed_14 rfl fX9_9 rfl rfl ?_
          refine v_iload2 18 dX9_isAllowed_17 rfl ?_
          refine v_aload1 19 dX9_isAllowed_18 rfl ?_
          refine v_iload2 20 dX9_isAllowed_19 rfl ?_
          refine v_iald 21 dX9_isAllowed_20 rfl hvp (⟨by omega, by omega⟩) ?_
          refine v_cvI2 mX3_pinLets 24 dX9_isAllowed_21 rfl kX9_64 rfl rfl (by omega) (Nat.le_of_ble_eq_true rfl) ?_
          refine X3_pinLets (by omega) (fun h21 => ?_) (fun h21 => ?_)
          · skip
            refine v_if_ne 29 27 dX9_isAllowed_24 rfl rfl (fun _ => ?_) (fun h => absurd (by decide) h)
            refine v_iinc2 32 dX9_isAllowed_29 rfl (by decide) rfl (⟨by omega, by omega⟩) ?_
            refine v_goto 2 dX9_isAllowed_32 rfl ?_
            exact ih (i + 1) (by omega) (by omega) (fun d a b => by
              by_cases e : d = (i : Int)
              · subst e; exact h21
              · exact hno d a (by omega))
          · skip
            refine v_if_ne 29 27 dX9_isAllowed_24 rfl rfl (fun h => absurd h (by decide)) (fun _ => ?_)
            refine v_iconst 28 dX9_isAllowed_27 rfl ⟨by decide +kernel, by decide⟩ ?_
            refine v_zretI dX9_isAllowed_28 rfl (Or.inl rfl) ?_
            exact hf (fun q => by have := q.2 (i : Int) (by omega) (by omega); omega)
  refine v_iconst 1 dX9_isAllowed_0 rfl ⟨by decide +kernel, by decide⟩ ?_
  refine v_istore2 2 dX9_isAllowed_1 rfl (by decide) ?_
  exact L1 (n + 1) 0 (by omega) (by omega) (fun d a b => by omega)
set_option maxRecDepth 100000 in
set_option maxHeartbeats 4000000 in
theorem X11_bitAt {d : Nat} {s : Nat} {ii : Int} {σ : Mem} {K : Int → Mem → Prop} (hs : s < 4096) (hk0 : K (nbF s ii 12 0 0) σ) : Run mX11_bitAt d [.inl (s : Int), .inl ii] σ (RI K) := by
  refine Run_of (ls := [.inl (s : Int), .inl ii, .inr none, .inr none]) (by decide) (Nat.le_of_ble_eq_true rfl) rfl ?_
  have LB : ∀ (k : Nat) (r : Nat) (cnt : Int), 12 - r < k → r ≤ 12 → 0 ≤ cnt → cnt ≤ r → nbF s ii (12 - r) r cnt = nbF s ii 12 0 0 → V mX11_bitAt d (RI K) 4 [.inl (s : Int), .inl ii, .inl cnt, .inl (r : Int)] [] σ := by
    intro k
    induction k with
    | zero => intros; omega
    | succ k ih =>
        intro r cnt hk hr hc0 hc1 hnb
        refine v_iload3 5 dX11_bitAt_4 rfl ?_
        refine v_bipush 7 dX11_bitAt_5 rfl ⟨by decide +kernel, by decide⟩ ?_
        refine v_icmp_ge 37 10 dX11_bitAt_7 rfl rfl (fun h7 => ?_) (fun h7 => ?_)
        · skip
          refine v_bipush 39 dX11_bitAt_37 rfl ⟨by decide +kernel, by decide⟩ ?_
          refine v_iretI dX11_bitAt_39 rfl ?_
          obtain rfl : r = 12 := by omega
          rw [Nat.sub_self] at hnb
          have hnb : (-5 : Int) = nbF s ii 12 0 0 := hnb
          rw [hnb]
          exact hk0
        · skip
          have e12 : 12 - r = (12 - (r + 1)) + 1 := by omega
          rw [e12] at hnb
          have hnb : (if s.testBit r then (if cnt = ii then (r : Int) else nbF s ii (12 - (r + 1)) (r + 1) (cnt + 1)) else nbF s ii (12 - (r + 1)) (r + 1) cnt) = nbF s ii 12 0 0 := hnb
          refine v_iload0 11 dX11_bitAt_10 rfl ?_
          refine v_iload3 12 dX11_bitAt_11 rfl ?_
          refine v_ishr 13 dX11_bitAt_12 rfl ?_
          refine v_iconst 14 dX11_bitAt_13 rfl ⟨by decide +kernel, by decide⟩ ?_
          refine v_iand 15 dX11_bitAt_14 rfl ?_
          rw [bit_nat (by omega : s < 2 ^ 31) (by omega : r < 32)]
          refine v_if_ne 21 18 dX11_bitAt_15 rfl rfl (fun h15 => ?_) (fun h15 => ?_)
          · skip
            refine v_iload2 22 dX11_bitAt_21 rfl ?_
            refine v_iload1 23 dX11_bitAt_22 rfl ?_
            refine v_icmp_ne 28 26 dX11_bitAt_23 rfl rfl (fun h23 => ?_) (fun h23 => ?_)
            · skip
              refine v_iinc2 31 dX11_bitAt_28 rfl (by decide) rfl (⟨by omega, by omega⟩) ?_
              refine v_iinc3 34 dX11_bitAt_31 rfl (by decide) rfl (⟨by omega, by omega⟩) ?_
              refine v_goto 4 dX11_bitAt_34 rfl ?_
              cases htb : s.testBit r with
              | true =>
                rw [htb] at hnb
                first
                  | (exfalso; rw [htb] at h15; exact h15 (by decide))
                  | (refine ih (r + 1) _ (by omega) (by omega) (by omega) (by omega) ?_
                     rw [← hnb, if_pos rfl, if_neg (by omega)])
              | false =>
                rw [htb] at hnb
                first
                  | (exfalso; rw [htb] at h15; exact absurd rfl h15)
                  | (refine ih (r + 1) _ (by omega) (by omega) (by omega) (by omega) ?_
                     rw [← hnb]; rfl)
            · skip
              refine v_iload3 27 dX11_bitAt_26 rfl ?_
              refine v_iretI dX11_bitAt_27 rfl ?_
              cases htb : s.testBit r with
              | true =>
                rw [htb, if_pos rfl, if_pos (by omega)] at hnb
                rw [hnb]
                exact hk0
              | false => exfalso; rw [htb] at h15; exact absurd rfl h15
          · skip
            refine v_goto 31 dX11_bitAt_18 rfl ?_
            refine v_iinc3 34 dX11_bitAt_31 rfl (by decide) rfl (⟨by omega, by omega⟩) ?_
            refine v_goto 4 dX11_bitAt_34 rfl ?_
            cases htb : s.testBit r with
            | true =>
              rw [htb] at hnb
              first
                | (exfalso; rw [htb] at h15; exact h15 (by decide))
                | (refine ih (r + 1) _ (by omega) (by omega) (by omega) (by omega) ?_
                   rw [← hnb, if_pos rfl, if_neg (by omega)])
            | false =>
              rw [htb] at hnb
              first
                | (exfalso; rw [htb] at h15; exact absurd rfl h15)
                | (refine ih (r + 1) _ (by omega) (by omega) (by omega) (by omega) ?_
                   rw [← hnb]; rfl)
  refine v_iconst 1 dX11_bitAt_0 rfl ⟨by decide +kernel, by decide⟩ ?_
  refine v_istore2 2 dX11_bitAt_1 rfl (by decide) ?_
  refine v_iconst 3 dX11_bitAt_2 rfl ⟨by decide +kernel, by decide⟩ ?_
  refine v_istore3 4 dX11_bitAt_3 rfl (by decide) ?_
  exact LB 13 0 0 (by decide) (by decide) (by decide) (by decide) rfl
set_option maxRecDepth 100000 in
set_option maxHeartbeats 4000000 in
theorem X11_brokenNow {d : Nat} {n R F : Nat} {σ : Mem} {K : Int → Mem → Prop} (hw : CW σ n R F) (hp : ∀ i : Int, 0 ≤ i → i < n → 0 ≤ σ 11 i ∧ σ 11 i ≤ 5) (hd : 4 ≤ d) (hk0 : K (bitsN (pB σ 11 26 n) R : Int) σ) : Run mX11_brokenNow d [.inr (some 0)] σ (RI K) := by
  have hw0 := hw
  obtain ⟨⟨hn, hn6, hR, hR12, hF, hF6⟩, hru, hde, hwo, hli, hcb, hwf, hbd, hbc⟩ := hw0
  refine Run_of (ls := [.inr (some 0)]) (by decide) (Nat.le_of_ble_eq_true rfl) rfl ?_
  refine v_aload0 1 dX11_brokenNow_0 rfl ?_
  refine v_getR 4 dX11_brokenNow_1 rfl fX11_19 rfl rfl ?_
  refine v_aload0 5 dX11_brokenNow_4 rfl ?_
  refine v_getR 8 dX11_brokenNow_5 rfl fX11_85 rfl rfl ?_
  refine v_aload0 9 dX11_brokenNow_8 rfl ?_
  refine v_getR 12 dX11_brokenNow_9 rfl fX11_12 rfl rfl ?_
  refine v_getIe 15 0 (n) dX11_brokenNow_12 rfl fX11_101 rfl rfl rfl (hn) ?_
  refine v_aload0 16 dX11_brokenNow_15 rfl ?_
  refine v_getR 19 dX11_brokenNow_16 rfl fX11_19 rfl rfl ?_
  refine v_getR 22 dX11_brokenNow_19 rfl fX11_140 rfl rfl ?_
  refine v_cvI3 mX8_brokenIn 25 dX11_brokenNow_22 rfl kX11_262 rfl rfl (by omega) (Nat.le_of_ble_eq_true rfl) ?_
  refine X8_brokenIn hw rfl rfl hp (Nat.le_refl _) (by omega) ?_
  refine v_iretI dX11_brokenNow_25 rfl ?_
  exact hk0
