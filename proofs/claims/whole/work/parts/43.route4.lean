set_option maxRecDepth 100000 in
set_option maxHeartbeats 4000000 in
theorem bl_pre (left q : Nat) : ∀ k, ∃ rest, bl left (q + k) = bl left q ++ rest
  | 0 => ⟨[], by simp⟩
  | k + 1 => by
    obtain ⟨r, hr⟩ := bl_pre left q k
    exact ⟨r ++ (if left.testBit (q + k) then [q + k] else []), by show bl left (q + k + 1) = _; rw [bl_succ, hr, List.append_assoc]⟩
theorem fstep_mem {b : Nat → Int} (hb : ∀ s, 0 ≤ b s ∧ b s ≤ 12) {P : Int} {n m left : Nat} (hlt : sm b P n (m + 1) left < 1000) : fstep b P n m left ∈ bl left n ∧ sm b P n m (clr left (fstep b P n m left)) < 1000 := by
  have hfold := foldmin (sT b P (sm b P n m) left) (bl left n) 1000
  obtain ⟨d0, hd0, he0⟩ : ∃ d ∈ bl left n, sm b P n (m + 1) left = sT b P (sm b P n m) left d := by
    rcases hfold.2.2 with h3 | h3
    · have h3' : sm b P n (m + 1) left = 1000 := h3
      omega
    · exact h3
  obtain ⟨d, hfd⟩ : ∃ d, (bl left n).find? (fun d => decide (sT b P (sm b P n m) left d = sm b P n (m + 1) left)) = some d := by
    cases hf : (bl left n).find? (fun d => decide (sT b P (sm b P n m) left d = sm b P n (m + 1) left)) with
    | some d => exact ⟨d, rfl⟩
    | none =>
      have := List.find?_eq_none.mp hf d0 hd0
      exact absurd (decide_eq_true he0.symm) this
  have hfs : fstep b P n m left = d := by unfold fstep; rw [hfd]; rfl
  obtain ⟨hd1, as, bs, hsplit, hnot⟩ := List.find?_eq_some_iff_append.mp hfd
  have hd1 : sT b P (sm b P n m) left d = sm b P n (m + 1) left := of_decide_eq_true hd1
  have hd : d ∈ bl left n := by rw [hsplit]; simp
  rw [hfs]
  refine ⟨hd, ?_⟩
  have hbb := hb (clr left d)
  unfold sT at hd1
  by_cases hPb : P < b (clr left d)
  · rw [if_pos hPb] at hd1; omega
  · rw [if_neg hPb] at hd1; omega
theorem smT_eq {b : Nat → Int} {P : Int} {M s d m : Nat} (hM : M < 64) (hs : s < 64) (hsub : s &&& M = s) (hm : pop (M ^^^ s) 6 = ((m + 1 : Nat) : Int)) (hd : d ∈ bl (M ^^^ s) 6) : smT b P M s d = sT b P (sm b P 6 m) (M ^^^ s) d := by
  have h := rt_in hM hs hsub hd
  unfold smT sT smS
  rw [h.2.2.2.2.1, show (pop (clr (M ^^^ s) d) 6).toNat = m by rw [← h.2.2.2.2.1]; omega]
theorem smS_eq {b : Nat → Int} {P : Int} {M s m : Nat} (hm : pop (M ^^^ s) 6 = ((m + 1 : Nat) : Int)) : smS b P M s = sm b P 6 (m + 1) (M ^^^ s) := by
  unfold smS
  rw [show (pop (M ^^^ s) 6).toNat = m + 1 by omega]
set_option maxRecDepth 100000 in
set_option maxHeartbeats 4000000 in
theorem X7_leastStep {d : Nat} {b : Nat → Int} {P : Int} {M i m : Nat} {σ : Mem} {K : Int → Mem → Prop} (hM : M < 64) (hi64 : i < 64) (hsub : i &&& M = i) (hb : ∀ s, 0 ≤ b s ∧ b s ≤ 12) (hA : ∀ t : Nat, t < 64 → t &&& M = t → σ 61 (t : Int) = b (M ^^^ t)) (hP : σ 62 0 = P) (hS : ∀ t : Nat, t < 64 → t &&& M = t → σ 63 (t : Int) = smS b P M t) (hm : pop (M ^^^ i) 6 = ((m + 1 : Nat) : Int)) (hd : 2 ≤ d) (hk0 : K ((fstep b P 6 m (M ^^^ i) : Nat) : Int) σ) : Run mX7_leastStep d [.inr (some 10), .inl (i : Int), .inl (M : Int)] σ (RI K) := by
  refine Run_of (ls := [.inr (some 10), .inl (i : Int), .inl (M : Int), .inr none, .inr none]) (by decide) (Nat.le_of_ble_eq_true rfl) rfl ?_
  have L : ∀ (k : Nat) (q : Nat) (z4 : AV), 6 - q < k → q ≤ 6 → (bl (M ^^^ i) q).find? (fun d => decide (sT b P (sm b P 6 m) (M ^^^ i) d = sm b P 6 (m + 1) (M ^^^ i))) = none → V mX7_leastStep d (RI K) 2 [.inr (some 10), .inl (i : Int), .inl (M : Int), .inl (q : Int), z4] [] σ := by
    intro k
    induction k with
    | zero => intros; omega
    | succ k ih =>
        intro q z4 hk hq g1
        refine v_iload3 3 dX7_leastStep_2 rfl ?_
        refine v_bipush 5 dX7_leastStep_3 rfl ⟨by decide +kernel, by decide⟩ ?_
        refine v_icmp_ge 56 8 dX7_leastStep_5 rfl rfl (fun h5 => ?_) (fun h5 => ?_)
        · skip
          refine v_iconst 57 dX7_leastStep_56 rfl ⟨by decide +kernel, by decide⟩ ?_
          refine v_iretI dX7_leastStep_57 rfl ?_
          obtain rfl : q = 6 := by omega
          have hfs : fstep b P 6 m (M ^^^ i) = 0 := by unfold fstep; rw [g1]; rfl
          rw [hfs] at hk0
          exact hk0
        · skip
          have hq6 : q < 6 := by omega
          have hbit := rt_in2 hM hi64 hsub hq6
          have hor : i ||| 2 ^ q < 64 := Nat.or_lt_two_pow (n := 6) hi64 (Nat.pow_lt_pow_right (by omega) hq6)
          have hpw : 2 ^ q < 2 ^ 31 := Nat.pow_lt_pow_right (by omega) (by omega)
          refine v_iload1 9 dX7_leastStep_8 rfl ?_
          refine v_iconst 10 dX7_leastStep_9 rfl ⟨by decide +kernel, by decide⟩ ?_
          refine v_iload3 11 dX7_leastStep_10 rfl ?_
          refine v_ishl 12 dX7_leastStep_11 rfl ?_
          refine v_ior 13 dX7_leastStep_12 rfl ?_
          rw [bshl_one (by omega), bor_nat (by omega) hpw]
          obtain ⟨nx, hnx⟩ : ∃ nx, nx = i ||| 2 ^ q := ⟨_, rfl⟩
          rw [← hnx] at hbit hor ⊢
          have hsx := rt_sub hM hor
          refine v_istore4 15 dX7_leastStep_13 rfl (by decide) ?_
          refine v_iload4 17 dX7_leastStep_15 rfl ?_
          refine v_iload1 18 dX7_leastStep_17 rfl ?_
          refine v_icmp_eq 50 21 dX7_leastStep_18 rfl rfl (fun h18 => ?_) (fun h18 => ?_)
          · skip
            refine v_iinc3 53 dX7_leastStep_50 rfl (by decide) rfl (⟨by omega, by omega⟩) ?_
            refine v_goto 2 dX7_leastStep_53 rfl ?_
            first
              | (have hni : (M ^^^ i).testBit q = false := by
                   cases hx : (M ^^^ i).testBit q with
                   | false => rfl
                   | true =>
                     have h9 := hbit.mp (bl_mem.mpr ⟨hq6, hx⟩)
                     first | exact absurd (by omega) h9.1 | exact absurd (hsx.1.mpr h9.2) (by omega)
                 exact ih (q + 1) _ (by omega) (by omega) (by rw [bl_succ, hni]; simpa using g1))
              | (refine ih (q + 1) _ (by omega) (by omega) ?_
                 rw [bl_succ, (bl_mem.mp hin).2, if_pos rfl, List.find?_append, g1]
                 have hno : ¬ sT b P (sm b P 6 m) (M ^^^ i) q = sm b P 6 (m + 1) (M ^^^ i) := by rw [← hE]; exact h45
                 simp [hno])
          · skip
            refine v_iload4 23 dX7_leastStep_21 rfl ?_
            refine v_iload2 24 dX7_leastStep_23 rfl ?_
            refine v_iconst 25 dX7_leastStep_24 rfl ⟨by decide +kernel, by decide⟩ ?_
            refine v_ixor 26 dX7_leastStep_25 rfl ?_
            refine v_iand 27 dX7_leastStep_26 rfl ?_
            refine v_if_eq 33 30 dX7_leastStep_27 rfl rfl (fun h27 => ?_) (fun h27 => ?_)
            · skip
              have hin : q ∈ bl (M ^^^ i) 6 := hbit.mpr ⟨by omega, hsx.1.mp (by omega)⟩
              have hrt := rt_in hM hi64 hsub hin
              rw [← hnx] at hrt
              have hT := smT_eq (b := b) (P := P) hM hi64 hsub hm hin
              have hE := smS_eq (b := b) (P := P) hm
              refine v_aload0 34 dX7_leastStep_33 rfl ?_
              refine v_iload4 36 dX7_leastStep_34 rfl ?_
              refine v_cvI1 mX7_sumThrough 39 dX7_leastStep_36 rfl kX7_94 rfl rfl (by omega) (Nat.le_of_ble_eq_true rfl) ?_
              have h61 : σ 61 (nx : Int) = b (M ^^^ nx) := hA nx hor hrt.2.2.2.1
              have h63 : σ 63 (nx : Int) = smS b P M nx := hS nx hor hrt.2.2.2.1
              refine X7_sumThrough hor (by rw [h61]; exact hb _) (by rw [h63]; exact smS_bnd hb _ _ _) (by omega) ?_
              rw [h61, hP, h63]
              have hT2 : (if P < b (M ^^^ nx) then 1000 else min 1000 (b (M ^^^ nx) + smS b P M nx)) = sT b P (sm b P 6 m) (M ^^^ i) q := by rw [← hT]; unfold smT; rw [← hnx]
              rw [hT2]
              refine v_aload0 40 dX7_leastStep_39 rfl ?_
              refine v_getR 43 dX7_leastStep_40 rfl fX7_31 rfl rfl ?_
              refine v_iload1 44 dX7_leastStep_43 rfl ?_
              refine v_ialde 45 (smS b P M i) dX7_leastStep_44 rfl rfl (⟨by omega, by omega⟩) (hS i hi64 hsub) ?_
              refine v_icmp_ne 50 48 dX7_leastStep_45 rfl rfl (fun h45 => ?_) (fun h45 => ?_)
              · skip
                refine v_iinc3 53 dX7_leastStep_50 rfl (by decide) rfl (⟨by omega, by omega⟩) ?_
                refine v_goto 2 dX7_leastStep_53 rfl ?_
                first
                  | (have hni : (M ^^^ i).testBit q = false := by
                       cases hx : (M ^^^ i).testBit q with
                       | false => rfl
                       | true =>
                         have h9 := hbit.mp (bl_mem.mpr ⟨hq6, hx⟩)
                         first | exact absurd (by omega) h9.1 | exact absurd (hsx.1.mpr h9.2) (by omega)
                     exact ih (q + 1) _ (by omega) (by omega) (by rw [bl_succ, hni]; simpa using g1))
                  | (refine ih (q + 1) _ (by omega) (by omega) ?_
                     rw [bl_succ, (bl_mem.mp hin).2, if_pos rfl, List.find?_append, g1]
                     have hno : ¬ sT b P (sm b P 6 m) (M ^^^ i) q = sm b P 6 (m + 1) (M ^^^ i) := by rw [← hE]; exact h45
                     simp [hno])
              · skip
                refine v_iload3 49 dX7_leastStep_48 rfl ?_
                refine v_iretI dX7_leastStep_49 rfl ?_
                have hfs : fstep b P 6 m (M ^^^ i) = q := by
                  obtain ⟨rest, hr⟩ := bl_pre (M ^^^ i) (q + 1) (6 - (q + 1))
                  rw [show q + 1 + (6 - (q + 1)) = 6 by omega, bl_succ (M ^^^ i) q, (bl_mem.mp hin).2, if_pos rfl] at hr
                  unfold fstep
                  have hyes : sT b P (sm b P 6 m) (M ^^^ i) q = sm b P 6 (m + 1) (M ^^^ i) := by rw [← hE]; exact Classical.not_not.mp h45
                  rw [hr, List.find?_append, List.find?_append, g1]
                  simp [hyes]
                rw [hfs] at hk0
                exact hk0
            · skip
              refine v_goto 50 dX7_leastStep_30 rfl ?_
              refine v_iinc3 53 dX7_leastStep_50 rfl (by decide) rfl (⟨by omega, by omega⟩) ?_
              refine v_goto 2 dX7_leastStep_53 rfl ?_
              first
                | (have hni : (M ^^^ i).testBit q = false := by
                     cases hx : (M ^^^ i).testBit q with
                     | false => rfl
                     | true =>
                       have h9 := hbit.mp (bl_mem.mpr ⟨hq6, hx⟩)
                       first | exact absurd (by omega) h9.1 | exact absurd (hsx.1.mpr h9.2) (by omega)
                   exact ih (q + 1) _ (by omega) (by omega) (by rw [bl_succ, hni]; simpa using g1))
                | (refine ih (q + 1) _ (by omega) (by omega) ?_
                   rw [bl_succ, (bl_mem.mp hin).2, if_pos rfl, List.find?_append, g1]
                   have hno : ¬ sT b P (sm b P 6 m) (M ^^^ i) q = sm b P 6 (m + 1) (M ^^^ i) := by rw [← hE]; exact h45
                   simp [hno])
  refine v_iconst 1 dX7_leastStep_0 rfl ⟨by decide +kernel, by decide⟩ ?_
  refine v_istore3 2 dX7_leastStep_1 rfl (by decide) ?_
  exact L 7 0 _ (by decide) (by decide) rfl
set_option maxRecDepth 100000 in
set_option maxHeartbeats 4000000 in
def RtR (υ : Mem) (len : Nat) (r : List (Int × Int)) : Prop := υ 10 0 = (len : Int) ∧ ∀ (j : Nat) (x : Int × Int), r[j]? = some x → υ 58 (j : Int) = x.1 ∧ υ 59 (j : Int) = x.2
set_option maxRecDepth 100000 in
set_option maxHeartbeats 4000000 in
theorem X7_follow {d : Nat} {b : Nat → Int} {P : Int} {M len : Nat} {σ : Mem} {K : Mem → Prop} (hM : M < 64) (hb : ∀ s, 0 ≤ b s ∧ b s ≤ 12) (hA : ∀ t : Nat, t < 64 → t &&& M = t → σ 61 (t : Int) = b (M ^^^ t)) (hP : σ 62 0 = P) (hS : ∀ t : Nat, t < 64 → t &&& M = t → σ 63 (t : Int) = smS b P M t) (hlen : pop M 6 = (len : Int)) (hl6 : len ≤ 6) (hlt : sm b P 6 len M < 1000) (hd : 3 ≤ d) (hk0 : ∀ υ : Mem, (∀ c, c ≠ 10 → c ≠ 58 → c ≠ 59 → υ c = σ c) → RtR υ len (fpath b P 6 len M) → K υ) : Run mX7_follow d [.inr (some 10), .inl (M : Int)] σ (RV K) := by
  refine Run_of (ls := [.inr (some 10), .inl (M : Int), .inr none, .inr none, .inr none]) (by decide) (Nat.le_of_ble_eq_true rfl) rfl ?_
  have L : ∀ (k : Nat) (q s : Nat) (τ : Mem) (pre : List (Int × Int)) (z4 : AV), len - q < k → q ≤ len → s < 64 → s &&& M = s → pop (M ^^^ s) 6 = ((len - q : Nat) : Int) → (∀ c, c ≠ 10 → c ≠ 58 → c ≠ 59 → τ c = σ c) → τ 10 0 = (len : Int) → pre.length = q → (∀ (j : Nat) (x : Int × Int), pre[j]? = some x → τ 58 (j : Int) = x.1 ∧ τ 59 (j : Int) = x.2) → fpath b P 6 len M = pre ++ fpath b P 6 (len - q) (M ^^^ s) → sm b P 6 (len - q) (M ^^^ s) < 1000 → V mX7_follow d (RV K) 12 [.inr (some 10), .inl (M : Int), .inl (s : Int), .inl (q : Int), z4] [] τ := by
    intro k
    induction k with
    | zero => intros; omega
    | succ k ih =>
        intro q s τ pre z4 hk hq hs64 hsub hpop f1 f2 f3 f4 f5 f6
        refine v_iload3 13 dX7_follow_12 rfl ?_
        refine v_aload0 14 dX7_follow_13 rfl ?_
        refine v_getIe 17 0 ((len : Int)) dX7_follow_14 rfl fX7_9 rfl rfl rfl (f2) ?_
        refine v_icmp_ge 61 20 dX7_follow_17 rfl rfl (fun h17 => ?_) (fun h17 => ?_)
        · skip
          refine v_vretV dX7_follow_61 rfl ?_
          obtain rfl : q = len := by omega
          refine hk0 τ f1 ⟨f2, ?_⟩
          rw [Nat.sub_self] at f5
          have : fpath b P 6 q M = pre := by rw [f5]; exact List.append_nil _
          rw [this]
          exact f4
        · skip
          obtain ⟨m, hm⟩ : ∃ m, len - q = m + 1 := ⟨len - q - 1, by omega⟩
          rw [hm] at hpop f5 f6
          have hfm := fstep_mem hb f6
          have h61 := f1 61 (by decide) (by decide) (by decide)
          have h62 := f1 62 (by decide) (by decide) (by decide)
          have h63 := f1 63 (by decide) (by decide) (by decide)
          refine v_aload0 21 dX7_follow_20 rfl ?_
          refine v_iload2 22 dX7_follow_21 rfl ?_
          refine v_iload1 23 dX7_follow_22 rfl ?_
          refine v_cvI2 mX7_leastStep 26 dX7_follow_23 rfl kX7_97 rfl rfl (by omega) (Nat.le_of_ble_eq_true rfl) ?_
          refine X7_leastStep (b := b) (P := P) (m := m) hM hs64 hsub hb (by rw [h61]; exact hA) (by rw [h62]; exact hP) (by rw [h63]; exact hS) hpop (by omega) ?_
          have hfp9 : fpath b P 6 (m + 1) (M ^^^ s) = ((fstep b P 6 m (M ^^^ s) : Int), b (clr (M ^^^ s) (fstep b P 6 m (M ^^^ s)))) :: fpath b P 6 m (clr (M ^^^ s) (fstep b P 6 m (M ^^^ s))) := rfl
          rw [hfp9] at f5
          generalize fstep b P 6 m (M ^^^ s) = st at hfm f5 ⊢
          refine v_istore4 28 dX7_follow_26 rfl (by decide) ?_
          refine v_iload2 29 dX7_follow_28 rfl ?_
          refine v_iconst 30 dX7_follow_29 rfl ⟨by decide +kernel, by decide⟩ ?_
          refine v_iload4 32 dX7_follow_30 rfl ?_
          refine v_ishl 33 dX7_follow_32 rfl ?_
          refine v_ior 34 dX7_follow_33 rfl ?_
          have hst6 : st < 6 := (bl_mem.mp hfm.1).1
          have hor : s ||| 2 ^ st < 64 := Nat.or_lt_two_pow (n := 6) hs64 (Nat.pow_lt_pow_right (by omega) hst6)
          have hpw : 2 ^ st < 2 ^ 31 := Nat.pow_lt_pow_right (by omega) (by omega)
          have hrt := rt_in hM hs64 hsub hfm.1
          rw [bshl_one (by omega), bor_nat (by omega) hpw]
          obtain ⟨nx, hnx⟩ : ∃ nx, nx = s ||| 2 ^ st := ⟨_, rfl⟩
          rw [← hnx] at hrt hor ⊢
          refine v_istore2 35 dX7_follow_34 rfl (by decide) ?_
          refine v_aload0 36 dX7_follow_35 rfl ?_
          refine v_getR 39 dX7_follow_36 rfl fX7_15 rfl rfl ?_
          refine v_iload3 40 dX7_follow_39 rfl ?_
          refine v_iload4 42 dX7_follow_40 rfl ?_
          refine v_iast 43 dX7_follow_42 rfl rfl (⟨by omega, by omega⟩) ?_
          have f61 : (wr τ 58 (q : Int) (st : Int)) 61 = σ 61 := by rw [wr_ne (by decide)]; exact h61
          refine v_aload0 44 dX7_follow_43 rfl ?_
          refine v_getR 47 dX7_follow_44 rfl fX7_19 rfl rfl ?_
          refine v_iload3 48 dX7_follow_47 rfl ?_
          refine v_aload0 49 dX7_follow_48 rfl ?_
          refine v_getR 52 dX7_follow_49 rfl fX7_25 rfl rfl ?_
          refine v_iload2 53 dX7_follow_52 rfl ?_
          refine v_ialde 54 (b (clr (M ^^^ s) st)) dX7_follow_53 rfl rfl (⟨by omega, by omega⟩) (by rw [f61, hA nx hor hrt.2.2.2.1, hrt.2.2.2.2.1]) ?_
          refine v_iast 55 dX7_follow_54 rfl rfl (⟨by omega, by omega⟩) ?_
          refine v_iinc3 58 dX7_follow_55 rfl (by decide) rfl (⟨by omega, by omega⟩) ?_
          refine v_goto 12 dX7_follow_58 rfl ?_
          refine ih (q + 1) nx _ (pre ++ [((st : Int), b (clr (M ^^^ s) st))]) _ (by omega) (by omega) hor hrt.2.2.2.1 ?_ (fun c a b e => by rw [wr_ne e, wr_ne b]; exact f1 c a b e) (by rw [wr_ne (by decide), wr_ne (by decide)]; exact f2) (by simp [f3]) (fun j x hx => ?_) ?_ ?_
          · rw [show len - (q + 1) = m by omega]
            omega
          · by_cases ej : j = q
            · subst ej
              have hx2 : x = ((st : Int), b (clr (M ^^^ s) st)) := by
                rw [List.getElem?_append_right (by omega), f3, Nat.sub_self] at hx
                simpa using hx.symm
              rw [hx2]
              exact ⟨by rw [wr_ne (by decide), wr_eq], wr_eq⟩
            · have hjl : j < (pre ++ [((st : Int), b (clr (M ^^^ s) st))]).length := (List.getElem?_eq_some_iff.mp hx).1
              have hjq : j < q := by simp [f3] at hjl; omega
              rw [List.getElem?_append_left (by omega)] at hx
              have h58 : wr (wr τ 58 (q : Int) (st : Int)) 59 (q : Int) (b (clr (M ^^^ s) st)) 58 (j : Int) = τ 58 (j : Int) := by rw [wr_ne (by decide), wr_at, if_neg (by omega)]
              have h59 : wr (wr τ 58 (q : Int) (st : Int)) 59 (q : Int) (b (clr (M ^^^ s) st)) 59 (j : Int) = τ 59 (j : Int) := by rw [wr_at, if_neg (by omega), wr_ne (by decide)]
              rw [h58, h59]
              exact f4 j x hx
          · rw [show len - (q + 1) = m by omega, hrt.2.2.2.2.1, f5, List.append_assoc]
            rfl
          · rw [show len - (q + 1) = m by omega, hrt.2.2.2.2.1]
            exact hfm.2
  refine v_aload0 1 dX7_follow_0 rfl ?_
  refine v_iload1 2 dX7_follow_1 rfl ?_
  refine v_csI1 mJ6_bitCount_0f7a4 5 dX7_follow_2 rfl kX7_80 (by omega) (Nat.le_of_ble_eq_true rfl) ?_
  refine J6_bitCount_0f7a4 (by omega) ?_
  have hp12 : pop M 12 = (len : Int) := by rw [← hlen]; exact pop_ext (R := 6) hM 6
  rw [hp12]
  refine v_putI 8 0 dX7_follow_5 rfl pX7_9 rfl rfl rfl ?_
  refine v_iconst 9 dX7_follow_8 rfl ⟨by decide +kernel, by decide⟩ ?_
  refine v_istore2 10 dX7_follow_9 rfl (by decide) ?_
  refine v_iconst 11 dX7_follow_10 rfl ⟨by decide +kernel, by decide⟩ ?_
  refine v_istore3 12 dX7_follow_11 rfl (by decide) ?_
  refine L (len + 1) 0 0 _ [] _ (by omega) (by omega) (by decide) (Nat.zero_and M) ?_ (fun c a b e => by rw [wr_ne a]) wr_eq rfl (fun j x h => by cases h) ?_ ?_
  · rw [Nat.xor_zero, Nat.sub_zero]; exact hlen
  · rw [Nat.xor_zero, Nat.sub_zero]; rfl
  · rw [Nat.xor_zero, Nat.sub_zero]; exact hlt
set_option maxRecDepth 100000 in
set_option maxHeartbeats 4000000 in
def RtF (σ τ : Mem) : Prop := ∀ c : Nat, c ≠ 10 → (c < 58 ∨ 63 < c) → τ c = σ c
theorem RtF.frC {σ τ : Mem} (h : RtF σ τ) : FrC σ τ := fun c hc => h c (by omega) (by omega)
/-- the way of the class: the first of the least rows -/
def cw (σ : Mem) (n R : Nat) : List (Int × Int) := fpath (fun left => cbb σ n R (cmvb σ 11 n ^^^ left)) (pk (fun left => cbb σ n R (cmvb σ 11 n ^^^ left)) 6 (pop (cmvb σ 11 n) 6).toNat (cmvb σ 11 n)) 6 (pop (cmvb σ 11 n) 6).toNat (cmvb σ 11 n)
set_option maxRecDepth 100000 in
set_option maxHeartbeats 4000000 in
theorem X7_find {d : Nat} {n R F M len : Nat} {b : Nat → Int} {P : Int} {σ : Mem} {K : Mem → Prop} (hw : CW σ n R F) (hb5 : σ 3 1 ≠ -5) (hp : ∀ i : Int, 0 ≤ i → i < n → 0 ≤ σ 11 i ∧ σ 11 i ≤ 5) (hM : M < 64) (hbdef : b = fun left => cbb σ n R (M ^^^ left)) (hb : ∀ s, 0 ≤ b s ∧ b s ≤ 12) (hPdef : P = pk b 6 (pop M 6).toNat M) (hlen : pop M 6 = (len : Int)) (hlt : sm b P 6 len M < 1000) (hd : 8 ≤ d) (hk0 : ∀ υ : Mem, RtF σ υ → RtR υ len (fpath b P 6 len M) → K υ) : Run mX7_find d [.inr (some 10), .inr (some 11), .inl (M : Int)] σ (RV K) := by
  have hw0 := hw
  obtain ⟨⟨hn, hn6, hR, hR12, hF, hF6⟩, hru, hde, hwo, hli, hcb, hwf, hbd, hbc⟩ := hw0
  have hl6 := (pop_bnd M 6).2
  refine Run_of (ls := [.inr (some 10), .inr (some 11), .inl (M : Int), .inr none]) (by decide) (Nat.le_of_ble_eq_true rfl) rfl ?_
  have L : ∀ (k : Nat) (i : Nat) (τ : Mem), (M + 1) - i < k → i ≤ M + 1 → (∀ c, c ≠ 60 → c ≠ 61 → τ c = σ c) → (∀ t : Nat, t < i → t &&& M = t → τ 61 (t : Int) = cbb σ n R t) → V mX7_find d (RV K) 2 [.inr (some 10), .inr (some 11), .inl (M : Int), .inl (i : Int)] [] τ := by
    intro k
    induction k with
    | zero => intros; omega
    | succ k ih =>
        intro i τ hk hi f1 f2
        refine v_iload3 3 dX7_find_2 rfl ?_
        refine v_iload2 4 dX7_find_3 rfl ?_
        refine v_icmp_gt 33 7 dX7_find_4 rfl rfl (fun h4 => ?_) (fun h4 => ?_)
        · skip
          obtain rfl : i = M + 1 := by omega
          have hA : ∀ t : Nat, t < 64 → t &&& M = t → τ 61 (t : Int) = b (M ^^^ t) := fun t a e => by
            have hle := (rt_sub hM a).2.2.1 e
            rw [f2 t (by omega) e, hbdef]
            show _ = cbb σ n R (M ^^^ (M ^^^ t))
            rw [← Nat.xor_assoc, Nat.xor_self, Nat.zero_xor]
          refine v_aload0 34 dX7_find_33 rfl ?_
          refine v_iload2 35 dX7_find_34 rfl ?_
          refine v_cvV1 mX7_findPeaks 38 dX7_find_35 rfl kX7_50 rfl rfl (by omega) (Nat.le_of_ble_eq_true rfl) ?_
          refine X7_findPeaks (b := b) hM hb hA (by omega) (fun υ1 g1 g2 => ?_)
          refine v_aload0 39 dX7_find_38 rfl ?_
          refine v_iload2 40 dX7_find_39 rfl ?_
          refine v_cvV1 mX7_findSums 43 dX7_find_40 rfl kX7_54 rfl rfl (by omega) (Nat.le_of_ble_eq_true rfl) ?_
          have h62 : υ1 62 0 = P := by
            have := g2 0 (by decide) (Nat.zero_and M)
            rw [hPdef]
            unfold pkS at this
            rw [Nat.xor_zero] at this
            exact this
          refine X7_findSums (b := b) (P := P) hM hb (by rw [g1 61 (by decide)]; exact hA) h62 (by omega) (fun υ2 e1 e2 => ?_)
          refine v_aload0 44 dX7_find_43 rfl ?_
          refine v_iload2 45 dX7_find_44 rfl ?_
          refine v_cvV1 mX7_follow 48 dX7_find_45 rfl kX7_57 rfl rfl (by omega) (Nat.le_of_ble_eq_true rfl) ?_
          refine X7_follow (b := b) (P := P) (len := len) hM hb (by rw [e1 61 (by decide), g1 61 (by decide)]; exact hA) (by rw [e1 62 (by decide)]; exact h62) e2 hlen (by omega) hlt (by omega) (fun υ3 q1 q2 => ?_)
          refine v_vretV dX7_find_48 rfl ?_
          exact hk0 υ3 (fun c a e => by rw [q1 c a (by omega) (by omega), e1 c (by omega), g1 c (by omega)]; exact f1 c (by omega) (by omega)) q2
        · skip
          have hsi := rt_sub hM (show i < 64 by omega)
          have hfr : FrC σ τ := fun c hc => f1 c (by omega) (by omega)
          refine v_iload3 8 dX7_find_7 rfl ?_
          refine v_iload2 9 dX7_find_8 rfl ?_
          refine v_iconst 10 dX7_find_9 rfl ⟨by decide +kernel, by decide⟩ ?_
          refine v_ixor 11 dX7_find_10 rfl ?_
          refine v_iand 12 dX7_find_11 rfl ?_
          refine v_if_ne 27 15 dX7_find_12 rfl rfl (fun h12 => ?_) (fun h12 => ?_)
          · skip
            refine v_iinc3 30 dX7_find_27 rfl (by decide) rfl (⟨by omega, by omega⟩) ?_
            refine v_goto 2 dX7_find_30 rfl ?_
            first
              | (refine ih (i + 1) (wr υ 61 (i : Int) (cbb σ n R i)) (by omega) (by omega) (fun c a e => by rw [wr_ne e, g1 c a]; exact f1 c a e) (fun t a e => ?_)
                 rw [wr_at]
                 by_cases et : t = i
                 · rw [if_pos (by omega), et]
                 · rw [if_neg (by omega), g1 61 (by decide)]; exact f2 t (by omega) e)
              | (refine ih (i + 1) τ (by omega) (by omega) f1 (fun t a e => ?_)
                 by_cases et : t = i
                 · subst et; exact absurd (hsi.1.mpr e) h12
                 · exact f2 t (by omega) e)
          · skip
            refine v_aload0 16 dX7_find_15 rfl ?_
            refine v_getR 19 dX7_find_16 rfl fX7_25 rfl rfl ?_
            refine v_iload3 20 dX7_find_19 rfl ?_
            refine v_aload0 21 dX7_find_20 rfl ?_
            refine v_iload3 22 dX7_find_21 rfl ?_
            refine v_aload1 23 dX7_find_22 rfl ?_
            refine v_cvI2 mX7_brokenWith 26 dX7_find_23 rfl kX7_46 rfl rfl (by omega) (Nat.le_of_ble_eq_true rfl) ?_
            refine X7_brokenWith (hw.frC hfr) (by rw [hfr 3 (by omega)]; exact hb5) (by rw [hfr 11 (by omega)]; exact hp) (by omega) (by omega) (fun υ g1 => ?_)
            rw [cbb_frC hfr hcb hb5]
            refine v_iast 27 dX7_find_26 rfl rfl (⟨by omega, by omega⟩) ?_
            refine v_iinc3 30 dX7_find_27 rfl (by decide) rfl (⟨by omega, by omega⟩) ?_
            refine v_goto 2 dX7_find_30 rfl ?_
            first
              | (refine ih (i + 1) (wr υ 61 (i : Int) (cbb σ n R i)) (by omega) (by omega) (fun c a e => by rw [wr_ne e, g1 c a]; exact f1 c a e) (fun t a e => ?_)
                 rw [wr_at]
                 by_cases et : t = i
                 · rw [if_pos (by omega), et]
                 · rw [if_neg (by omega), g1 61 (by decide)]; exact f2 t (by omega) e)
              | (refine ih (i + 1) τ (by omega) (by omega) f1 (fun t a e => ?_)
                 by_cases et : t = i
                 · subst et; exact absurd (hsi.1.mpr e) h12
                 · exact f2 t (by omega) e)
  refine v_iconst 1 dX7_find_0 rfl ⟨by decide +kernel, by decide⟩ ?_
  refine v_istore3 2 dX7_find_1 rfl (by decide) ?_
  exact L (M + 2) 0 σ (by omega) (by omega) (fun _ _ _ => rfl) (fun t a => by omega)
set_option maxRecDepth 100000 in
set_option maxHeartbeats 4000000 in
theorem X11_way {d : Nat} {n R F : Nat} {ii : Int} {σ : Mem} {K : Int → Mem → Prop} (hw : CW σ n R F) (hp : ∀ i : Int, 0 ≤ i → i < n → 0 ≤ σ 11 i ∧ σ 11 i ≤ 5) (hd : 10 ≤ d) (o1 : σ 3 1 = -5 → K (-3) σ) (o2 : σ 3 1 ≠ -5 → ∀ υ : Mem, FrC σ υ → K (if 0 ≤ ii ∧ ii < ((cw σ n R).length : Int) then ((cw σ n R).getD ii.toNat (0, 0)).1 else -5) υ) : Run mX11_way d [.inr (some 0), .inl ii] σ (RI K) := by
  have hw0 := hw
  obtain ⟨⟨hn, hn6, hR, hR12, hF, hF6⟩, hru, hde, hwo, hli, hcb, hwf, hbd, hbc⟩ := hw0
  have hmb : cmvb σ 11 n < 2 ^ n := bitsN_lt _ _
  have hm2 : 2 ^ n ≤ 2 ^ 6 := Nat.pow_le_pow_right (by omega) hn6
  have hm3 : (2 : Nat) ^ 6 = 64 := by decide
  have hpl := pop_bnd (cmvb σ 11 n) 6
  have hlen : pop (cmvb σ 11 n) 6 = ((pop (cmvb σ 11 n) 6).toNat : Int) := by omega
  have hbb : ∀ s, 0 ≤ (fun left => cbb σ n R (cmvb σ 11 n ^^^ left)) s ∧ (fun left => cbb σ n R (cmvb σ 11 n ^^^ left)) s ≤ 12 := fun s => cbb_bnd _ _ _ _
  have hwr := wres_path hbb (n := 6) (m := (pop (cmvb σ 11 n) 6).toNat) (left := cmvb σ 11 n) (by omega) hlen
  refine Run_of (ls := [.inr (some 0), .inl ii]) (by decide) (Nat.le_of_ble_eq_true rfl) rfl ?_
  refine v_aload0 1 dX11_way_0 rfl ?_
  refine v_getR 4 dX11_way_1 rfl fX11_26 rfl rfl ?_
  refine v_cvI0 mX5_hasBase 7 dX11_way_4 rfl kX11_238 rfl rfl (by omega) (Nat.le_of_ble_eq_true rfl) ?_
  refine X5_hasBase (fun h4 => ?_) (fun h4 => ?_)
  · skip
    refine v_if_ne 13 10 dX11_way_7 rfl rfl (fun _ => ?_) (fun h => absurd (by decide) h)
    refine v_aload0 14 dX11_way_13 rfl ?_
    refine v_getR 17 dX11_way_14 rfl fX11_81 rfl rfl ?_
    refine v_aload0 18 dX11_way_17 rfl ?_
    refine v_getR 21 dX11_way_18 rfl fX11_85 rfl rfl ?_
    refine v_aload0 22 dX11_way_21 rfl ?_
    refine v_getR 25 dX11_way_22 rfl fX11_42 rfl rfl ?_
    refine v_aload0 26 dX11_way_25 rfl ?_
    refine v_getR 29 dX11_way_26 rfl fX11_85 rfl rfl ?_
    refine v_cvI1 mX9_movedBits 32 dX11_way_29 rfl kX11_199 rfl rfl (by omega) (Nat.le_of_ble_eq_true rfl) ?_
    refine X9_movedBits hw rfl (by omega) ?_
    refine v_cvV2 mX7_find 35 dX11_way_32 rfl kX11_242 rfl rfl (by omega) (Nat.le_of_ble_eq_true rfl) ?_
    refine X7_find hw h4 hp (by omega) rfl hbb rfl hlen hwr.2 (by omega) (fun υ e1 e2 => ?_)
    have e2 : RtR υ (pop (cmvb σ 11 n) 6).toNat (cw σ n R) := e2
    have hcl : (cw σ n R).length = (pop (cmvb σ 11 n) 6).toNat := fpath_len _ _
    rw [← hcl] at e2
    have hcl6 : (cw σ n R).length ≤ 6 := by omega
    refine v_iload1 36 dX11_way_35 rfl ?_
    refine v_iconst 37 dX11_way_36 rfl ⟨by decide +kernel, by decide⟩ ?_
    refine v_aload0 38 dX11_way_37 rfl ?_
    refine v_getR 41 dX11_way_38 rfl fX11_81 rfl rfl ?_
    refine v_getIe 44 0 (((cw σ n R).length : Int)) dX11_way_41 rfl fX11_245 rfl rfl rfl (e2.1) ?_
    refine v_iconst 45 dX11_way_44 rfl ⟨by decide +kernel, by decide⟩ ?_
    refine v_isub 46 dX11_way_45 rfl (⟨by omega, by omega⟩) ?_
    refine v_csI3 mX11_within 49 dX11_way_46 rfl kX11_93 (by omega) (Nat.le_of_ble_eq_true rfl) ?_
    refine X11_within (fun h22 => ?_) (fun h22 => ?_)
    · skip
      refine v_if_eq 64 52 dX11_way_49 rfl rfl (fun h => absurd h (by decide)) (fun _ => ?_)
      refine v_aload0 53 dX11_way_52 rfl ?_
      refine v_getR 56 dX11_way_53 rfl fX11_81 rfl rfl ?_
      refine v_getR 59 dX11_way_56 rfl fX11_248 rfl rfl ?_
      refine v_iload1 60 dX11_way_59 rfl ?_
      refine v_ialde 61 (((cw σ n R).getD ii.toNat (0, 0)).1) dX11_way_60 rfl rfl (⟨by omega, by omega⟩) (by
  have hg : (cw σ n R)[ii.toNat]? = some ((cw σ n R).getD ii.toNat (0, 0)) := by
    rw [List.getD_eq_getElem?_getD, List.getElem?_eq_getElem (by omega)]; rfl
  have := (e2.2 ii.toNat _ hg).1
  rw [Int.toNat_of_nonneg (by omega)] at this
  exact this) ?_
      refine v_goto 66 dX11_way_61 rfl ?_
      refine v_iretI dX11_way_66 rfl ?_
      first
        | exact o1 (by omega)
        | (have := o2 h4 υ e1.frC
           first
             | (rw [if_pos (by omega)] at this; exact this)
             | (rw [if_neg (by omega)] at this; exact this))
    · skip
      refine v_if_eq 64 52 dX11_way_49 rfl rfl (fun _ => ?_) (fun h => absurd (by decide) h)
      refine v_bipush 66 dX11_way_64 rfl ⟨by decide +kernel, by decide⟩ ?_
      refine v_iretI dX11_way_66 rfl ?_
      first
        | exact o1 (by omega)
        | (have := o2 h4 υ e1.frC
           first
             | (rw [if_pos (by omega)] at this; exact this)
             | (rw [if_neg (by omega)] at this; exact this))
  · skip
    refine v_if_ne 13 10 dX11_way_7 rfl rfl (fun h => absurd h (by decide)) (fun _ => ?_)
    refine v_bipush 12 dX11_way_10 rfl ⟨by decide +kernel, by decide⟩ ?_
    refine v_iretI dX11_way_12 rfl ?_
    first
      | exact o1 (by omega)
      | (have := o2 h4 υ e1.frC
         first
           | (rw [if_pos (by omega)] at this; exact this)
           | (rw [if_neg (by omega)] at this; exact this))
set_option maxRecDepth 100000 in
set_option maxHeartbeats 4000000 in
theorem X11_broken {d : Nat} {n R F : Nat} {ii : Int} {σ : Mem} {K : Int → Mem → Prop} (hw : CW σ n R F) (hp : ∀ i : Int, 0 ≤ i → i < n → 0 ≤ σ 11 i ∧ σ 11 i ≤ 5) (hd : 10 ≤ d) (o1 : σ 3 1 = -5 → K (-3) σ) (o2 : σ 3 1 ≠ -5 → ∀ υ : Mem, FrC σ υ → K (if 0 ≤ ii ∧ ii < ((cw σ n R).length : Int) then ((cw σ n R).getD ii.toNat (0, 0)).2 else -5) υ) : Run mX11_broken d [.inr (some 0), .inl ii] σ (RI K) := by
  have hw0 := hw
  obtain ⟨⟨hn, hn6, hR, hR12, hF, hF6⟩, hru, hde, hwo, hli, hcb, hwf, hbd, hbc⟩ := hw0
  have hmb : cmvb σ 11 n < 2 ^ n := bitsN_lt _ _
  have hm2 : 2 ^ n ≤ 2 ^ 6 := Nat.pow_le_pow_right (by omega) hn6
  have hm3 : (2 : Nat) ^ 6 = 64 := by decide
  have hpl := pop_bnd (cmvb σ 11 n) 6
  have hlen : pop (cmvb σ 11 n) 6 = ((pop (cmvb σ 11 n) 6).toNat : Int) := by omega
  have hbb : ∀ s, 0 ≤ (fun left => cbb σ n R (cmvb σ 11 n ^^^ left)) s ∧ (fun left => cbb σ n R (cmvb σ 11 n ^^^ left)) s ≤ 12 := fun s => cbb_bnd _ _ _ _
  have hwr := wres_path hbb (n := 6) (m := (pop (cmvb σ 11 n) 6).toNat) (left := cmvb σ 11 n) (by omega) hlen
  refine Run_of (ls := [.inr (some 0), .inl ii]) (by decide) (Nat.le_of_ble_eq_true rfl) rfl ?_
  refine v_aload0 1 dX11_broken_0 rfl ?_
  refine v_getR 4 dX11_broken_1 rfl fX11_26 rfl rfl ?_
  refine v_cvI0 mX5_hasBase 7 dX11_broken_4 rfl kX11_238 rfl rfl (by omega) (Nat.le_of_ble_eq_true rfl) ?_
  refine X5_hasBase (fun h4 => ?_) (fun h4 => ?_)
  · skip
    refine v_if_ne 13 10 dX11_broken_7 rfl rfl (fun _ => ?_) (fun h => absurd (by decide) h)
    refine v_aload0 14 dX11_broken_13 rfl ?_
    refine v_getR 17 dX11_broken_14 rfl fX11_81 rfl rfl ?_
    refine v_aload0 18 dX11_broken_17 rfl ?_
    refine v_getR 21 dX11_broken_18 rfl fX11_85 rfl rfl ?_
    refine v_aload0 22 dX11_broken_21 rfl ?_
    refine v_getR 25 dX11_broken_22 rfl fX11_42 rfl rfl ?_
    refine v_aload0 26 dX11_broken_25 rfl ?_
    refine v_getR 29 dX11_broken_26 rfl fX11_85 rfl rfl ?_
    refine v_cvI1 mX9_movedBits 32 dX11_broken_29 rfl kX11_199 rfl rfl (by omega) (Nat.le_of_ble_eq_true rfl) ?_
    refine X9_movedBits hw rfl (by omega) ?_
    refine v_cvV2 mX7_find 35 dX11_broken_32 rfl kX11_242 rfl rfl (by omega) (Nat.le_of_ble_eq_true rfl) ?_
    refine X7_find hw h4 hp (by omega) rfl hbb rfl hlen hwr.2 (by omega) (fun υ e1 e2 => ?_)
    have e2 : RtR υ (pop (cmvb σ 11 n) 6).toNat (cw σ n R) := e2
    have hcl : (cw σ n R).length = (pop (cmvb σ 11 n) 6).toNat := fpath_len _ _
    rw [← hcl] at e2
    have hcl6 : (cw σ n R).length ≤ 6 := by omega
    refine v_iload1 36 dX11_broken_35 rfl ?_
    refine v_iconst 37 dX11_broken_36 rfl ⟨by decide +kernel, by decide⟩ ?_
    refine v_aload0 38 dX11_broken_37 rfl ?_
    refine v_getR 41 dX11_broken_38 rfl fX11_81 rfl rfl ?_
    refine v_getIe 44 0 (((cw σ n R).length : Int)) dX11_broken_41 rfl fX11_245 rfl rfl rfl (e2.1) ?_
    refine v_iconst 45 dX11_broken_44 rfl ⟨by decide +kernel, by decide⟩ ?_
    refine v_isub 46 dX11_broken_45 rfl (⟨by omega, by omega⟩) ?_
    refine v_csI3 mX11_within 49 dX11_broken_46 rfl kX11_93 (by omega) (Nat.le_of_ble_eq_true rfl) ?_
    refine X11_within (fun h22 => ?_) (fun h22 => ?_)
    · skip
      refine v_if_eq 64 52 dX11_broken_49 rfl rfl (fun h => absurd h (by decide)) (fun _ => ?_)
      refine v_aload0 53 dX11_broken_52 rfl ?_
      refine v_getR 56 dX11_broken_53 rfl fX11_81 rfl rfl ?_
      refine v_getR 59 dX11_broken_56 rfl fX11_251 rfl rfl ?_
      refine v_iload1 60 dX11_broken_59 rfl ?_
      refine v_ialde 61 (((cw σ n R).getD ii.toNat (0, 0)).2) dX11_broken_60 rfl rfl (⟨by omega, by omega⟩) (by
  have hg : (cw σ n R)[ii.toNat]? = some ((cw σ n R).getD ii.toNat (0, 0)) := by
    rw [List.getD_eq_getElem?_getD, List.getElem?_eq_getElem (by omega)]; rfl
  have := (e2.2 ii.toNat _ hg).2
  rw [Int.toNat_of_nonneg (by omega)] at this
  exact this) ?_
      refine v_goto 66 dX11_broken_61 rfl ?_
      refine v_iretI dX11_broken_66 rfl ?_
      first
        | exact o1 (by omega)
        | (have := o2 h4 υ e1.frC
           first
             | (rw [if_pos (by omega)] at this; exact this)
             | (rw [if_neg (by omega)] at this; exact this))
    · skip
      refine v_if_eq 64 52 dX11_broken_49 rfl rfl (fun _ => ?_) (fun h => absurd (by decide) h)
      refine v_bipush 66 dX11_broken_64 rfl ⟨by decide +kernel, by decide⟩ ?_
      refine v_iretI dX11_broken_66 rfl ?_
      first
        | exact o1 (by omega)
        | (have := o2 h4 υ e1.frC
           first
             | (rw [if_pos (by omega)] at this; exact this)
             | (rw [if_neg (by omega)] at this; exact this))
  · skip
    refine v_if_ne 13 10 dX11_broken_7 rfl rfl (fun h => absurd h (by decide)) (fun _ => ?_)
    refine v_bipush 12 dX11_broken_10 rfl ⟨by decide +kernel, by decide⟩ ?_
    refine v_iretI dX11_broken_12 rfl ?_
    first
      | exact o1 (by omega)
      | (have := o2 h4 υ e1.frC
         first
           | (rw [if_pos (by omega)] at this; exact this)
           | (rw [if_neg (by omega)] at this; exact this))
