set_option maxRecDepth 100000 in
set_option maxHeartbeats 4000000 in
/-- the bits of a, the lowest first: of two sets of one size the one of the greater number comes first -/
def rvj (a : Nat) : Nat → Nat
  | 0 => 0
  | j + 1 => 2 * rvj a j + (if a.testBit j then 1 else 0)
theorem rv_eq {a b : Nat} : ∀ {k : Nat}, (∀ i, i < k → a.testBit i = b.testBit i) → rvj a k = rvj b k
  | 0, _ => rfl
  | k + 1, h => by
    show 2 * rvj a k + _ = 2 * rvj b k + _
    rw [rv_eq (fun i hi => h i (by omega)), h k (by omega)]
theorem rv_gt {a b : Nat} {k : Nat} (h : rvj b k < rvj a k) : ∀ m, rvj b (k + m) < rvj a (k + m)
  | 0 => h
  | m + 1 => by
    have := rv_gt h m
    show 2 * rvj b (k + m) + (if b.testBit (k + m) then 1 else 0) < 2 * rvj a (k + m) + (if a.testBit (k + m) then 1 else 0)
    split <;> split <;> omega
theorem rv_inj {a b : Nat} : ∀ {k : Nat}, rvj a k = rvj b k → ∀ i, i < k → a.testBit i = b.testBit i
  | 0, _, i, hi => by omega
  | k + 1, h, i, hi => by
    have h' : 2 * rvj a k + (if a.testBit k then 1 else 0) = 2 * rvj b k + (if b.testBit k then 1 else 0) := h
    have e1 : rvj a k = rvj b k := by split at h' <;> split at h' <;> omega
    by_cases e : i = k
    · subst e
      rw [e1] at h'
      cases ha : a.testBit i <;> cases hb : b.testBit i <;> simp [ha, hb] at h' ⊢
    · exact rv_inj e1 i (by omega)
theorem rv_inj12 {a b : Nat} (ha : a < 4096) (hb : b < 4096) (h : rvj a 12 = rvj b 12) : a = b := by
  apply Nat.eq_of_testBit_eq
  intro i
  by_cases hi : i < 12
  · exact rv_inj h i hi
  · have e : 4096 ≤ 2 ^ i := Nat.le_trans (by decide : 4096 ≤ 2 ^ 12) (Nat.pow_le_pow_right (by omega) (by omega))
    rw [Nat.testBit_lt_two_pow (by omega), Nat.testBit_lt_two_pow (by omega)]
theorem lowB0 : (List.range 4096).all (fun x => x == 0 || (List.range 12).any (fun k => x.testBit k && (List.range k).all (fun i => !x.testBit i) && decide (band (x : Int) (-(x : Int)) = ((2 ^ k : Nat) : Int)))) = true := by decide +kernel
theorem lowB {x : Nat} (hx : x < 4096) (h0 : x ≠ 0) : ∃ k, k < 12 ∧ x.testBit k = true ∧ (∀ i, i < k → x.testBit i = false) ∧ band (x : Int) (-(x : Int)) = ((2 ^ k : Nat) : Int) := by
  have h := List.all_eq_true.mp lowB0 x (List.mem_range.mpr hx)
  rw [Bool.or_eq_true] at h
  rcases h with h | h
  · exact absurd (by simpa using h) h0
  · obtain ⟨k, hk, h⟩ := List.any_eq_true.mp h
    rw [Bool.and_eq_true, Bool.and_eq_true] at h
    exact ⟨k, List.mem_range.mp hk, h.1.1, fun i hi => by simpa using List.all_eq_true.mp h.1.2 i (List.mem_range.mpr hi), of_decide_eq_true h.2⟩
theorem band_assoc (a b c : Int) : band (band a b) c = band a (band b c) := by
  unfold band
  rw [Int32.ofInt_toInt, Int32.ofInt_toInt, Int32.and_assoc]
theorem isB_iff {a b : Nat} (ha : a < 4096) (hb : b < 4096) : isB a b ↔ rvj b 12 < rvj a 12 := by
  have hx : bxor (a : Int) (b : Int) = ((a ^^^ b : Nat) : Int) := bxor_nat (by omega) (by omega)
  have hx2 : a ^^^ b < 2 ^ 12 := Nat.xor_lt_two_pow (by omega) (by omega)
  unfold isB
  rw [hx, band_assoc]
  by_cases h0 : a ^^^ b = 0
  · have e : a = b := by
      apply Nat.eq_of_testBit_eq
      intro i
      have : (a ^^^ b).testBit i = false := by rw [h0]; exact Nat.zero_testBit i
      rw [Nat.testBit_xor] at this
      cases h1 : a.testBit i <;> cases h2 : b.testBit i <;> simp [h1, h2] at this ⊢
    subst e
    rw [h0]
    constructor
    · intro h
      exfalso
      apply h
      have : band ((0 : Nat) : Int) (-((0 : Nat) : Int)) = ((0 : Nat) : Int) := by decide +kernel
      rw [this, band_nat (by omega)]
      simp
    · intro h
      omega
  · obtain ⟨k, hk, h1, h2, h3⟩ := lowB (by omega : a ^^^ b < 4096) h0
    rw [h3, band_nat (by omega)]
    rw [Nat.testBit_xor] at h1
    have hlow : ∀ i, i < k → a.testBit i = b.testBit i := fun i hi => by
      have := h2 i hi
      rw [Nat.testBit_xor] at this
      cases q1 : a.testBit i <;> cases q2 : b.testBit i <;> simp [q1, q2] at this ⊢
    have e0 := rv_eq hlow
    have e12 : k + 1 + (11 - k) = 12 := by omega
    cases hak : a.testBit k
    · have hbk : b.testBit k = true := by rw [hak] at h1; simpa using h1
      have hlt : rvj a (k + 1) < rvj b (k + 1) := by
        show 2 * rvj a k + (if a.testBit k then 1 else 0) < 2 * rvj b k + (if b.testBit k then 1 else 0)
        rw [hak, hbk, e0]
        simp
      have hlt2 := rv_gt hlt (11 - k)
      rw [e12] at hlt2
      have hz : a &&& 2 ^ k = 0 := by
        apply Nat.eq_of_testBit_eq
        intro i
        rw [Nat.testBit_and, Nat.testBit_two_pow, Nat.zero_testBit]
        by_cases e : k = i
        · subst e; rw [hak]; rfl
        · simp [e]
      rw [hz]
      simp
      omega
    · have hbk : b.testBit k = false := by rw [hak] at h1; simpa using h1
      have hlt : rvj b (k + 1) < rvj a (k + 1) := by
        show 2 * rvj b k + (if b.testBit k then 1 else 0) < 2 * rvj a k + (if a.testBit k then 1 else 0)
        rw [hak, hbk, e0]
        simp
      have hlt2 := rv_gt hlt (11 - k)
      rw [e12] at hlt2
      have hz : a &&& 2 ^ k ≠ 0 := by
        intro q
        have : (a &&& 2 ^ k).testBit k = true := by rw [Nat.testBit_and, Nat.testBit_two_pow, hak]; simp
        rw [q, Nat.zero_testBit] at this
        cases this
      constructor
      · intro _; exact hlt2
      · intro _ q
        exact hz (by omega)
theorem pop_ext {t R : Nat} (h : t < 2 ^ R) : ∀ m, pop t (R + m) = pop t R
  | 0 => rfl
  | m + 1 => by
    show sumI (fun i => one (t.testBit i.toNat)) (R + m) + one (t.testBit ((R + m : Nat) : Int).toNat) = _
    have ih := pop_ext h m
    unfold pop at ih ⊢
    rw [ih, Int.toNat_natCast, Nat.testBit_lt_two_pow (Nat.lt_of_lt_of_le h (Nat.pow_le_pow_right (by omega) (by omega)))]
    simp [one]
theorem pop_le {t R : Nat} (hR : R ≤ 12) (h : t < 2 ^ R) : pop t 12 ≤ R := by
  have h1 := pop_ext h (12 - R)
  have h2 := (pop_bnd t R).2
  have e : R + (12 - R) = 12 := by omega
  rw [e] at h1
  omega
/-- the number of the set's bit that is at place ii -/
def nbF (s : Nat) (ii : Int) : Nat → Nat → Int → Int
  | 0, _, _ => -5
  | f + 1, r, c => if s.testBit r then (if c = ii then (r : Int) else nbF s ii f (r + 1) (c + 1)) else nbF s ii f (r + 1) c
def clm (σ : Mem) (s : Nat) : Prop := ∀ k : Nat, k < 4096 → σ 90 (k : Int) = 1 → k &&& s ≠ 0
/-- the clash: the least set for which P holds -/
def CMin (P : Nat → Prop) (R s : Nat) : Prop := s < 2 ^ R ∧ P s ∧ ∀ t, t < 2 ^ R → P t → pop s 12 < pop t 12 ∨ (pop s 12 = pop t 12 ∧ rvj t 12 ≤ rvj s 12)
theorem CMin.uniq {P : Nat → Prop} {R s t : Nat} (hR : R ≤ 12) (h1 : CMin P R s) (h2 : CMin P R t) : s = t := by
  have hp : 2 ^ R ≤ 4096 := Nat.le_trans (Nat.pow_le_pow_right (by omega) hR) (by decide)
  have a := h1.2.2 t h2.1 h2.2.1
  have b := h2.2.2 s h1.1 h1.2.1
  exact rv_inj12 (by have := h1.1; omega) (by have := h2.1; omega) (by omega)
def rcl (σ : Mem) (n R s : Nat) : Prop := ∀ l, l ∈ rEn σ n → rAlw σ (pf l) n → rbrk σ (pf l) n R &&& s ≠ 0
set_option maxRecDepth 100000 in
set_option maxHeartbeats 4000000 in
theorem X12_isClash {d : Nat} {s : Nat} {σ : Mem} {K : Int → Mem → Prop} (hm : ∀ j : Int, 0 ≤ j → j < 4096 → σ 90 j = 0 ∨ σ 90 j = 1) (hs : s < 4096) (ht : clm σ s → K 1 σ) (hf : ¬ clm σ s → K 0 σ) : Run mX12_isClash d [.inr (some 64), .inl (s : Int)] σ (RI K) := by
  refine Run_of (ls := [.inr (some 64), .inl (s : Int), .inr none]) (by decide) (Nat.le_of_ble_eq_true rfl) rfl ?_
  have L : ∀ (k : Nat) (i : Nat), 4096 - i < k → i ≤ 4096 → (∀ q : Nat, q < i → σ 90 (q : Int) = 1 → q &&& s ≠ 0) → V mX12_isClash d (RI K) 2 [.inr (some 64), .inl (s : Int), .inl (i : Int)] [] σ := by
    intro k
    induction k with
    | zero => intros; omega
    | succ k ih =>
        intro i hk hi hno
        refine v_iload2 3 dX12_isClash_2 rfl ?_
        refine v_sipush 6 dX12_isClash_3 rfl ⟨by decide +kernel, by decide⟩ ?_
        refine v_icmp_ge 32 9 dX12_isClash_6 rfl rfl (fun h6 => ?_) (fun h6 => ?_)
        · skip
          refine v_iconst 33 dX12_isClash_32 rfl ⟨by decide +kernel, by decide⟩ ?_
          refine v_zretI dX12_isClash_33 rfl (Or.inr rfl) ?_
          exact ht (fun q a b => hno q (by omega) b)
        · skip
          have hm1 := hm (i : Int) (by omega) (by omega)
          refine v_aload0 10 dX12_isClash_9 rfl ?_
          refine v_getR 13 dX12_isClash_10 rfl fX12_89 rfl rfl ?_
          refine v_iload2 14 dX12_isClash_13 rfl ?_
          refine v_zald 15 dX12_isClash_14 rfl rfl (⟨by omega, by omega⟩) ?_
          refine v_if_eq 26 18 dX12_isClash_15 rfl rfl (fun h15 => ?_) (fun h15 => ?_)
          · skip
            refine v_iinc2 29 dX12_isClash_26 rfl (by decide) rfl (⟨by omega, by omega⟩) ?_
            refine v_goto 2 dX12_isClash_29 rfl ?_
            refine ih (i + 1) (by omega) (by omega) (fun q a b => ?_)
            by_cases e : q = i
            · subst e
              first | (exfalso; omega) | (intro h9; omega)
            · exact hno q (by omega) b
          · skip
            refine v_iload2 19 dX12_isClash_18 rfl ?_
            refine v_iload1 20 dX12_isClash_19 rfl ?_
            refine v_iand 21 dX12_isClash_20 rfl ?_
            rw [band_nat (by omega : i < 2 ^ 31)]
            refine v_if_ne 26 24 dX12_isClash_21 rfl rfl (fun h21 => ?_) (fun h21 => ?_)
            · skip
              refine v_iinc2 29 dX12_isClash_26 rfl (by decide) rfl (⟨by omega, by omega⟩) ?_
              refine v_goto 2 dX12_isClash_29 rfl ?_
              refine ih (i + 1) (by omega) (by omega) (fun q a b => ?_)
              by_cases e : q = i
              · subst e
                first | (exfalso; omega) | (intro h9; omega)
              · exact hno q (by omega) b
            · skip
              refine v_iconst 25 dX12_isClash_24 rfl ⟨by decide +kernel, by decide⟩ ?_
              refine v_zretI dX12_isClash_25 rfl (Or.inl rfl) ?_
              exact hf (fun q => q i (by omega) (by omega) (by omega))
  refine v_iconst 1 dX12_isClash_0 rfl ⟨by decide +kernel, by decide⟩ ?_
  refine v_istore2 2 dX12_isClash_1 rfl (by decide) ?_
  exact L 4097 0 (by decide) (by decide) (fun q a b => by omega)
set_option maxRecDepth 100000 in
set_option maxHeartbeats 4000000 in
theorem X12_leastClash {d : Nat} {R : Nat} {size : Int} {σ : Mem} {K : Int → Mem → Prop} (hm : ∀ j : Int, 0 ≤ j → j < 4096 → σ 90 j = 0 ∨ σ 90 j = 1) (hR : σ 64 12 = R) (hR12 : R ≤ 12) (hd : 2 ≤ d) (o1 : (∀ t, t < 2 ^ R → ¬ (pop t 12 = size ∧ clm σ t)) → K (-1) σ) (o2 : ∀ s : Nat, s < 2 ^ R → (pop s 12 = size ∧ clm σ s) → (∀ t, t < 2 ^ R → (pop t 12 = size ∧ clm σ t) → rvj t 12 ≤ rvj s 12) → K (s : Int) σ) : Run mX12_leastClash d [.inr (some 64), .inl size] σ (RI K) := by
  have hp2 : 2 ^ R ≤ 4096 := Nat.le_trans (Nat.pow_le_pow_right (by omega) hR12) (by decide)
  have hp1 : 0 < 2 ^ R := Nat.pow_pos (by omega)
  refine Run_of (ls := [.inr (some 64), .inl size, .inr none, .inr none]) (by decide) (Nat.le_of_ble_eq_true rfl) rfl ?_
  have L : ∀ (k : Nat) (i : Nat) (lv : Int), 2 ^ R - i < k → i ≤ 2 ^ R → (((lv : Int) = -1 ∧ ∀ t, t < i → ¬ (pop t 12 = size ∧ clm σ t)) ∨ ∃ s : Nat, s < i ∧ lv = (s : Int) ∧ (pop s 12 = size ∧ clm σ s) ∧ ∀ t, t < i → (pop t 12 = size ∧ clm σ t) → rvj t 12 ≤ rvj s 12) → V mX12_leastClash d (RI K) 4 [.inr (some 64), .inl size, .inl lv, .inl (i : Int)] [] σ := by
    intro k
    induction k with
    | zero => intros; omega
    | succ k ih =>
        intro i lv hk hi hl
        refine v_iload3 5 dX12_leastClash_4 rfl ?_
        refine v_iconst 6 dX12_leastClash_5 rfl ⟨by decide +kernel, by decide⟩ ?_
        refine v_aload0 7 dX12_leastClash_6 rfl ?_
        refine v_getIe 10 12 (R) dX12_leastClash_7 rfl fX12_114 rfl rfl rfl (hR) ?_
        refine v_ishl 11 dX12_leastClash_10 rfl ?_
        rw [bshl_one (by omega : R < 31)]
        refine v_icmp_ge 50 14 dX12_leastClash_11 rfl rfl (fun h11 => ?_) (fun h11 => ?_)
        · skip
          refine v_iload2 51 dX12_leastClash_50 rfl ?_
          refine v_iretI dX12_leastClash_51 rfl ?_
          obtain rfl : i = 2 ^ R := by omega
          rcases hl with ⟨q1, q2⟩ | ⟨s, q1, q2, q3, q4⟩
          · rw [q1]; exact o1 q2
          · rw [q2]; exact o2 s q1 q3 q4
        · skip
          have hi9 : i < 2 ^ R := by clear hl; omega
          have hk9 : 2 ^ R - (i + 1) < k := by clear hl; omega
          refine v_iload3 15 dX12_leastClash_14 rfl ?_
          refine v_csI1 mX12_ones 18 dX12_leastClash_15 rfl kX12_158 (by omega) (Nat.le_of_ble_eq_true rfl) ?_
          refine X12_ones (by omega) ?_
          refine v_iload1 19 dX12_leastClash_18 rfl ?_
          refine v_icmp_ne 44 22 dX12_leastClash_19 rfl rfl (fun h19 => ?_) (fun h19 => ?_)
          · skip
            refine v_iinc3 47 dX12_leastClash_44 rfl (by decide) rfl (⟨by omega, by omega⟩) ?_
            refine v_goto 4 dX12_leastClash_47 rfl ?_
            exact ih (i + 1) _ hk9 hi9 (by
              rcases hl with ⟨q1, q2⟩ | ⟨s, q1, q2, q3, q4⟩
              · first
                  | (exfalso; omega)
                  | (refine Or.inl ⟨q1, fun t a b => ?_⟩
                     by_cases e : t = i
                     · subst e; first | exact h19 b.1 | exact h24 b.2
                     · exact q2 t (by omega) b)
                  | (refine Or.inr ⟨i, by omega, rfl, ⟨by omega, h24⟩, fun t a b => ?_⟩
                     by_cases e : t = i
                     · subst e; exact Nat.le_refl _
                     · exact absurd b (q2 t (by omega)))
              · try (have e98 : s9 = s := by omega
                     subst e98)
                first
                  | (exfalso; omega)
                  | (refine Or.inr ⟨_, by omega, q2, q3, fun t a b => ?_⟩
                     by_cases e : t = i
                     · subst e; first | exact absurd b.1 h19 | exact absurd b.2 h24 | omega
                     · exact q4 t (by omega) b)
                  | (refine Or.inr ⟨i, by omega, rfl, ⟨by omega, h24⟩, fun t a b => ?_⟩
                     by_cases e : t = i
                     · subst e; exact Nat.le_refl _
                     · have := q4 t (by omega) b; omega))
          · skip
            refine v_aload0 23 dX12_leastClash_22 rfl ?_
            refine v_iload3 24 dX12_leastClash_23 rfl ?_
            refine v_cvI1 mX12_isClash 27 dX12_leastClash_24 rfl kX12_181 rfl rfl (by omega) (Nat.le_of_ble_eq_true rfl) ?_
            refine X12_isClash hm (by omega) (fun h24 => ?_) (fun h24 => ?_)
            · skip
              refine v_if_eq 44 30 dX12_leastClash_27 rfl rfl (fun h => absurd h (by decide)) (fun _ => ?_)
              refine v_iload2 31 dX12_leastClash_30 rfl ?_
              refine v_if_lt 42 34 dX12_leastClash_31 rfl rfl (fun h31 => ?_) (fun h31 => ?_)
              · skip
                refine v_iload3 43 dX12_leastClash_42 rfl ?_
                refine v_istore2 44 dX12_leastClash_43 rfl (by decide) ?_
                refine v_iinc3 47 dX12_leastClash_44 rfl (by decide) rfl (⟨by omega, by omega⟩) ?_
                refine v_goto 4 dX12_leastClash_47 rfl ?_
                exact ih (i + 1) _ hk9 hi9 (by
                  rcases hl with ⟨q1, q2⟩ | ⟨s, q1, q2, q3, q4⟩
                  · first
                      | (exfalso; omega)
                      | (refine Or.inl ⟨q1, fun t a b => ?_⟩
                         by_cases e : t = i
                         · subst e; first | exact h19 b.1 | exact h24 b.2
                         · exact q2 t (by omega) b)
                      | (refine Or.inr ⟨i, by omega, rfl, ⟨by omega, h24⟩, fun t a b => ?_⟩
                         by_cases e : t = i
                         · subst e; exact Nat.le_refl _
                         · exact absurd b (q2 t (by omega)))
                  · try (have e98 : s9 = s := by omega
                         subst e98)
                    first
                      | (exfalso; omega)
                      | (refine Or.inr ⟨_, by omega, q2, q3, fun t a b => ?_⟩
                         by_cases e : t = i
                         · subst e; first | exact absurd b.1 h19 | exact absurd b.2 h24 | omega
                         · exact q4 t (by omega) b)
                      | (refine Or.inr ⟨i, by omega, rfl, ⟨by omega, h24⟩, fun t a b => ?_⟩
                         by_cases e : t = i
                         · subst e; exact Nat.le_refl _
                         · have := q4 t (by omega) b; omega))
              · skip
                refine v_iload3 35 dX12_leastClash_34 rfl ?_
                refine v_iload2 36 dX12_leastClash_35 rfl ?_
                refine v_csI2 mX12_isBefore 39 dX12_leastClash_36 rfl kX12_184 (by omega) (Nat.le_of_ble_eq_true rfl) ?_
                obtain ⟨s9, hs9, hs8⟩ : ∃ s9 : Nat, lv = (s9 : Int) ∧ s9 < 4096 := by
                  rcases hl with ⟨q1, q2⟩ | ⟨s, q1, q2, q3, q4⟩
                  · exfalso; omega
                  · exact ⟨s, q2, by omega⟩
                rw [hs9]
                refine X12_isBefore (by omega) (by omega) (fun h36 => ?_) (fun h36 => ?_)
                all_goals rw [isB_iff (by omega) (by omega)] at h36
                all_goals rw [← hs9]
                · skip
                  refine v_if_eq 44 42 dX12_leastClash_39 rfl rfl (fun h => absurd h (by decide)) (fun _ => ?_)
                  refine v_iload3 43 dX12_leastClash_42 rfl ?_
                  refine v_istore2 44 dX12_leastClash_43 rfl (by decide) ?_
                  refine v_iinc3 47 dX12_leastClash_44 rfl (by decide) rfl (⟨by omega, by omega⟩) ?_
                  refine v_goto 4 dX12_leastClash_47 rfl ?_
                  exact ih (i + 1) _ hk9 hi9 (by
                    rcases hl with ⟨q1, q2⟩ | ⟨s, q1, q2, q3, q4⟩
                    · first
                        | (exfalso; omega)
                        | (refine Or.inl ⟨q1, fun t a b => ?_⟩
                           by_cases e : t = i
                           · subst e; first | exact h19 b.1 | exact h24 b.2
                           · exact q2 t (by omega) b)
                        | (refine Or.inr ⟨i, by omega, rfl, ⟨by omega, h24⟩, fun t a b => ?_⟩
                           by_cases e : t = i
                           · subst e; exact Nat.le_refl _
                           · exact absurd b (q2 t (by omega)))
                    · try (have e98 : s9 = s := by omega
                           subst e98)
                      first
                        | (exfalso; omega)
                        | (refine Or.inr ⟨_, by omega, q2, q3, fun t a b => ?_⟩
                           by_cases e : t = i
                           · subst e; first | exact absurd b.1 h19 | exact absurd b.2 h24 | omega
                           · exact q4 t (by omega) b)
                        | (refine Or.inr ⟨i, by omega, rfl, ⟨by omega, h24⟩, fun t a b => ?_⟩
                           by_cases e : t = i
                           · subst e; exact Nat.le_refl _
                           · have := q4 t (by omega) b; omega))
                · skip
                  refine v_if_eq 44 42 dX12_leastClash_39 rfl rfl (fun _ => ?_) (fun h => absurd (by decide) h)
                  refine v_iinc3 47 dX12_leastClash_44 rfl (by decide) rfl (⟨by omega, by omega⟩) ?_
                  refine v_goto 4 dX12_leastClash_47 rfl ?_
                  exact ih (i + 1) _ hk9 hi9 (by
                    rcases hl with ⟨q1, q2⟩ | ⟨s, q1, q2, q3, q4⟩
                    · first
                        | (exfalso; omega)
                        | (refine Or.inl ⟨q1, fun t a b => ?_⟩
                           by_cases e : t = i
                           · subst e; first | exact h19 b.1 | exact h24 b.2
                           · exact q2 t (by omega) b)
                        | (refine Or.inr ⟨i, by omega, rfl, ⟨by omega, h24⟩, fun t a b => ?_⟩
                           by_cases e : t = i
                           · subst e; exact Nat.le_refl _
                           · exact absurd b (q2 t (by omega)))
                    · try (have e98 : s9 = s := by omega
                           subst e98)
                      first
                        | (exfalso; omega)
                        | (refine Or.inr ⟨_, by omega, q2, q3, fun t a b => ?_⟩
                           by_cases e : t = i
                           · subst e; first | exact absurd b.1 h19 | exact absurd b.2 h24 | omega
                           · exact q4 t (by omega) b)
                        | (refine Or.inr ⟨i, by omega, rfl, ⟨by omega, h24⟩, fun t a b => ?_⟩
                           by_cases e : t = i
                           · subst e; exact Nat.le_refl _
                           · have := q4 t (by omega) b; omega))
            · skip
              refine v_if_eq 44 30 dX12_leastClash_27 rfl rfl (fun _ => ?_) (fun h => absurd (by decide) h)
              refine v_iinc3 47 dX12_leastClash_44 rfl (by decide) rfl (⟨by omega, by omega⟩) ?_
              refine v_goto 4 dX12_leastClash_47 rfl ?_
              exact ih (i + 1) _ hk9 hi9 (by
                rcases hl with ⟨q1, q2⟩ | ⟨s, q1, q2, q3, q4⟩
                · first
                    | (exfalso; omega)
                    | (refine Or.inl ⟨q1, fun t a b => ?_⟩
                       by_cases e : t = i
                       · subst e; first | exact h19 b.1 | exact h24 b.2
                       · exact q2 t (by omega) b)
                    | (refine Or.inr ⟨i, by omega, rfl, ⟨by omega, h24⟩, fun t a b => ?_⟩
                       by_cases e : t = i
                       · subst e; exact Nat.le_refl _
                       · exact absurd b (q2 t (by omega)))
                · try (have e98 : s9 = s := by omega
                       subst e98)
                  first
                    | (exfalso; omega)
                    | (refine Or.inr ⟨_, by omega, q2, q3, fun t a b => ?_⟩
                       by_cases e : t = i
                       · subst e; first | exact absurd b.1 h19 | exact absurd b.2 h24 | omega
                       · exact q4 t (by omega) b)
                    | (refine Or.inr ⟨i, by omega, rfl, ⟨by omega, h24⟩, fun t a b => ?_⟩
                       by_cases e : t = i
                       · subst e; exact Nat.le_refl _
                       · have := q4 t (by omega) b; omega))
  refine v_iconst 1 dX12_leastClash_0 rfl ⟨by decide +kernel, by decide⟩ ?_
  refine v_istore2 2 dX12_leastClash_1 rfl (by decide) ?_
  refine v_iconst 3 dX12_leastClash_2 rfl ⟨by decide +kernel, by decide⟩ ?_
  refine v_istore3 4 dX12_leastClash_3 rfl (by decide) ?_
  exact L (2 ^ R + 1) 0 _ (by omega) (by omega) (Or.inl ⟨rfl, fun t a b => by omega⟩)
