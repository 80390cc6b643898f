set_option maxRecDepth 100000 in
set_option maxHeartbeats 4000000 in
def rtB (M s d : Nat) : Bool := !decide (s &&& M = s) || ((decide (s ||| 2 ^ d = s) == s.testBit d) && (s.testBit d || (decide (s ||| 2 ^ d < 64) && decide (s < s ||| 2 ^ d) && (decide ((s ||| 2 ^ d) &&& M = (s ||| 2 ^ d)) == M.testBit d) && (!M.testBit d || (decide (s ||| 2 ^ d ≤ M) && decide (M ^^^ (s ||| 2 ^ d) = clr (M ^^^ s) d))))) && ((M ^^^ s).testBit d == (M.testBit d && !s.testBit d)))
theorem rtB_all : ∀ M : Nat, M < 64 → ∀ s : Nat, s < 64 → ∀ d : Nat, d < 6 → rtB M s d = true := by decide +kernel
theorem rt_bits {M s d : Nat} (hM : M < 64) (hs : s < 64) (hsub : s &&& M = s) (hd : d < 6) : (s ||| 2 ^ d = s ↔ s.testBit d = true) ∧ (s.testBit d = false → (s ||| 2 ^ d < 64 ∧ s < s ||| 2 ^ d ∧ ((s ||| 2 ^ d) &&& M = (s ||| 2 ^ d) ↔ M.testBit d = true) ∧ (M.testBit d = true → s ||| 2 ^ d ≤ M ∧ M ^^^ (s ||| 2 ^ d) = clr (M ^^^ s) d))) ∧ (M ^^^ s).testBit d = (M.testBit d && !s.testBit d) := by
  have h := rtB_all M hM s hs d hd
  unfold rtB at h
  rw [decide_eq_true hsub] at h
  cases h1 : s.testBit d <;> cases h2 : M.testBit d <;> simp [h1, h2] at h ⊢ <;> simp [h]
  all_goals first | omega | exact h | (obtain ⟨⟨a, b⟩, c⟩ := h; exact ⟨by omega, by omega, c⟩)
def rtC (M s : Nat) : Bool := (decide (band (s : Int) (bxor (M : Int) (-1)) = 0) == decide (s &&& M = s)) && decide (M ^^^ s < 64) && (!decide (s &&& M = s) || decide (s ≤ M)) && (!decide (M ^^^ s = 0) || decide (s = M))
theorem rtC_all : ∀ M : Nat, M < 64 → ∀ s : Nat, s < 64 → rtC M s = true := by decide +kernel
theorem rt_sub {M s : Nat} (hM : M < 64) (hs : s < 64) : (band (s : Int) (bxor (M : Int) (-1)) = 0 ↔ s &&& M = s) ∧ M ^^^ s < 64 ∧ (s &&& M = s → s ≤ M) ∧ (M ^^^ s = 0 → s = M) := by
  have h := rtC_all M hM s hs
  unfold rtC at h
  simp only [Bool.and_eq_true, Bool.or_eq_true, Bool.not_eq_true', decide_eq_true_eq, decide_eq_false_iff_not, beq_iff_eq] at h
  obtain ⟨⟨⟨a, b⟩, c⟩, e⟩ := h
  exact ⟨decide_eq_decide.mp a, b, fun q => c.resolve_left (fun x => x q), fun q => e.resolve_left (fun x => x q)⟩
set_option maxRecDepth 100000 in
set_option maxHeartbeats 4000000 in
theorem pBF_of {σ τ : Mem} (h27 : τ 27 = σ 27) (h28 : τ 28 = σ 28) (h29 : τ 29 = σ 29) (h30 : τ 30 = σ 30) (p ff : Int → Int) (r : Nat) : ∀ k : Nat, pBF τ p ff k r = pBF σ p ff k r
  | 0 => by show bnF τ ff r = bnF σ ff r; unfold bnF; rw [h27, h30]
  | k + 1 => by
    show (pBF τ p ff k r || baF τ p ff k r) = (pBF σ p ff k r || baF σ p ff k r)
    rw [pBF_of h27 h28 h29 h30 p ff r k]
    unfold baF
    rw [dwB_core h27 h28 h29, cvB_core h27 h29, h27, h28, h29, h30]
def csv (σ : Mem) (s : Nat) : Int → Int := fun d => if s.testBit d.toNat then σ 11 d else cbv σ d
def cbb (σ : Mem) (n R s : Nat) : Int := pop (bitsN (pBF σ (csv σ s) (σ 26) n) R) 12
theorem cbb_bnd (σ : Mem) (n R s : Nat) : 0 ≤ cbb σ n R s ∧ cbb σ n R s ≤ 12 := pop_bnd _ _
theorem csv_frC {σ τ : Mem} {n : Nat} (h : FrC σ τ) (hb : CB σ n) (hne : σ 3 1 ≠ -5) (s : Nat) : csv τ s = csv σ s := by
  unfold csv
  rw [cbv_frC h hb hne, h 11 (by omega)]
theorem cbb_frC {σ τ : Mem} {n : Nat} (h : FrC σ τ) (hb : CB σ n) (hne : σ 3 1 ≠ -5) (R s : Nat) : cbb τ n R s = cbb σ n R s := by
  unfold cbb
  rw [csv_frC h hb hne, h 26 (by omega)]
  congr 1
  exact bitsN_congr (fun r _ => pBF_of (h 27 (by omega)) (h 28 (by omega)) (h 29 (by omega)) (h 30 (by omega)) _ _ _ _)
set_option maxRecDepth 100000 in
set_option maxHeartbeats 4000000 in
theorem X7_brokenWith {d : Nat} {n R F s : Nat} {σ : Mem} {K : Int → Mem → Prop} (hw : CW σ n R F) (hb5 : σ 3 1 ≠ -5) (hp : ∀ i : Int, 0 ≤ i → i < n → 0 ≤ σ 11 i ∧ σ 11 i ≤ 5) (hs : s < 64) (hd : 5 ≤ d) (hk0 : ∀ υ : Mem, (∀ c, c ≠ 60 → υ c = σ c) → K (cbb σ n R s) υ) : Run mX7_brokenWith d [.inr (some 10), .inl (s : Int), .inr (some 11)] σ (RI K) := by
  have hw0 := hw
  obtain ⟨⟨hn, hn6, hR, hR12, hF, hF6⟩, hru, hde, hwo, hli, hcb, hwf, hbd, hbc⟩ := hw0
  refine Run_of (ls := [.inr (some 10), .inl (s : Int), .inr (some 11), .inr none]) (by decide) (Nat.le_of_ble_eq_true rfl) rfl ?_
  have L : ∀ (k : Nat) (i : Nat) (τ : Mem), n - i < k → i ≤ n → (∀ c, c ≠ 60 → τ c = σ c) → (∀ j : Int, 0 ≤ j → j < i → τ 60 j = csv σ s j) → V mX7_brokenWith d (RI K) 2 [.inr (some 10), .inl (s : Int), .inr (some 11), .inl (i : Int)] [] τ := by
    intro k
    induction k with
    | zero => intros; omega
    | succ k ih =>
        intro i τ hk hi g1 g2
        have hfr : FrC σ τ := fun c hc => g1 c (by omega)
        refine v_iload3 3 dX7_brokenWith_2 rfl ?_
        refine v_aload0 4 dX7_brokenWith_3 rfl ?_
        refine v_getR 7 dX7_brokenWith_4 rfl fX7_34 rfl rfl ?_
        refine v_getIe 10 0 ((n : Int)) dX7_brokenWith_7 rfl fX7_60 rfl rfl rfl (by rw [g1 1 (by decide)]; exact hn) ?_
        refine v_icmp_ge 48 13 dX7_brokenWith_10 rfl rfl (fun h10 => ?_) (fun h10 => ?_)
        · skip
          obtain rfl : i = n := by omega
          have hwt := hw.frC hfr
          have hbd : ∀ j : Int, 0 ≤ j → j < i → 0 ≤ τ 60 j ∧ τ 60 j ≤ 5 := fun j a b => by
            rw [g2 j a b]
            unfold csv
            split
            · exact hp j a b
            · exact (hcb.resolve_left hb5).2.2 j a b
          have hbl : bitsN (pB τ 60 26 i) R < 2 ^ R := bitsN_lt _ _
          have hb2 : 2 ^ R ≤ 2 ^ 12 := Nat.pow_le_pow_right (by omega) hR12
          have hb3 : (2 : Nat) ^ 12 = 4096 := by decide
          refine v_aload0 49 dX7_brokenWith_48 rfl ?_
          refine v_getR 52 dX7_brokenWith_49 rfl fX7_38 rfl rfl ?_
          refine v_aload0 53 dX7_brokenWith_52 rfl ?_
          refine v_getR 56 dX7_brokenWith_53 rfl fX7_22 rfl rfl ?_
          refine v_aload0 57 dX7_brokenWith_56 rfl ?_
          refine v_getR 60 dX7_brokenWith_57 rfl fX7_34 rfl rfl ?_
          refine v_getIe 63 0 ((i : Int)) dX7_brokenWith_60 rfl fX7_60 rfl rfl rfl (by rw [g1 1 (by decide)]; exact hn) ?_
          refine v_aload0 64 dX7_brokenWith_63 rfl ?_
          refine v_getR 67 dX7_brokenWith_64 rfl fX7_38 rfl rfl ?_
          refine v_getR 70 dX7_brokenWith_67 rfl fX7_71 rfl rfl ?_
          refine v_cvI3 mX8_brokenIn 73 dX7_brokenWith_70 rfl kX7_76 rfl rfl (by omega) (Nat.le_of_ble_eq_true rfl) ?_
          refine X8_brokenIn hwt rfl rfl hbd (Nat.le_refl _) (by omega) ?_
          refine v_csI1 mJ6_bitCount_0f7a4 76 dX7_brokenWith_73 rfl kX7_80 (by omega) (Nat.le_of_ble_eq_true rfl) ?_
          refine J6_bitCount_0f7a4 (by omega) ?_
          refine v_iretI dX7_brokenWith_76 rfl ?_
          have e9 : pop (bitsN (pB τ 60 26 i) R) 12 = cbb σ i R s := by
            unfold cbb
            congr 1
            refine bitsN_congr (fun r hr => ?_)
            rw [pB_F, pBF_of (g1 27 (by decide)) (g1 28 (by decide)) (g1 29 (by decide)) (g1 30 (by decide)), g1 26 (by decide)]
            exact pBF_congr hw hr (fun j hj => g2 (j : Int) (by omega) (by omega))
          rw [e9]
          exact hk0 τ g1
        · skip
          refine v_aload0 14 dX7_brokenWith_13 rfl ?_
          refine v_getR 17 dX7_brokenWith_14 rfl fX7_22 rfl rfl ?_
          refine v_iload3 18 dX7_brokenWith_17 rfl ?_
          refine v_iload1 19 dX7_brokenWith_18 rfl ?_
          refine v_iload3 20 dX7_brokenWith_19 rfl ?_
          refine v_ishr 21 dX7_brokenWith_20 rfl ?_
          refine v_iconst 22 dX7_brokenWith_21 rfl ⟨by decide +kernel, by decide⟩ ?_
          refine v_iand 23 dX7_brokenWith_22 rfl ?_
          rw [bit_nat (by omega) (by omega)]
          refine v_iconst 24 dX7_brokenWith_23 rfl ⟨by decide +kernel, by decide⟩ ?_
          refine v_icmp_ne 33 27 dX7_brokenWith_24 rfl rfl (fun h24 => ?_) (fun h24 => ?_)
          · skip
            refine v_aload0 34 dX7_brokenWith_33 rfl ?_
            refine v_getR 37 dX7_brokenWith_34 rfl fX7_42 rfl rfl ?_
            refine v_iload3 38 dX7_brokenWith_37 rfl ?_
            refine v_cvI1 mX5_valueThen 41 dX7_brokenWith_38 rfl kX7_65 rfl rfl (by omega) (Nat.le_of_ble_eq_true rfl) ?_
            refine X5_valueThen (hcb.frC hfr) (by omega) (by omega) ?_
            rw [hfr 3 (by omega), if_neg hb5, cbv_frC hfr hcb hb5]
            refine v_iast 42 dX7_brokenWith_41 rfl rfl (⟨by omega, by omega⟩) ?_
            refine v_iinc3 45 dX7_brokenWith_42 rfl (by decide) rfl (⟨by omega, by omega⟩) ?_
            refine v_goto 2 dX7_brokenWith_45 rfl ?_
            refine ih (i + 1) _ (by omega) (by omega) (fun c a => by rw [wr_ne a]; exact g1 c a) (fun j a b => ?_)
            rw [wr_at]
            by_cases ej : j = (i : Int)
            · rw [if_pos ej, ej]
              unfold csv
              rw [Int.toNat_natCast]
              cases hx : s.testBit i with
              | true => first | rfl | (rw [hx] at h24; exact absurd rfl h24)
              | false => first | rfl | (rw [hx] at h24; exact absurd h24 (by decide))
            · rw [if_neg ej]; exact g2 j a (by omega)
          · skip
            refine v_aload2 28 dX7_brokenWith_27 rfl ?_
            refine v_iload3 29 dX7_brokenWith_28 rfl ?_
            refine v_ialde 30 (σ 11 (i : Int)) dX7_brokenWith_29 rfl rfl (⟨by omega, by omega⟩) (by rw [g1 11 (by decide)]) ?_
            refine v_goto 41 dX7_brokenWith_30 rfl ?_
            refine v_iast 42 dX7_brokenWith_41 rfl rfl (⟨by omega, by omega⟩) ?_
            refine v_iinc3 45 dX7_brokenWith_42 rfl (by decide) rfl (⟨by omega, by omega⟩) ?_
            refine v_goto 2 dX7_brokenWith_45 rfl ?_
            refine ih (i + 1) _ (by omega) (by omega) (fun c a => by rw [wr_ne a]; exact g1 c a) (fun j a b => ?_)
            rw [wr_at]
            by_cases ej : j = (i : Int)
            · rw [if_pos ej, ej]
              unfold csv
              rw [Int.toNat_natCast]
              cases hx : s.testBit i with
              | true => first | rfl | (rw [hx] at h24; exact absurd rfl h24)
              | false => first | rfl | (rw [hx] at h24; exact absurd h24 (by decide))
            · rw [if_neg ej]; exact g2 j a (by omega)
  refine v_iconst 1 dX7_brokenWith_0 rfl ⟨by decide +kernel, by decide⟩ ?_
  refine v_istore3 2 dX7_brokenWith_1 rfl (by decide) ?_
  exact L (n + 1) 0 σ (by omega) (by omega) (fun _ _ => rfl) (fun j a b => by omega)
