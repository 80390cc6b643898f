set_option maxRecDepth 100000 in
set_option maxHeartbeats 4000000 in
/-- the reference's own cells are the same -/
def CoreEq (σ τ : Mem) : Prop := ∀ c : Nat, 64 ≤ c → c ≤ 82 → τ c = σ c
theorem CoreEq.rf (σ : Mem) : CoreEq σ σ := fun _ _ _ => rfl
theorem CoreEq.tr {σ τ υ : Mem} (h : CoreEq σ τ) (h2 : CoreEq τ υ) : CoreEq σ υ := fun c a b => (h2 c a b).trans (h c a b)
theorem RW.core {σ τ : Mem} {n R F : Nat} (hw : RW σ n R F) (h : CoreEq σ τ) : RW τ n R F := by
  unfold RW at *
  rw [h 64 (by decide) (by decide), h 75 (by decide) (by decide), h 76 (by decide) (by decide), h 77 (by decide) (by decide), h 78 (by decide) (by decide), h 65 (by decide) (by decide), h 66 (by decide) (by decide), h 67 (by decide) (by decide), h 68 (by decide) (by decide), h 69 (by decide) (by decide), h 70 (by decide) (by decide), h 71 (by decide) (by decide), h 73 (by decide) (by decide), h 79 (by decide) (by decide)]
  exact hw
theorem rbrk_core {σ τ : Mem} (h : CoreEq σ τ) (p : Int → Int) (n R : Nat) : rbrk τ p n R = rbrk σ p n R := by
  unfold rbrk rrk
  rw [h 74 (by decide) (by decide), h 75 (by decide) (by decide), h 76 (by decide) (by decide), h 77 (by decide) (by decide), h 78 (by decide) (by decide)]
theorem rAlw_core {σ τ : Mem} (h : CoreEq σ τ) (p : Int → Int) (n : Nat) : rAlw τ p n ↔ rAlw σ p n := by
  unfold rAlw rbv
  rw [h 64 (by decide) (by decide), h 65 (by decide) (by decide), h 66 (by decide) (by decide), h 67 (by decide) (by decide), h 70 (by decide) (by decide), h 73 (by decide) (by decide), h 79 (by decide) (by decide)]
def rcost (σ : Mem) (n : Nat) (p : Int → Int) : Int := sumI (cst (σ 64 21) (rbv σ) (σ 68) (σ 69) p) n
def rwor (σ : Mem) (n : Nat) (p : Int → Int) : Int := sumI (fun d => σ 71 (6 * d + p d)) n
theorem rcost_core {σ τ : Mem} (h : CoreEq σ τ) (n : Nat) (p : Int → Int) : rcost τ n p = rcost σ n p := by
  unfold rcost rbv
  rw [h 64 (by decide) (by decide), h 68 (by decide) (by decide), h 69 (by decide) (by decide), h 79 (by decide) (by decide)]
theorem rwor_core {σ τ : Mem} (h : CoreEq σ τ) (n : Nat) (p : Int → Int) : rwor τ n p = rwor σ n p := by
  unfold rwor
  rw [h 71 (by decide) (by decide)]
/-! two plans that agree on the n decisions -/
theorem mv_congr {bs : Int} {bv p q : Int → Int} {d : Int} (h : p d = q d) : mv bs bv p d = mv bs bv q d := by unfold mv; rw [h]
theorem rcost_congr {σ : Mem} {n : Nat} {p q : Int → Int} (h : ∀ j : Nat, j < n → p (j : Int) = q (j : Int)) : rcost σ n p = rcost σ n q := sumI_congr (fun k hk => by unfold cst; rw [mv_congr (h k hk), h k hk])
theorem rwor_congr {σ : Mem} {n : Nat} {p q : Int → Int} (h : ∀ j : Nat, j < n → p (j : Int) = q (j : Int)) : rwor σ n p = rwor σ n q := sumI_congr (fun k hk => by show σ 71 (6 * (k : Int) + p (k : Int)) = σ 71 (6 * (k : Int) + q (k : Int)); rw [h k hk])
theorem rk_congr {kd a b F : Int} {p q : Int → Int} {n : Nat} (h : ∀ j : Nat, j < n → p (j : Int) = q (j : Int)) (hab : kd ≠ 5 → 0 ≤ a ∧ a < n ∧ 0 ≤ b ∧ b < n) : rk kd a b F p n = rk kd a b F q n := by
  unfold rk
  by_cases hk : kd = 5
  · rw [if_pos hk, if_pos hk, sumI_congr (g := fun d => one (decide (q d = b))) (fun k hk => by show one (decide (p (k : Int) = b)) = one (decide (q (k : Int) = b)); rw [h k hk])]
  · have hq := hab hk
    have ea := h a.toNat (by omega)
    have eb := h b.toNat (by omega)
    rw [Int.toNat_of_nonneg hq.1] at ea
    rw [Int.toNat_of_nonneg hq.2.2.1] at eb
    rw [if_neg hk, if_neg hk, ea, eb]
theorem rbrk_congr {σ : Mem} {n R F : Nat} (hw : RW σ n R F) {p q : Int → Int} (h : ∀ j : Nat, j < n → p (j : Int) = q (j : Int)) : rbrk σ p n R = rbrk σ q n R :=
  bitsN_congr (fun r hr => by
    show (!rk _ _ _ _ p n) = (!rk _ _ _ _ q n)
    rw [rk_congr h (fun hk => (hw.2.1 (r : Int) (by omega) (by omega)).2.2.2.2.2 hk)])
theorem rAlw_congr {σ : Mem} {n : Nat} {p q : Int → Int} (h : ∀ j : Nat, j < n → p (j : Int) = q (j : Int)) : rAlw σ p n ↔ rAlw σ q n := by
  unfold rAlw
  have e1 : ∀ w : Int, sumI (fun d => one (decide (σ 67 d = w) && mv (σ 64 21) (rbv σ) p d)) n = sumI (fun d => one (decide (σ 67 d = w) && mv (σ 64 21) (rbv σ) q d)) n := fun w => sumI_congr (fun k hk => by show one (_ && mv _ _ p _) = one (_ && mv _ _ q _); rw [mv_congr (h k hk)])
  have e2 : ∀ d : Int, 0 ≤ d → d < n → p d = q d := fun d a b => by
    have := h d.toNat (by omega)
    rw [Int.toNat_of_nonneg a] at this
    exact this
  constructor
  · rintro ⟨a, b⟩
    exact ⟨fun w x y => by rw [← e1]; exact a w x y, fun d x y => by rw [← e2 d x y]; exact b d x y⟩
  · rintro ⟨a, b⟩
    exact ⟨fun w x y => by rw [e1]; exact a w x y, fun d x y => by rw [e2 d x y]; exact b d x y⟩
/-! the next plan -/
theorem nx_stop {lo hi pin a : Int → Int} {i m : Nat} (h : nx lo hi pin (i + 1) (lst a (i + 1) m) = none) (h2 : ¬ (pin (i : Int) = -5 ∧ a (i : Int) < hi (i : Int))) : nx lo hi pin i (lst a i (m + 1)) = none := by
  show (match nx lo hi pin (i + 1) (lst a (i + 1) m) with | some s' => some (a (i : Int) :: s') | none => if pin (i : Int) = -5 ∧ a (i : Int) < hi (i : Int) then some ((a (i : Int) + 1) :: lst (fsv lo pin) (i + 1) (lst a (i + 1) m).length) else none) = none
  rw [h]
  exact if_neg h2
theorem nx_go0 {lo hi pin a b : Int → Int} {i m : Nat} (h : nx lo hi pin (i + 1) (lst a (i + 1) m) = none) (h2 : pin (i : Int) = -5 ∧ a (i : Int) < hi (i : Int)) (hb : b (i : Int) = a (i : Int) + 1) (hb2 : ∀ j : Nat, i < j → j < i + 1 + m → b (j : Int) = fsv lo pin (j : Int)) : nx lo hi pin i (lst a i (m + 1)) = some (lst b i (m + 1)) := by
  show (match nx lo hi pin (i + 1) (lst a (i + 1) m) with | some s' => some (a (i : Int) :: s') | none => if pin (i : Int) = -5 ∧ a (i : Int) < hi (i : Int) then some ((a (i : Int) + 1) :: lst (fsv lo pin) (i + 1) (lst a (i + 1) m).length) else none) = some (b (i : Int) :: lst b (i + 1) m)
  rw [h]
  show (if pin (i : Int) = -5 ∧ a (i : Int) < hi (i : Int) then some ((a (i : Int) + 1) :: lst (fsv lo pin) (i + 1) (lst a (i + 1) m).length) else none) = _
  rw [if_pos h2, lst_len, hb, lst_congr (a := b) (b := fsv lo pin) (fun j h1 h2 => hb2 j (by omega) (by omega))]
theorem nx_up {lo hi pin a b : Int → Int} : ∀ (i m : Nat), nx lo hi pin i (lst a i m) = some (lst b i m) → (∀ j : Nat, j < i → b (j : Int) = a (j : Int)) → nx lo hi pin 0 (lst a 0 (i + m)) = some (lst b 0 (i + m))
  | 0, m, h, _ => by rw [Nat.zero_add]; exact h
  | i + 1, m, h, hb => by
    have e : i + 1 + m = i + (m + 1) := by omega
    rw [e]
    refine nx_up i (m + 1) ?_ (fun j hj => hb j (by omega))
    show (match nx lo hi pin (i + 1) (lst a (i + 1) m) with | some s' => some (a (i : Int) :: s') | none => _) = some (b (i : Int) :: lst b (i + 1) m)
    rw [h, hb i (by omega)]
set_option maxRecDepth 100000 in
set_option maxHeartbeats 4000000 in
theorem X12_firstPlan {d : Nat} {n R F : Nat} {σ : Mem} {K : Mem → Prop} (hw : RW σ n R F) (hk0 : ∀ τ : Mem, (∀ c, c ≠ 83 → τ c = σ c) → (∀ j : Int, 0 ≤ j → j < n → τ 83 j = fsv (σ 65) (σ 70) j) → K τ) : Run mX12_firstPlan d [.inr (some 64)] σ (RV K) := by
  have hw0 := hw
  obtain ⟨⟨hn, hn6, hR, hR12, hF, hF6⟩, hru, hde, hwo, hli, hba, hwf⟩ := hw0
  refine Run_of (ls := [.inr (some 64), .inr none]) (by decide) (Nat.le_of_ble_eq_true rfl) rfl ?_
  have L : ∀ (k : Nat) (i : Nat) (τ : Mem), n - i < k → i ≤ n → (∀ c, c ≠ 83 → τ c = σ c) → (∀ j : Int, 0 ≤ j → j < i → τ 83 j = fsv (σ 65) (σ 70) j) → V mX12_firstPlan d (RV K) 2 [.inr (some 64), .inl (i : Int)] [] τ := by
    intro k
    induction k with
    | zero => intros; omega
    | succ k ih =>
        intro i τ hk hi g1 g2
        refine v_iload1 3 dX12_firstPlan_2 rfl ?_
        refine v_aload0 4 dX12_firstPlan_3 rfl ?_
        refine v_getIe 7 0 (n) dX12_firstPlan_4 rfl fX12_93 rfl rfl rfl (by rw [g1 64 (by decide)]; exact hn) ?_
        refine v_icmp_ge 48 10 dX12_firstPlan_7 rfl rfl (fun h7 => ?_) (fun h7 => ?_)
        · skip
          refine v_vretV dX12_firstPlan_48 rfl ?_
          exact hk0 τ g1 (fun j a b => g2 j a (by omega))
        · skip
          refine v_aload0 11 dX12_firstPlan_10 rfl ?_
          refine v_getR 14 dX12_firstPlan_11 rfl fX12_68 rfl rfl ?_
          refine v_iload1 15 dX12_firstPlan_14 rfl ?_
          refine v_aload0 16 dX12_firstPlan_15 rfl ?_
          refine v_getR 19 dX12_firstPlan_16 rfl fX12_25 rfl rfl ?_
          refine v_iload1 20 dX12_firstPlan_19 rfl ?_
          refine v_ialde 21 (σ 70 (i : Int)) dX12_firstPlan_20 rfl rfl (⟨by omega, by omega⟩) (by rw [g1 70 (by decide)]) ?_
          refine v_bipush 23 dX12_firstPlan_21 rfl ⟨by decide +kernel, by decide⟩ ?_
          refine v_icmp_ne 35 26 dX12_firstPlan_23 rfl rfl (fun h23 => ?_) (fun h23 => ?_)
          · skip
            refine v_aload0 36 dX12_firstPlan_35 rfl ?_
            refine v_getR 39 dX12_firstPlan_36 rfl fX12_25 rfl rfl ?_
            refine v_iload1 40 dX12_firstPlan_39 rfl ?_
            refine v_ialde 41 (σ 70 (i : Int)) dX12_firstPlan_40 rfl rfl (⟨by omega, by omega⟩) (by rw [g1 70 (by decide)]) ?_
            refine v_iast 42 dX12_firstPlan_41 rfl rfl (⟨by omega, by omega⟩) ?_
            refine v_iinc1 45 dX12_firstPlan_42 rfl (by decide) rfl (⟨by omega, by omega⟩) ?_
            refine v_goto 2 dX12_firstPlan_45 rfl ?_
            exact ih (i + 1) _ (by omega) (by omega) (fun c a => by rw [wr_ne a]; exact g1 c a) (fun j a b => by
              rw [wr_at]
              by_cases ej : j = (i : Int)
              · subst ej
                rw [if_pos rfl, fsv]
                first | (exfalso; omega) | rw [if_pos (by omega)] | rw [if_neg (by omega)]
              · rw [if_neg ej]
                exact g2 j a (by omega))
          · skip
            refine v_aload0 27 dX12_firstPlan_26 rfl ?_
            refine v_getR 30 dX12_firstPlan_27 rfl fX12_7 rfl rfl ?_
            refine v_iload1 31 dX12_firstPlan_30 rfl ?_
            refine v_ialde 32 (σ 65 (i : Int)) dX12_firstPlan_31 rfl rfl (⟨by omega, by omega⟩) (by rw [g1 65 (by decide)]) ?_
            refine v_goto 41 dX12_firstPlan_32 rfl ?_
            refine v_iast 42 dX12_firstPlan_41 rfl rfl (⟨by omega, by omega⟩) ?_
            refine v_iinc1 45 dX12_firstPlan_42 rfl (by decide) rfl (⟨by omega, by omega⟩) ?_
            refine v_goto 2 dX12_firstPlan_45 rfl ?_
            exact ih (i + 1) _ (by omega) (by omega) (fun c a => by rw [wr_ne a]; exact g1 c a) (fun j a b => by
              rw [wr_at]
              by_cases ej : j = (i : Int)
              · subst ej
                rw [if_pos rfl, fsv]
                first | (exfalso; omega) | rw [if_pos (by omega)] | rw [if_neg (by omega)]
              · rw [if_neg ej]
                exact g2 j a (by omega))
  refine v_iconst 1 dX12_firstPlan_0 rfl ⟨by decide +kernel, by decide⟩ ?_
  refine v_istore1 2 dX12_firstPlan_1 rfl (by decide) ?_
  exact L (n + 1) 0 _ (by omega) (by omega) (fun _ _ => rfl) (fun j a b => by omega)
set_option maxRecDepth 100000 in
set_option maxHeartbeats 4000000 in
theorem X12_nextPlan {d : Nat} {n R F : Nat} {σ : Mem} {K : Int → Mem → Prop} (hw : RW σ n R F) (hp : RP σ 83 n) (ht : ∀ τ : Mem, (∀ c, c ≠ 83 → τ c = σ c) → nx (σ 65) (σ 66) (σ 70) 0 (lst (σ 83) 0 n) = some (lst (τ 83) 0 n) → K 1 τ) (hf : ∀ τ : Mem, (∀ c, c ≠ 83 → τ c = σ c) → nx (σ 65) (σ 66) (σ 70) 0 (lst (σ 83) 0 n) = none → K 0 τ) : Run mX12_nextPlan d [.inr (some 64)] σ (RI K) := by
  have hw0 := hw
  obtain ⟨⟨hn, hn6, hR, hR12, hF, hF6⟩, hru, hde, hwo, hli, hba, hwf⟩ := hw0
  refine Run_of (ls := [.inr (some 64), .inr none]) (by decide) (Nat.le_of_ble_eq_true rfl) rfl ?_
  have L : ∀ (k : Nat) (i0 : Nat) (τ : Mem), i0 < k → i0 ≤ n → (∀ c, c ≠ 83 → τ c = σ c) → (∀ j : Int, 0 ≤ j → j < i0 → τ 83 j = σ 83 j) → (∀ j : Int, i0 ≤ j → j < n → τ 83 j = fsv (σ 65) (σ 70) j) → nx (σ 65) (σ 66) (σ 70) i0 (lst (σ 83) i0 (n - i0)) = none → V mX12_nextPlan d (RI K) 7 [.inr (some 64), .inl ((i0 : Int) - 1)] [] τ := by
    intro k
    induction k with
    | zero => intros; omega
    | succ k ih =>
        intro i0 τ hk hi g1 g2 g3 g4
        skip
        refine v_iload1 8 dX12_nextPlan_7 rfl ?_
        refine v_if_lt 87 11 dX12_nextPlan_8 rfl rfl (fun h8 => ?_) (fun h8 => ?_)
        · skip
          refine v_iconst 88 dX12_nextPlan_87 rfl ⟨by decide +kernel, by decide⟩ ?_
          refine v_zretI dX12_nextPlan_88 rfl (Or.inl rfl) ?_
          obtain rfl : i0 = 0 := by omega
          exact hf τ g1 g4
        · skip
          obtain ⟨i, rfl⟩ : ∃ i, i0 = i + 1 := ⟨i0 - 1, by omega⟩
          have ei : ((i + 1 : Nat) : Int) - 1 = (i : Int) := by omega
          rw [ei]
          have hd1 := hde (i : Int) (by omega) (by omega)
          have hp1 := hp (i : Int) (by omega) (by omega)
          have g2i := g2 (i : Int) (by omega) (by omega)
          refine v_aload0 12 dX12_nextPlan_11 rfl ?_
          refine v_getR 15 dX12_nextPlan_12 rfl fX12_25 rfl rfl ?_
          refine v_iload1 16 dX12_nextPlan_15 rfl ?_
          refine v_ialde 17 (σ 70 (i : Int)) dX12_nextPlan_16 rfl rfl (⟨by omega, by omega⟩) (by rw [g1 70 (by decide)]) ?_
          refine v_bipush 19 dX12_nextPlan_17 rfl ⟨by decide +kernel, by decide⟩ ?_
          refine v_icmp_ne 49 22 dX12_nextPlan_19 rfl rfl (fun h19 => ?_) (fun h19 => ?_)
          · skip
            refine v_aload0 50 dX12_nextPlan_49 rfl ?_
            refine v_getR 53 dX12_nextPlan_50 rfl fX12_68 rfl rfl ?_
            refine v_iload1 54 dX12_nextPlan_53 rfl ?_
            refine v_aload0 55 dX12_nextPlan_54 rfl ?_
            refine v_getR 58 dX12_nextPlan_55 rfl fX12_25 rfl rfl ?_
            refine v_iload1 59 dX12_nextPlan_58 rfl ?_
            refine v_ialde 60 (σ 70 (i : Int)) dX12_nextPlan_59 rfl rfl (⟨by omega, by omega⟩) (by rw [g1 70 (by decide)]) ?_
            refine v_bipush 62 dX12_nextPlan_60 rfl ⟨by decide +kernel, by decide⟩ ?_
            refine v_icmp_ne 74 65 dX12_nextPlan_62 rfl rfl (fun h62 => ?_) (fun h62 => ?_)
            · skip
              refine v_aload0 75 dX12_nextPlan_74 rfl ?_
              refine v_getR 78 dX12_nextPlan_75 rfl fX12_25 rfl rfl ?_
              refine v_iload1 79 dX12_nextPlan_78 rfl ?_
              refine v_ialde 80 (σ 70 (i : Int)) dX12_nextPlan_79 rfl rfl (⟨by omega, by omega⟩) (by rw [g1 70 (by decide)]) ?_
              refine v_iast 81 dX12_nextPlan_80 rfl rfl (⟨by omega, by omega⟩) ?_
              refine v_iinc1 84 dX12_nextPlan_81 rfl (by decide) rfl (⟨by omega, by omega⟩) ?_
              refine v_goto 7 dX12_nextPlan_84 rfl ?_
              have hm9 : n - i = (n - (i + 1)) + 1 := by omega
              exact ih i _ (by omega) (by omega) (fun c a => by rw [wr_ne a]; exact g1 c a) (fun j a b => by rw [wr_at, if_neg (by omega)]; exact g2 j a (by omega)) (fun j a b => by
                rw [wr_at]
                by_cases ej : j = (i : Int)
                · subst ej
                  rw [if_pos rfl, fsv]
                  first | (exfalso; omega) | rw [if_pos (by omega)] | rw [if_neg (by omega)]
                · rw [if_neg ej]
                  exact g3 j (by omega) b) (by rw [hm9]; exact nx_stop g4 (by rintro ⟨q1, q2⟩; have := g2 (i : Int) (by omega) (by omega); omega))
            · skip
              refine v_aload0 66 dX12_nextPlan_65 rfl ?_
              refine v_getR 69 dX12_nextPlan_66 rfl fX12_7 rfl rfl ?_
              refine v_iload1 70 dX12_nextPlan_69 rfl ?_
              refine v_ialde 71 (σ 65 (i : Int)) dX12_nextPlan_70 rfl rfl (⟨by omega, by omega⟩) (by rw [g1 65 (by decide)]) ?_
              refine v_goto 80 dX12_nextPlan_71 rfl ?_
              refine v_iast 81 dX12_nextPlan_80 rfl rfl (⟨by omega, by omega⟩) ?_
              refine v_iinc1 84 dX12_nextPlan_81 rfl (by decide) rfl (⟨by omega, by omega⟩) ?_
              refine v_goto 7 dX12_nextPlan_84 rfl ?_
              have hm9 : n - i = (n - (i + 1)) + 1 := by omega
              exact ih i _ (by omega) (by omega) (fun c a => by rw [wr_ne a]; exact g1 c a) (fun j a b => by rw [wr_at, if_neg (by omega)]; exact g2 j a (by omega)) (fun j a b => by
                rw [wr_at]
                by_cases ej : j = (i : Int)
                · subst ej
                  rw [if_pos rfl, fsv]
                  first | (exfalso; omega) | rw [if_pos (by omega)] | rw [if_neg (by omega)]
                · rw [if_neg ej]
                  exact g3 j (by omega) b) (by rw [hm9]; exact nx_stop g4 (by rintro ⟨q1, q2⟩; have := g2 (i : Int) (by omega) (by omega); omega))
          · skip
            refine v_aload0 23 dX12_nextPlan_22 rfl ?_
            refine v_getR 26 dX12_nextPlan_23 rfl fX12_68 rfl rfl ?_
            refine v_iload1 27 dX12_nextPlan_26 rfl ?_
            refine v_ialde 28 (σ 83 (i : Int)) dX12_nextPlan_27 rfl rfl (⟨by omega, by omega⟩) (g2i) ?_
            refine v_aload0 29 dX12_nextPlan_28 rfl ?_
            refine v_getR 32 dX12_nextPlan_29 rfl fX12_13 rfl rfl ?_
            refine v_iload1 33 dX12_nextPlan_32 rfl ?_
            refine v_ialde 34 (σ 66 (i : Int)) dX12_nextPlan_33 rfl rfl (⟨by omega, by omega⟩) (by rw [g1 66 (by decide)]) ?_
            refine v_icmp_ge 49 37 dX12_nextPlan_34 rfl rfl (fun h34 => ?_) (fun h34 => ?_)
            · skip
              refine v_aload0 50 dX12_nextPlan_49 rfl ?_
              refine v_getR 53 dX12_nextPlan_50 rfl fX12_68 rfl rfl ?_
              refine v_iload1 54 dX12_nextPlan_53 rfl ?_
              refine v_aload0 55 dX12_nextPlan_54 rfl ?_
              refine v_getR 58 dX12_nextPlan_55 rfl fX12_25 rfl rfl ?_
              refine v_iload1 59 dX12_nextPlan_58 rfl ?_
              refine v_ialde 60 (σ 70 (i : Int)) dX12_nextPlan_59 rfl rfl (⟨by omega, by omega⟩) (by rw [g1 70 (by decide)]) ?_
              refine v_bipush 62 dX12_nextPlan_60 rfl ⟨by decide +kernel, by decide⟩ ?_
              refine v_icmp_ne 74 65 dX12_nextPlan_62 rfl rfl (fun h62 => ?_) (fun h62 => ?_)
              · skip
                refine v_aload0 75 dX12_nextPlan_74 rfl ?_
                refine v_getR 78 dX12_nextPlan_75 rfl fX12_25 rfl rfl ?_
                refine v_iload1 79 dX12_nextPlan_78 rfl ?_
                refine v_ialde 80 (σ 70 (i : Int)) dX12_nextPlan_79 rfl rfl (⟨by omega, by omega⟩) (by rw [g1 70 (by decide)]) ?_
                refine v_iast 81 dX12_nextPlan_80 rfl rfl (⟨by omega, by omega⟩) ?_
                refine v_iinc1 84 dX12_nextPlan_81 rfl (by decide) rfl (⟨by omega, by omega⟩) ?_
                refine v_goto 7 dX12_nextPlan_84 rfl ?_
                have hm9 : n - i = (n - (i + 1)) + 1 := by omega
                exact ih i _ (by omega) (by omega) (fun c a => by rw [wr_ne a]; exact g1 c a) (fun j a b => by rw [wr_at, if_neg (by omega)]; exact g2 j a (by omega)) (fun j a b => by
                  rw [wr_at]
                  by_cases ej : j = (i : Int)
                  · subst ej
                    rw [if_pos rfl, fsv]
                    first | (exfalso; omega) | rw [if_pos (by omega)] | rw [if_neg (by omega)]
                  · rw [if_neg ej]
                    exact g3 j (by omega) b) (by rw [hm9]; exact nx_stop g4 (by rintro ⟨q1, q2⟩; have := g2 (i : Int) (by omega) (by omega); omega))
              · skip
                refine v_aload0 66 dX12_nextPlan_65 rfl ?_
                refine v_getR 69 dX12_nextPlan_66 rfl fX12_7 rfl rfl ?_
                refine v_iload1 70 dX12_nextPlan_69 rfl ?_
                refine v_ialde 71 (σ 65 (i : Int)) dX12_nextPlan_70 rfl rfl (⟨by omega, by omega⟩) (by rw [g1 65 (by decide)]) ?_
                refine v_goto 80 dX12_nextPlan_71 rfl ?_
                refine v_iast 81 dX12_nextPlan_80 rfl rfl (⟨by omega, by omega⟩) ?_
                refine v_iinc1 84 dX12_nextPlan_81 rfl (by decide) rfl (⟨by omega, by omega⟩) ?_
                refine v_goto 7 dX12_nextPlan_84 rfl ?_
                have hm9 : n - i = (n - (i + 1)) + 1 := by omega
                exact ih i _ (by omega) (by omega) (fun c a => by rw [wr_ne a]; exact g1 c a) (fun j a b => by rw [wr_at, if_neg (by omega)]; exact g2 j a (by omega)) (fun j a b => by
                  rw [wr_at]
                  by_cases ej : j = (i : Int)
                  · subst ej
                    rw [if_pos rfl, fsv]
                    first | (exfalso; omega) | rw [if_pos (by omega)] | rw [if_neg (by omega)]
                  · rw [if_neg ej]
                    exact g3 j (by omega) b) (by rw [hm9]; exact nx_stop g4 (by rintro ⟨q1, q2⟩; have := g2 (i : Int) (by omega) (by omega); omega))
            · skip
              refine v_aload0 38 dX12_nextPlan_37 rfl ?_
              refine v_getR 41 dX12_nextPlan_38 rfl fX12_68 rfl rfl ?_
              refine v_iload1 42 dX12_nextPlan_41 rfl ?_
              refine v_dup2 43 dX12_nextPlan_42 rfl ?_
              refine v_ialde 44 (σ 83 (i : Int)) dX12_nextPlan_43 rfl rfl (⟨by omega, by omega⟩) (g2i) ?_
              refine v_iconst 45 dX12_nextPlan_44 rfl ⟨by decide +kernel, by decide⟩ ?_
              refine v_iadd 46 dX12_nextPlan_45 rfl (⟨by omega, by omega⟩) ?_
              refine v_iast 47 dX12_nextPlan_46 rfl rfl (⟨by omega, by omega⟩) ?_
              refine v_iconst 48 dX12_nextPlan_47 rfl ⟨by decide +kernel, by decide⟩ ?_
              refine v_zretI dX12_nextPlan_48 rfl (Or.inr rfl) ?_
              refine ht _ (fun c a => by rw [wr_ne a]; exact g1 c a) ?_
              have hm8 : n = i + ((n - (i + 1)) + 1) := by omega
              have q9 := nx_go0 (m := n - (i + 1)) (b := wr τ 83 (i : Int) (σ 83 (i : Int) + 1) 83) g4 ⟨by omega, by omega⟩ wr_eq (fun j a b => by rw [wr_at, if_neg (by omega)]; exact g3 (j : Int) (by omega) (by omega))
              have q8 := nx_up i (n - (i + 1) + 1) q9 (fun j a => by rw [wr_at, if_neg (by omega)]; exact g2 (j : Int) (by omega) (by omega))
              rw [← hm8] at q8
              exact q8
  refine v_aload0 1 dX12_nextPlan_0 rfl ?_
  refine v_getIe 4 0 (n) dX12_nextPlan_1 rfl fX12_93 rfl rfl rfl (hn) ?_
  refine v_iconst 5 dX12_nextPlan_4 rfl ⟨by decide +kernel, by decide⟩ ?_
  refine v_isub 6 dX12_nextPlan_5 rfl (⟨by omega, by omega⟩) ?_
  refine v_istore1 7 dX12_nextPlan_6 rfl (by decide) ?_
  exact L (n + 1) n _ (by omega) (by omega) (fun _ _ => rfl) (fun _ _ _ => rfl) (fun j a b => by omega) (by rw [Nat.sub_self]; rfl)
