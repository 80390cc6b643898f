set_option maxRecDepth 100000 in
set_option maxHeartbeats 4000000 in
/-- the reference's own cells but for the numbers of the way -/
def CoreW (σ τ : Mem) : Prop := (∀ j : Int, j ≠ 32 → j ≠ 33 → τ 64 j = σ 64 j) ∧ ∀ c : Nat, 65 ≤ c → c ≤ 82 → τ c = σ c
theorem CoreW.tr {σ τ υ : Mem} (h : CoreW σ τ) (h2 : CoreW τ υ) : CoreW σ υ := ⟨fun j a b => (h2.1 j a b).trans (h.1 j a b), fun c a b => (h2.2 c a b).trans (h.2 c a b)⟩
theorem RW.coreW {σ τ : Mem} {n R F : Nat} (hw : RW σ n R F) (h : CoreW σ τ) : RW τ n R F := by
  unfold RW at *
  rw [h.1 0 (by decide) (by decide), h.1 12 (by decide) (by decide), h.1 10 (by decide) (by decide), h.1 21 (by decide) (by decide), h.1 17 (by decide) (by decide), h.2 75 (by decide) (by decide), h.2 76 (by decide) (by decide), h.2 77 (by decide) (by decide), h.2 78 (by decide) (by decide), h.2 65 (by decide) (by decide), h.2 66 (by decide) (by decide), h.2 67 (by decide) (by decide), h.2 68 (by decide) (by decide), h.2 69 (by decide) (by decide), h.2 70 (by decide) (by decide), h.2 71 (by decide) (by decide), h.2 73 (by decide) (by decide), h.2 79 (by decide) (by decide)]
  exact hw
theorem rbrk_coreW {σ τ : Mem} (h : CoreW σ τ) (p : Int → Int) (n R : Nat) : rbrk τ p n R = rbrk σ p n R := by
  unfold rbrk rrk
  rw [h.2 74 (by decide) (by decide), h.2 75 (by decide) (by decide), h.2 76 (by decide) (by decide), h.2 77 (by decide) (by decide), h.2 78 (by decide) (by decide)]
/-- the plan where the decisions of left stay as in the base; how many rules it breaks -/
def gv (σ : Mem) (left : Nat) : Int → Int := fun d => if left.testBit d.toNat then rbv σ d else σ 72 d
def bbr (σ : Mem) (n R left : Nat) : Int := pop (rbrk σ (gv σ left) n R) 12
def bl (left n : Nat) : List Nat := (List.range n).filter (fun d => left.testBit d)
/-- all rows of the decisions of left, in their order; with each how many rules are broken behind it -/
def cm (b : Nat → Int) (n : Nat) : Nat → Nat → List (List (Int × Int))
  | 0, _ => [[]]
  | f + 1, left => (bl left n).flatMap (fun d => (cm b n f (clr left d)).map (fun s => ((d : Int), b (clr left d)) :: s))
def wst (r : List (Int × Int)) : Int := r.foldl (fun m x => if m < x.2 then x.2 else m) 0
def smm (r : List (Int × Int)) : Int := r.foldl (fun m x => m + x.2) 0
def wup (s : Int × Int × List (Int × Int)) (r : List (Int × Int)) : Int × Int × List (Int × Int) := if wst r < s.1 ∨ (wst r = s.1 ∧ smm r < s.2.1) then (wst r, smm r, r) else s
theorem wst_app (r : List (Int × Int)) (x : Int × Int) : wst (r ++ [x]) = if wst r < x.2 then x.2 else wst r := by unfold wst; rw [List.foldl_append]; rfl
theorem smm_app (r : List (Int × Int)) (x : Int × Int) : smm (r ++ [x]) = smm r + x.2 := by unfold smm; rw [List.foldl_append]; rfl
theorem bl_succ (left n : Nat) : bl left (n + 1) = bl left n ++ (if left.testBit n then [n] else []) := by
  unfold bl
  rw [List.range_succ, List.filter_append]
  cases h : left.testBit n <;> simp [h]
theorem sumI_dec {f g : Int → Int} : ∀ {n k : Nat}, k < n → (∀ j : Nat, j < n → j ≠ k → f (j : Int) = g (j : Int)) → f (k : Int) = g (k : Int) + 1 → sumI f n = sumI g n + 1
  | 0, k, hk, _, _ => by omega
  | n + 1, k, hk, h, he => by
    show sumI f n + f (n : Int) = sumI g n + g (n : Int) + 1
    by_cases e : k = n
    · subst e
      rw [sumI_congr (g := g) (fun j hj => h j (by omega) (by omega)), he]
      omega
    · rw [sumI_dec (k := k) (by omega) (fun j hj hn => h j (by omega) hn) he, h n (by omega) (by omega)]
      omega
theorem pop_clr {left d n : Nat} (hd : d < n) (h : left.testBit d = true) : pop left n = pop (clr left d) n + 1 := by
  unfold pop
  refine sumI_dec (k := d) hd (fun j hj hn => ?_) ?_
  · show one (left.testBit ((j : Int).toNat)) = one ((clr left d).testBit ((j : Int).toNat))
    rw [Int.toNat_natCast, clr_test]
    have : ¬ d = j := fun q => hn q.symm
    simp [this]
  · show one (left.testBit ((d : Int).toNat)) = one ((clr left d).testBit ((d : Int).toNat)) + 1
    rw [Int.toNat_natCast, clr_test, h]
    simp [one]
theorem pop_zero {left n : Nat} (hl : left < 2 ^ n) (h : pop left n = 0) : left = 0 := by
  apply Nat.eq_of_testBit_eq
  intro i
  rw [Nat.zero_testBit]
  by_cases hi : i < n
  · cases hb : left.testBit i with
    | false => rfl
    | true =>
      have h1 := pop_clr hi hb
      have h2 := (pop_bnd (clr left i) n).1
      omega
  · exact Nat.testBit_lt_two_pow (Nat.lt_of_lt_of_le hl (Nat.pow_le_pow_right (by omega) (by omega)))
theorem pop0 (n : Nat) : pop 0 n = 0 := by
  have h := sumI_congr (f := fun i => one ((0 : Nat).testBit i.toNat)) (g := fun _ => 0) (n := n) (fun k _ => by simp [one])
  unfold pop
  rw [h]
  have : ∀ n, sumI (fun _ => 0) n = 0 := by
    intro n
    induction n with
    | zero => rfl
    | succ n ih => show sumI _ n + 0 = 0; rw [ih]; rfl
  exact this n
def WSt (τ : Mem) (s : Int × Int × List (Int × Int)) : Prop := τ 64 32 = s.1 ∧ τ 64 33 = s.2.1 ∧ ∀ (i : Nat) (x : Int × Int), s.2.2[i]? = some x → τ 87 (i : Int) = x.1 ∧ τ 88 (i : Int) = x.2
def Pre (τ : Mem) (r : List (Int × Int)) : Prop := ∀ (i : Nat) (x : Int × Int), r[i]? = some x → τ 86 (i : Int) = x.1 ∧ τ 89 (i : Int) = x.2
theorem bbr_bnd (σ : Mem) (n R left : Nat) : 0 ≤ bbr σ n R left ∧ bbr σ n R left ≤ 12 := pop_bnd _ _
set_option maxRecDepth 100000 in
set_option maxHeartbeats 4000000 in
theorem Run_args {M : MD} {d : Nat} {vs vs' : List AV} {σ : Mem} {Q : Option Int → Mem → Prop} (h : vs = vs') (k : Run M d vs' σ Q) : Run M d vs σ Q := h ▸ k
set_option maxRecDepth 100000 in
set_option maxHeartbeats 4000000 in
theorem X12_goOn {σ : Mem} {n R F : Nat} (hw : RW σ n R F) (hb5 : σ 64 21 ≠ -5) (hp72 : RP σ 72 n) : ∀ (m d left : Nat) (pre : List (Int × Int)) (τ : Mem) (s : Int × Int × List (Int × Int)) (K : Mem → Prop), m + 2 ≤ d → pop left n = m → left < 2 ^ n → pre.length + m ≤ 6 → (0 ≤ wst pre ∧ wst pre ≤ 12) → (0 ≤ smm pre ∧ smm pre ≤ 12 * (pre.length : Int)) → CoreW σ τ → (∀ j : Int, 0 ≤ j → j < n → τ 85 j = gv σ left j) → Pre τ pre → WSt τ s → (∀ υ : Mem, (CoreW τ υ ∧ (∀ c, c ≠ 64 → c ≠ 86 → c ≠ 87 → c ≠ 88 → c ≠ 89 → c ≠ 85 → υ c = τ c) ∧ (∀ j : Int, 0 ≤ j → j < n → υ 85 j = τ 85 j) ∧ (∀ j : Nat, j < pre.length → υ 86 (j : Int) = τ 86 (j : Int) ∧ υ 89 (j : Int) = τ 89 (j : Int)) ∧ WSt υ ((List.map (fun q => pre ++ q) (cm (bbr σ n R) n m left)).foldl wup s)) → K υ) → Run mX12_goOn d [.inr (some 64), .inl (left : Int), .inl (pre.length : Int), .inl (wst pre), .inl (smm pre)] τ (RV K) := by
  have hn6 : n ≤ 6 := hw.1.2.1
  have h2n : 2 ^ n ≤ 2 ^ 6 := Nat.pow_le_pow_right (by omega) hn6
  have h64 : (2 : Nat) ^ 6 = 64 := by decide
  intro m
  induction m with
  | zero =>
    intro d left pre τ s K hd hpop hl2 hlen hw1 hs1 hcore hgo hpre hst hk0
    have hl0 := pop_zero hl2 hpop
    subst hl0
    refine Run_of (ls := [.inr (some 64), .inl ((0 : Nat) : Int), .inl (pre.length : Int), .inl (wst pre), .inl (smm pre), .inr none, .inr none]) (by decide) (Nat.le_of_ble_eq_true rfl) rfl ?_
    have CP : ∀ (k : Nat) (i : Nat) (υ : Mem) (z6 : AV), pre.length - i < k → i ≤ pre.length → (wst pre < s.1 ∨ (wst pre = s.1 ∧ smm pre < s.2.1)) → (∀ c, c ≠ 87 → c ≠ 88 → υ c = wr (wr τ 64 32 (wst pre)) 64 33 (smm pre) c) → (∀ (j : Nat) (x : Int × Int), j < i → pre[j]? = some x → υ 87 (j : Int) = x.1 ∧ υ 88 (j : Int) = x.2) → V mX12_goOn d (RV K) 43 [.inr (some 64), .inl ((0 : Nat) : Int), .inl (pre.length : Int), .inl (wst pre), .inl (smm pre), .inl (i : Int), z6] [] υ := by
      intro k
      induction k with
      | zero => intros; omega
      | succ k ih =>
          intro i υ z6 hk hi hbet g1 g2
          refine v_iload5 45 dX12_goOn_43 rfl ?_
          refine v_iload2 46 dX12_goOn_45 rfl ?_
          refine v_icmp_ge 83 49 dX12_goOn_46 rfl rfl (fun h46 => ?_) (fun h46 => ?_)
          · skip
            refine v_vretV dX12_goOn_83 rfl ?_
            refine hk0 υ ⟨⟨fun j a b => ?_, fun c a b => ?_⟩, ?_, ?_, ?_, ?_⟩
            · rw [g1 64 (by decide) (by decide), wr_at, if_neg b, wr_at, if_neg a]
            · rw [g1 c (by omega) (by omega), wr_ne (by omega), wr_ne (by omega)]
            · intro c a b e f g h; rw [g1 c e f, wr_ne a, wr_ne a]
            · intro j a b; rw [g1 85 (by decide) (by decide), wr_ne (by decide), wr_ne (by decide)]
            · intro j a; rw [g1 86 (by decide) (by decide), g1 89 (by decide) (by decide), wr_ne (by decide), wr_ne (by decide), wr_ne (by decide), wr_ne (by decide)]; exact ⟨rfl, rfl⟩
            · have e9 : (List.map (fun q => pre ++ q) (cm (bbr σ n R) n 0 0)).foldl wup s = wup s pre := by
                show wup s (pre ++ []) = _
                rw [List.append_nil]
              rw [e9]
              unfold wup
              rw [if_pos hbet]
              exact ⟨by rw [g1 64 (by decide) (by decide), wr_at, if_neg (by decide), wr_eq], by rw [g1 64 (by decide) (by decide), wr_eq], fun j x h => by
                have h' : pre[j]? = some x := h
                exact g2 j x (by have := (List.getElem?_eq_some_iff.mp h').1; omega) h'⟩
          · skip
            obtain ⟨x, hx⟩ : ∃ x, pre[i]? = some x := ⟨pre[i]'(by omega), List.getElem?_eq_getElem (by omega)⟩
            have hp9 := hpre i x hx
            have g86 : υ 86 = τ 86 := by rw [g1 86 (by decide) (by decide), wr_ne (by decide), wr_ne (by decide)]
            have g89 : υ 89 = τ 89 := by rw [g1 89 (by decide) (by decide), wr_ne (by decide), wr_ne (by decide)]
            refine v_aload0 50 dX12_goOn_49 rfl ?_
            refine v_getR 53 dX12_goOn_50 rfl fX12_80 rfl rfl ?_
            refine v_iload5 55 dX12_goOn_53 rfl ?_
            refine v_aload0 56 dX12_goOn_55 rfl ?_
            refine v_getR 59 dX12_goOn_56 rfl fX12_77 rfl rfl ?_
            refine v_iload5 61 dX12_goOn_59 rfl ?_
            refine v_ialde 62 (x.1) dX12_goOn_61 rfl rfl (⟨by omega, by omega⟩) (by rw [g86]; exact hp9.1) ?_
            refine v_iast 63 dX12_goOn_62 rfl rfl (⟨by omega, by omega⟩) ?_
            refine v_aload0 64 dX12_goOn_63 rfl ?_
            refine v_getR 67 dX12_goOn_64 rfl fX12_83 rfl rfl ?_
            refine v_iload5 69 dX12_goOn_67 rfl ?_
            refine v_aload0 70 dX12_goOn_69 rfl ?_
            refine v_getR 73 dX12_goOn_70 rfl fX12_86 rfl rfl ?_
            refine v_iload5 75 dX12_goOn_73 rfl ?_
            refine v_ialde 76 (x.2) dX12_goOn_75 rfl rfl (⟨by omega, by omega⟩) (by rw [wr_ne (by decide), g89]; exact hp9.2) ?_
            refine v_iast 77 dX12_goOn_76 rfl rfl (⟨by omega, by omega⟩) ?_
            refine v_iinc5 80 dX12_goOn_77 rfl (by decide) rfl (⟨by omega, by omega⟩) ?_
            refine v_goto 43 dX12_goOn_80 rfl ?_
            refine ih (i + 1) _ _ (by omega) (by omega) hbet (fun c a b => by rw [wr_ne b, wr_ne a]; exact g1 c a b) (fun j y a b => ?_)
            rw [wr_ne (by decide), wr_at, wr_at, wr_ne (by decide)]
            by_cases ej : (j : Int) = (i : Int)
            · have ej2 : j = i := by omega
              subst ej2
              rw [hx] at b
              cases b
              rw [if_pos rfl, if_pos rfl]
              exact ⟨rfl, rfl⟩
            · rw [if_neg ej, if_neg ej]
              exact g2 j y (by omega) b
    refine v_iload1 1 dX12_goOn_0 rfl ?_
    refine v_if_ne 84 4 dX12_goOn_1 rfl rfl (fun h1 => ?_) (fun h1 => ?_)
    · skip
      exact absurd rfl h1
    · skip
      refine v_iload3 5 dX12_goOn_4 rfl ?_
      refine v_aload0 6 dX12_goOn_5 rfl ?_
      refine v_getI 9 32 dX12_goOn_6 rfl fX12_165 rfl rfl rfl ?_
      refine v_icmp_lt 29 12 dX12_goOn_9 rfl rfl (fun h9 => ?_) (fun h9 => ?_)
      · skip
        refine v_aload0 30 dX12_goOn_29 rfl ?_
        refine v_iload3 31 dX12_goOn_30 rfl ?_
        refine v_putI 34 32 dX12_goOn_31 rfl pX12_165 rfl rfl rfl ?_
        refine v_aload0 35 dX12_goOn_34 rfl ?_
        refine v_iload4 37 dX12_goOn_35 rfl ?_
        refine v_putI 40 33 dX12_goOn_37 rfl pX12_168 rfl rfl rfl ?_
        refine v_iconst 41 dX12_goOn_40 rfl ⟨by decide +kernel, by decide⟩ ?_
        refine v_istore5 43 dX12_goOn_41 rfl (by decide) ?_
        exact CP (pre.length + 1) 0 _ _ (by omega) (by omega) (by have := hst.1; have := hst.2.1; omega) (fun _ _ _ => rfl) (fun j x a b => by omega)
      · skip
        refine v_iload3 13 dX12_goOn_12 rfl ?_
        refine v_aload0 14 dX12_goOn_13 rfl ?_
        refine v_getI 17 32 dX12_goOn_14 rfl fX12_165 rfl rfl rfl ?_
        refine v_icmp_ne 83 20 dX12_goOn_17 rfl rfl (fun h17 => ?_) (fun h17 => ?_)
        · skip
          refine v_vretV dX12_goOn_83 rfl ?_
          refine hk0 τ ⟨⟨fun _ _ _ => rfl, fun _ _ _ => rfl⟩, fun _ _ _ _ _ _ _ => rfl, fun _ _ _ => rfl, fun _ _ => ⟨rfl, rfl⟩, ?_⟩
          have e9 : (List.map (fun q => pre ++ q) (cm (bbr σ n R) n 0 0)).foldl wup s = wup s pre := by
            show wup s (pre ++ []) = _
            rw [List.append_nil]
          rw [e9]
          unfold wup
          rw [if_neg (by have := hst.1; have := hst.2.1; omega)]
          exact hst
        · skip
          refine v_iload4 22 dX12_goOn_20 rfl ?_
          refine v_aload0 23 dX12_goOn_22 rfl ?_
          refine v_getI 26 33 dX12_goOn_23 rfl fX12_168 rfl rfl rfl ?_
          refine v_icmp_ge 83 29 dX12_goOn_26 rfl rfl (fun h26 => ?_) (fun h26 => ?_)
          · skip
            refine v_vretV dX12_goOn_83 rfl ?_
            refine hk0 τ ⟨⟨fun _ _ _ => rfl, fun _ _ _ => rfl⟩, fun _ _ _ _ _ _ _ => rfl, fun _ _ _ => rfl, fun _ _ => ⟨rfl, rfl⟩, ?_⟩
            have e9 : (List.map (fun q => pre ++ q) (cm (bbr σ n R) n 0 0)).foldl wup s = wup s pre := by
              show wup s (pre ++ []) = _
              rw [List.append_nil]
            rw [e9]
            unfold wup
            rw [if_neg (by have := hst.1; have := hst.2.1; omega)]
            exact hst
          · skip
            refine v_aload0 30 dX12_goOn_29 rfl ?_
            refine v_iload3 31 dX12_goOn_30 rfl ?_
            refine v_putI 34 32 dX12_goOn_31 rfl pX12_165 rfl rfl rfl ?_
            refine v_aload0 35 dX12_goOn_34 rfl ?_
            refine v_iload4 37 dX12_goOn_35 rfl ?_
            refine v_putI 40 33 dX12_goOn_37 rfl pX12_168 rfl rfl rfl ?_
            refine v_iconst 41 dX12_goOn_40 rfl ⟨by decide +kernel, by decide⟩ ?_
            refine v_istore5 43 dX12_goOn_41 rfl (by decide) ?_
            exact CP (pre.length + 1) 0 _ _ (by omega) (by omega) (by have := hst.1; have := hst.2.1; omega) (fun _ _ _ => rfl) (fun j x a b => by omega)
  | succ m ih =>
    intro d left pre τ s K hd hpop hl2 hlen hw1 hs1 hcore hgo hpre hst hk0
    refine Run_of (ls := [.inr (some 64), .inl (left : Int), .inl (pre.length : Int), .inl (wst pre), .inl (smm pre), .inr none, .inr none]) (by decide) (Nat.le_of_ble_eq_true rfl) rfl ?_
    have LD : ∀ (k : Nat) (i : Nat) (υ : Mem) (z6 : AV), n - i < k → i ≤ n → (CoreW τ υ ∧ (∀ c, c ≠ 64 → c ≠ 86 → c ≠ 87 → c ≠ 88 → c ≠ 89 → c ≠ 85 → υ c = τ c) ∧ (∀ j : Int, 0 ≤ j → j < n → υ 85 j = τ 85 j) ∧ (∀ j : Nat, j < pre.length → υ 86 (j : Int) = τ 86 (j : Int) ∧ υ 89 (j : Int) = τ 89 (j : Int)) ∧ WSt υ ((List.map (fun q => pre ++ q) ((bl left i).flatMap (fun d => (cm (bbr σ n R) n m (clr left d)).map (fun s => ((d : Int), bbr σ n R (clr left d)) :: s)))).foldl wup s)) → V mX12_goOn d (RV K) 87 [.inr (some 64), .inl (left : Int), .inl (pre.length : Int), .inl (wst pre), .inl (smm pre), .inl (i : Int), z6] [] υ := by
      intro k
      induction k with
      | zero => intros; omega
      | succ k ih2 =>
          intro i υ z6 hk hi hinv
          obtain ⟨hcw, hf1, hgo1, hpr1, hws1⟩ := hinv
          have hcw0 := hcore.tr hcw
          have hwu := hw.coreW hcw0
          refine v_iload5 89 dX12_goOn_87 rfl ?_
          refine v_aload0 90 dX12_goOn_89 rfl ?_
          refine v_getIe 93 0 (n) dX12_goOn_90 rfl fX12_93 rfl rfl rfl (by rw [hcw0.1 0 (by decide) (by decide)]; exact hw.1.1) ?_
          refine v_icmp_ge 209 96 dX12_goOn_93 rfl rfl (fun h93 => ?_) (fun h93 => ?_)
          · skip
            refine v_vretV dX12_goOn_209 rfl ?_
            obtain rfl : i = n := by omega
            exact hk0 υ ⟨hcw, hf1, hgo1, hpr1, hws1⟩
          · skip
            refine v_iload1 97 dX12_goOn_96 rfl ?_
            refine v_iload5 99 dX12_goOn_97 rfl ?_
            refine v_ishr 100 dX12_goOn_99 rfl ?_
            refine v_iconst 101 dX12_goOn_100 rfl ⟨by decide +kernel, by decide⟩ ?_
            refine v_iand 102 dX12_goOn_101 rfl ?_
            rw [bit_nat (by omega : left < 2 ^ 31) (by omega : i < 32)]
            refine v_iconst 103 dX12_goOn_102 rfl ⟨by decide +kernel, by decide⟩ ?_
            refine v_icmp_ne 203 106 dX12_goOn_103 rfl rfl (fun h103 => ?_) (fun h103 => ?_)
            · skip
              refine v_iinc5 206 dX12_goOn_203 rfl (by decide) rfl (⟨by omega, by omega⟩) ?_
              refine v_goto 87 dX12_goOn_206 rfl ?_
              first
                | (have hnb : left.testBit i = false := by
                     cases hb : left.testBit i with
                     | false => rfl
                     | true => exfalso; rw [hb] at h103; exact h103 rfl
                   refine ih2 (i + 1) υ _ (by omega) (by omega) ⟨hcw, hf1, hgo1, hpr1, ?_⟩
                   rw [bl_succ, hnb]
                   show WSt υ ((List.map (fun q => pre ++ q) ((bl left i ++ []).flatMap _)).foldl wup s)
                   rw [List.append_nil]
                   exact hws1)
                | (refine ih2 (i + 1) _ _ (by omega) (by omega) ⟨⟨fun j a b => ?_, fun c a b => ?_⟩, fun c a b e f g h => ?_, fun j a b => ?_, fun j hj => ?_, ?_⟩
                   · rw [wr_ne (by decide), e1.1 j a b, hcw3.1 j a b]; exact hcw.1 j a b
                   · rw [wr_ne (by omega), e1.2 c a b, hcw3.2 c a b]; exact hcw.2 c a b
                   · rw [wr_ne h, e2 c a b e f g h, wr_ne g, wr_ne b, wr_ne h]; exact hf1 c a b e f g h
                   · rw [wr_at]
                     by_cases ej : j = (i : Int)
                     · rw [if_pos ej, ej, hgo (i : Int) (by omega) (by omega)]
                       unfold gv
                       rw [Int.toNat_natCast, htb, if_pos rfl]
                     · rw [if_neg ej, e3 j a b, wr_ne (by decide), wr_ne (by decide), wr_at, if_neg ej]
                       exact hgo1 j a b
                   · have h7 := e4 j (by rw [List.length_append]; show j < pre.length + 1; omega)
                     rw [wr_ne (by decide), wr_ne (by decide), h7.1, h7.2, wr_ne (by decide), wr_at, if_neg (by omega), wr_at, if_neg (by omega), wr_ne (by decide), wr_ne (by decide), wr_ne (by decide)]
                     exact hpr1 j hj
                   · have hpe : ((List.map (fun q => pre ++ q) ((bl left (i + 1)).flatMap (fun d => (cm (bbr σ n R) n m (clr left d)).map (fun s => ((d : Int), bbr σ n R (clr left d)) :: s)))).foldl wup s) = (List.map (fun q => (pre ++ [((i : Int), bbr σ n R (clr left i))]) ++ q) (cm (bbr σ n R) n m (clr left i))).foldl wup ((List.map (fun q => pre ++ q) ((bl left i).flatMap (fun d => (cm (bbr σ n R) n m (clr left d)).map (fun s => ((d : Int), bbr σ n R (clr left d)) :: s)))).foldl wup s) := by
                       rw [bl_succ, htb, if_pos rfl, List.flatMap_append, List.map_append, List.foldl_append]
                       congr 1
                       rw [List.flatMap_cons, List.flatMap_nil, List.append_nil, List.map_map]
                       apply List.map_congr_left
                       intro q _
                       show pre ++ (((i : Int), bbr σ n R (clr left i)) :: q) = pre ++ [((i : Int), bbr σ n R (clr left i))] ++ q
                       rw [List.append_assoc]
                       rfl
                     rw [hpe]
                     exact ⟨e5.1, e5.2.1, fun j x h => e5.2.2 j x h⟩)
            · skip
              have htb : left.testBit i = true := by
                cases hb : left.testBit i with
                | true => rfl
                | false => exfalso; rw [hb] at h103; exact h103 (by decide)
              have hpc := pop_clr (n := n) (by omega) htb
              have hcl : clr left i < 2 ^ n := Nat.lt_of_le_of_lt (clr_le left i) hl2
              have hpp := (pop_bnd (clr left i) n).1
              have hlen6 : pre.length + 1 ≤ 6 := by omega
              have hba1 : σ 64 21 ≠ -5 := hb5
              have hbi := (hw.2.2.2.2.2.1.resolve_left hb5)
              have hbp := (hw.2.2.2.2.2.1.resolve_left hb5).2.2 (i : Int) (by omega) (by omega)
              refine v_aload0 107 dX12_goOn_106 rfl ?_
              refine v_getR 110 dX12_goOn_107 rfl fX12_74 rfl rfl ?_
              refine v_iload5 112 dX12_goOn_110 rfl ?_
              refine v_aload0 113 dX12_goOn_112 rfl ?_
              refine v_getR 116 dX12_goOn_113 rfl fX12_31 rfl rfl ?_
              refine v_iload5 118 dX12_goOn_116 rfl ?_
              refine v_ialde 119 (σ 72 (i : Int)) dX12_goOn_118 rfl rfl (⟨by omega, by omega⟩) (by rw [hcw0.2 72 (by decide) (by decide)]) ?_
              refine v_iast 120 dX12_goOn_119 rfl rfl (⟨by omega, by omega⟩) ?_
              refine v_aload0 121 dX12_goOn_120 rfl ?_
              refine v_getR 124 dX12_goOn_121 rfl fX12_77 rfl rfl ?_
              refine v_iload2 125 dX12_goOn_124 rfl ?_
              refine v_iload5 127 dX12_goOn_125 rfl ?_
              refine v_iast 128 dX12_goOn_127 rfl rfl (⟨by omega, by omega⟩) ?_
              refine v_aload0 129 dX12_goOn_128 rfl ?_
              refine v_aload0 130 dX12_goOn_129 rfl ?_
              refine v_getR 133 dX12_goOn_130 rfl fX12_74 rfl rfl ?_
              refine v_cvI1 mX12_brokenOf 136 dX12_goOn_133 rfl kX12_134 rfl rfl (by omega) (Nat.le_of_ble_eq_true rfl) ?_
              have hgoi : ∀ j : Nat, j < n → wr (wr υ 85 (i : Int) (σ 72 (i : Int))) 86 (pre.length : Int) (i : Int) 85 (j : Int) = gv σ (clr left i) (j : Int) := fun j hj => by
                rw [wr_ne (by decide), wr_at]
                unfold gv
                rw [Int.toNat_natCast, clr_test]
                by_cases ej : (j : Int) = (i : Int)
                · have ej2 : j = i := by omega
                  subst ej2
                  rw [if_pos rfl]
                  simp
                · have ej2 : ¬ i = j := by omega
                  rw [if_neg ej, hgo1 (j : Int) (by omega) (by omega), hgo (j : Int) (by omega) (by omega)]
                  unfold gv
                  rw [Int.toNat_natCast]
                  simp [ej2]
              have hcw2 : CoreW σ (wr (wr υ 85 (i : Int) (σ 72 (i : Int))) 86 (pre.length : Int) (i : Int)) := ⟨fun j a b => by rw [wr_ne (by decide), wr_ne (by decide)]; exact hcw0.1 j a b, fun c a b => by rw [wr_ne (by omega), wr_ne (by omega)]; exact hcw0.2 c a b⟩
              have hRP : RP (wr (wr υ 85 (i : Int) (σ 72 (i : Int))) 86 (pre.length : Int) (i : Int)) 85 n := fun j a b => by
                have h1 := hgoi j.toNat (by omega)
                rw [Int.toNat_of_nonneg a] at h1
                rw [h1]
                unfold gv
                split
                · exact hbi.2.2 j a b
                · exact hp72 j a b
              refine X12_brokenOf (hw.coreW hcw2) rfl hRP (by omega) ?_
              rw [rbrk_coreW hcw2, rbrk_congr hw hgoi]
              have hbl : rbrk σ (gv σ (clr left i)) n R < 4096 := rbrk_lt hw _
              refine v_csI1 mX12_ones 139 dX12_goOn_136 rfl kX12_158 (by omega) (Nat.le_of_ble_eq_true rfl) ?_
              refine X12_ones hbl ?_
              have ebb : pop (rbrk σ (gv σ (clr left i)) n R) 12 = bbr σ n R (clr left i) := rfl
              rw [ebb]
              have hbb := bbr_bnd σ n R (clr left i)
              refine v_istore6 141 dX12_goOn_139 rfl (by decide) ?_
              refine v_aload0 142 dX12_goOn_141 rfl ?_
              refine v_getR 145 dX12_goOn_142 rfl fX12_86 rfl rfl ?_
              refine v_iload2 146 dX12_goOn_145 rfl ?_
              refine v_iload6 148 dX12_goOn_146 rfl ?_
              refine v_iast 149 dX12_goOn_148 rfl rfl (⟨by omega, by omega⟩) ?_
              refine v_aload0 150 dX12_goOn_149 rfl ?_
              refine v_iload1 151 dX12_goOn_150 rfl ?_
              refine v_iconst 152 dX12_goOn_151 rfl ⟨by decide +kernel, by decide⟩ ?_
              refine v_iload5 154 dX12_goOn_152 rfl ?_
              refine v_ishl 155 dX12_goOn_154 rfl ?_
              refine v_iconst 156 dX12_goOn_155 rfl ⟨by decide +kernel, by decide⟩ ?_
              refine v_ixor 157 dX12_goOn_156 rfl ?_
              refine v_iand 158 dX12_goOn_157 rfl ?_
              refine v_iload2 159 dX12_goOn_158 rfl ?_
              refine v_iconst 160 dX12_goOn_159 rfl ⟨by decide +kernel, by decide⟩ ?_
              refine v_iadd 161 dX12_goOn_160 rfl (⟨by omega, by omega⟩) ?_
              refine v_iload6 163 dX12_goOn_161 rfl ?_
              refine v_iload3 164 dX12_goOn_163 rfl ?_
              refine v_icmp_le 172 167 dX12_goOn_164 rfl rfl (fun h164 => ?_) (fun h164 => ?_)
              · skip
                refine v_iload3 173 dX12_goOn_172 rfl ?_
                refine v_iload4 175 dX12_goOn_173 rfl ?_
                refine v_iload6 177 dX12_goOn_175 rfl ?_
                refine v_iadd 178 dX12_goOn_177 rfl (⟨by omega, by omega⟩) ?_
                refine v_cvV4 mX12_goOn 181 dX12_goOn_178 rfl kX12_171 rfl rfl (by omega) (Nat.le_of_ble_eq_true rfl) ?_
                refine Run_args (vs' := [.inr (some 64), .inl ((clr left i : Nat) : Int), .inl ((pre ++ [((i : Int), bbr σ n R (clr left i))]).length : Int), .inl (wst (pre ++ [((i : Int), bbr σ n R (clr left i))])), .inl (smm (pre ++ [((i : Int), bbr σ n R (clr left i))]))]) (by
                  rw [band_clr (by omega : left < 2 ^ 31) (by omega : i < 31), wst_app, smm_app, List.length_append]
                  first
                    | (rw [if_pos (by omega : wst pre < bbr σ n R (clr left i))]; rfl)
                    | (rw [if_neg (by omega : ¬ wst pre < bbr σ n R (clr left i))]; rfl)) ?_
                have hcw3 : CoreW υ (wr (wr (wr υ 85 (i : Int) (σ 72 (i : Int))) 86 (pre.length : Int) (i : Int)) 89 (pre.length : Int) (bbr σ n R (clr left i))) := ⟨fun j a b => by rw [wr_ne (by decide), wr_ne (by decide), wr_ne (by decide)], fun c a b => by rw [wr_ne (by omega), wr_ne (by omega), wr_ne (by omega)]⟩
                refine ih (d - 1) (clr left i) (pre ++ [((i : Int), bbr σ n R (clr left i))]) (wr (wr (wr υ 85 (i : Int) (σ 72 (i : Int))) 86 (pre.length : Int) (i : Int)) 89 (pre.length : Int) (bbr σ n R (clr left i))) ((List.map (fun q => pre ++ q) ((bl left i).flatMap (fun d => (cm (bbr σ n R) n m (clr left d)).map (fun s => ((d : Int), bbr σ n R (clr left d)) :: s)))).foldl wup s) _ (by omega) (by omega) hcl (by rw [List.length_append]; show pre.length + 1 + m ≤ 6; omega) (by rw [wst_app]; show 0 ≤ (if wst pre < bbr σ n R (clr left i) then bbr σ n R (clr left i) else wst pre) ∧ (if wst pre < bbr σ n R (clr left i) then bbr σ n R (clr left i) else wst pre) ≤ 12; split <;> omega) (by rw [smm_app, List.length_append]; show 0 ≤ smm pre + bbr σ n R (clr left i) ∧ smm pre + bbr σ n R (clr left i) ≤ 12 * ((pre.length + 1 : Nat) : Int); omega) (hcw0.tr hcw3) (fun j a b => ?_) (fun j x h => ?_) ?_ (fun υ2 hfin2 => ?_)
                · have h1 := hgoi j.toNat (by omega)
                  rw [Int.toNat_of_nonneg a] at h1
                  rw [wr_ne (by decide)]
                  exact h1
                · rw [wr_ne (by decide), wr_at, wr_at, wr_ne (by decide), wr_ne (by decide), wr_ne (by decide)]
                  by_cases ej : (j : Int) = (pre.length : Int)
                  · have ej2 : j = pre.length := by omega
                    subst ej2
                    rw [List.getElem?_append_right (Nat.le_refl _), Nat.sub_self] at h
                    cases h
                    rw [if_pos rfl, if_pos rfl]
                    exact ⟨rfl, rfl⟩
                  · have hj : j < pre.length := by
                      have := (List.getElem?_eq_some_iff.mp h).1
                      rw [List.length_append] at this
                      have h9 : j < pre.length + 1 := this
                      omega
                    rw [List.getElem?_append_left hj] at h
                    rw [if_neg ej, if_neg ej, (hpr1 j hj).1, (hpr1 j hj).2]
                    exact hpre j x h
                · exact ⟨hws1.1, hws1.2.1, fun j x h => hws1.2.2 j x h⟩
                obtain ⟨e1, e2, e3, e4, e5⟩ := hfin2
                have hy64 : υ2 64 21 = σ 64 21 := by rw [e1.1 21 (by decide) (by decide)]; exact (hcw0.tr hcw3).1 21 (by decide) (by decide)
                have hy79 : υ2 79 = σ 79 := by rw [e1.2 79 (by decide) (by decide)]; exact (hcw0.tr hcw3).2 79 (by decide) (by decide)
                refine v_aload0 182 dX12_goOn_181 rfl ?_
                refine v_getR 185 dX12_goOn_182 rfl fX12_74 rfl rfl ?_
                refine v_iload5 187 dX12_goOn_185 rfl ?_
                refine v_aload0 188 dX12_goOn_187 rfl ?_
                refine v_getR 191 dX12_goOn_188 rfl fX12_52 rfl rfl ?_
                refine v_bipush 193 dX12_goOn_191 rfl ⟨by decide +kernel, by decide⟩ ?_
                refine v_aload0 194 dX12_goOn_193 rfl ?_
                refine v_getIe 197 21 (σ 64 21) dX12_goOn_194 rfl fX12_58 rfl rfl rfl (by rw [hy64]) ?_
                refine v_imul 198 dX12_goOn_197 rfl (⟨by omega, by omega⟩) ?_
                refine v_iload5 200 dX12_goOn_198 rfl ?_
                refine v_iadd 201 dX12_goOn_200 rfl (⟨by omega, by omega⟩) ?_
                refine v_ialde 202 (rbv σ (i : Int)) dX12_goOn_201 rfl rfl (⟨by omega, by omega⟩) (by rw [hy79]) ?_
                refine v_iast 203 dX12_goOn_202 rfl rfl (⟨by omega, by omega⟩) ?_
                refine v_iinc5 206 dX12_goOn_203 rfl (by decide) rfl (⟨by omega, by omega⟩) ?_
                refine v_goto 87 dX12_goOn_206 rfl ?_
                first
                  | (have hnb : left.testBit i = false := by
                       cases hb : left.testBit i with
                       | false => rfl
                       | true => exfalso; rw [hb] at h103; exact h103 rfl
                     refine ih2 (i + 1) υ _ (by omega) (by omega) ⟨hcw, hf1, hgo1, hpr1, ?_⟩
                     rw [bl_succ, hnb]
                     show WSt υ ((List.map (fun q => pre ++ q) ((bl left i ++ []).flatMap _)).foldl wup s)
                     rw [List.append_nil]
                     exact hws1)
                  | (refine ih2 (i + 1) _ _ (by omega) (by omega) ⟨⟨fun j a b => ?_, fun c a b => ?_⟩, fun c a b e f g h => ?_, fun j a b => ?_, fun j hj => ?_, ?_⟩
                     · rw [wr_ne (by decide), e1.1 j a b, hcw3.1 j a b]; exact hcw.1 j a b
                     · rw [wr_ne (by omega), e1.2 c a b, hcw3.2 c a b]; exact hcw.2 c a b
                     · rw [wr_ne h, e2 c a b e f g h, wr_ne g, wr_ne b, wr_ne h]; exact hf1 c a b e f g h
                     · rw [wr_at]
                       by_cases ej : j = (i : Int)
                       · rw [if_pos ej, ej, hgo (i : Int) (by omega) (by omega)]
                         unfold gv
                         rw [Int.toNat_natCast, htb, if_pos rfl]
                       · rw [if_neg ej, e3 j a b, wr_ne (by decide), wr_ne (by decide), wr_at, if_neg ej]
                         exact hgo1 j a b
                     · have h7 := e4 j (by rw [List.length_append]; show j < pre.length + 1; omega)
                       rw [wr_ne (by decide), wr_ne (by decide), h7.1, h7.2, wr_ne (by decide), wr_at, if_neg (by omega), wr_at, if_neg (by omega), wr_ne (by decide), wr_ne (by decide), wr_ne (by decide)]
                       exact hpr1 j hj
                     · have hpe : ((List.map (fun q => pre ++ q) ((bl left (i + 1)).flatMap (fun d => (cm (bbr σ n R) n m (clr left d)).map (fun s => ((d : Int), bbr σ n R (clr left d)) :: s)))).foldl wup s) = (List.map (fun q => (pre ++ [((i : Int), bbr σ n R (clr left i))]) ++ q) (cm (bbr σ n R) n m (clr left i))).foldl wup ((List.map (fun q => pre ++ q) ((bl left i).flatMap (fun d => (cm (bbr σ n R) n m (clr left d)).map (fun s => ((d : Int), bbr σ n R (clr left d)) :: s)))).foldl wup s) := by
                         rw [bl_succ, htb, if_pos rfl, List.flatMap_append, List.map_append, List.foldl_append]
                         congr 1
                         rw [List.flatMap_cons, List.flatMap_nil, List.append_nil, List.map_map]
                         apply List.map_congr_left
                         intro q _
                         show pre ++ (((i : Int), bbr σ n R (clr left i)) :: q) = pre ++ [((i : Int), bbr σ n R (clr left i))] ++ q
                         rw [List.append_assoc]
                         rfl
                       rw [hpe]
                       exact ⟨e5.1, e5.2.1, fun j x h => e5.2.2 j x h⟩)
              · skip
                refine v_iload6 169 dX12_goOn_167 rfl ?_
                refine v_goto 173 dX12_goOn_169 rfl ?_
                refine v_iload4 175 dX12_goOn_173 rfl ?_
                refine v_iload6 177 dX12_goOn_175 rfl ?_
                refine v_iadd 178 dX12_goOn_177 rfl (⟨by omega, by omega⟩) ?_
                refine v_cvV4 mX12_goOn 181 dX12_goOn_178 rfl kX12_171 rfl rfl (by omega) (Nat.le_of_ble_eq_true rfl) ?_
                refine Run_args (vs' := [.inr (some 64), .inl ((clr left i : Nat) : Int), .inl ((pre ++ [((i : Int), bbr σ n R (clr left i))]).length : Int), .inl (wst (pre ++ [((i : Int), bbr σ n R (clr left i))])), .inl (smm (pre ++ [((i : Int), bbr σ n R (clr left i))]))]) (by
                  rw [band_clr (by omega : left < 2 ^ 31) (by omega : i < 31), wst_app, smm_app, List.length_append]
                  first
                    | (rw [if_pos (by omega : wst pre < bbr σ n R (clr left i))]; rfl)
                    | (rw [if_neg (by omega : ¬ wst pre < bbr σ n R (clr left i))]; rfl)) ?_
                have hcw3 : CoreW υ (wr (wr (wr υ 85 (i : Int) (σ 72 (i : Int))) 86 (pre.length : Int) (i : Int)) 89 (pre.length : Int) (bbr σ n R (clr left i))) := ⟨fun j a b => by rw [wr_ne (by decide), wr_ne (by decide), wr_ne (by decide)], fun c a b => by rw [wr_ne (by omega), wr_ne (by omega), wr_ne (by omega)]⟩
                refine ih (d - 1) (clr left i) (pre ++ [((i : Int), bbr σ n R (clr left i))]) (wr (wr (wr υ 85 (i : Int) (σ 72 (i : Int))) 86 (pre.length : Int) (i : Int)) 89 (pre.length : Int) (bbr σ n R (clr left i))) ((List.map (fun q => pre ++ q) ((bl left i).flatMap (fun d => (cm (bbr σ n R) n m (clr left d)).map (fun s => ((d : Int), bbr σ n R (clr left d)) :: s)))).foldl wup s) _ (by omega) (by omega) hcl (by rw [List.length_append]; show pre.length + 1 + m ≤ 6; omega) (by rw [wst_app]; show 0 ≤ (if wst pre < bbr σ n R (clr left i) then bbr σ n R (clr left i) else wst pre) ∧ (if wst pre < bbr σ n R (clr left i) then bbr σ n R (clr left i) else wst pre) ≤ 12; split <;> omega) (by rw [smm_app, List.length_append]; show 0 ≤ smm pre + bbr σ n R (clr left i) ∧ smm pre + bbr σ n R (clr left i) ≤ 12 * ((pre.length + 1 : Nat) : Int); omega) (hcw0.tr hcw3) (fun j a b => ?_) (fun j x h => ?_) ?_ (fun υ2 hfin2 => ?_)
                · have h1 := hgoi j.toNat (by omega)
                  rw [Int.toNat_of_nonneg a] at h1
                  rw [wr_ne (by decide)]
                  exact h1
                · rw [wr_ne (by decide), wr_at, wr_at, wr_ne (by decide), wr_ne (by decide), wr_ne (by decide)]
                  by_cases ej : (j : Int) = (pre.length : Int)
                  · have ej2 : j = pre.length := by omega
                    subst ej2
                    rw [List.getElem?_append_right (Nat.le_refl _), Nat.sub_self] at h
                    cases h
                    rw [if_pos rfl, if_pos rfl]
                    exact ⟨rfl, rfl⟩
                  · have hj : j < pre.length := by
                      have := (List.getElem?_eq_some_iff.mp h).1
                      rw [List.length_append] at this
                      have h9 : j < pre.length + 1 := this
                      omega
                    rw [List.getElem?_append_left hj] at h
                    rw [if_neg ej, if_neg ej, (hpr1 j hj).1, (hpr1 j hj).2]
                    exact hpre j x h
                · exact ⟨hws1.1, hws1.2.1, fun j x h => hws1.2.2 j x h⟩
                obtain ⟨e1, e2, e3, e4, e5⟩ := hfin2
                have hy64 : υ2 64 21 = σ 64 21 := by rw [e1.1 21 (by decide) (by decide)]; exact (hcw0.tr hcw3).1 21 (by decide) (by decide)
                have hy79 : υ2 79 = σ 79 := by rw [e1.2 79 (by decide) (by decide)]; exact (hcw0.tr hcw3).2 79 (by decide) (by decide)
                refine v_aload0 182 dX12_goOn_181 rfl ?_
                refine v_getR 185 dX12_goOn_182 rfl fX12_74 rfl rfl ?_
                refine v_iload5 187 dX12_goOn_185 rfl ?_
                refine v_aload0 188 dX12_goOn_187 rfl ?_
                refine v_getR 191 dX12_goOn_188 rfl fX12_52 rfl rfl ?_
                refine v_bipush 193 dX12_goOn_191 rfl ⟨by decide +kernel, by decide⟩ ?_
                refine v_aload0 194 dX12_goOn_193 rfl ?_
                refine v_getIe 197 21 (σ 64 21) dX12_goOn_194 rfl fX12_58 rfl rfl rfl (by rw [hy64]) ?_
                refine v_imul 198 dX12_goOn_197 rfl (⟨by omega, by omega⟩) ?_
                refine v_iload5 200 dX12_goOn_198 rfl ?_
                refine v_iadd 201 dX12_goOn_200 rfl (⟨by omega, by omega⟩) ?_
                refine v_ialde 202 (rbv σ (i : Int)) dX12_goOn_201 rfl rfl (⟨by omega, by omega⟩) (by rw [hy79]) ?_
                refine v_iast 203 dX12_goOn_202 rfl rfl (⟨by omega, by omega⟩) ?_
                refine v_iinc5 206 dX12_goOn_203 rfl (by decide) rfl (⟨by omega, by omega⟩) ?_
                refine v_goto 87 dX12_goOn_206 rfl ?_
                first
                  | (have hnb : left.testBit i = false := by
                       cases hb : left.testBit i with
                       | false => rfl
                       | true => exfalso; rw [hb] at h103; exact h103 rfl
                     refine ih2 (i + 1) υ _ (by omega) (by omega) ⟨hcw, hf1, hgo1, hpr1, ?_⟩
                     rw [bl_succ, hnb]
                     show WSt υ ((List.map (fun q => pre ++ q) ((bl left i ++ []).flatMap _)).foldl wup s)
                     rw [List.append_nil]
                     exact hws1)
                  | (refine ih2 (i + 1) _ _ (by omega) (by omega) ⟨⟨fun j a b => ?_, fun c a b => ?_⟩, fun c a b e f g h => ?_, fun j a b => ?_, fun j hj => ?_, ?_⟩
                     · rw [wr_ne (by decide), e1.1 j a b, hcw3.1 j a b]; exact hcw.1 j a b
                     · rw [wr_ne (by omega), e1.2 c a b, hcw3.2 c a b]; exact hcw.2 c a b
                     · rw [wr_ne h, e2 c a b e f g h, wr_ne g, wr_ne b, wr_ne h]; exact hf1 c a b e f g h
                     · rw [wr_at]
                       by_cases ej : j = (i : Int)
                       · rw [if_pos ej, ej, hgo (i : Int) (by omega) (by omega)]
                         unfold gv
                         rw [Int.toNat_natCast, htb, if_pos rfl]
                       · rw [if_neg ej, e3 j a b, wr_ne (by decide), wr_ne (by decide), wr_at, if_neg ej]
                         exact hgo1 j a b
                     · have h7 := e4 j (by rw [List.length_append]; show j < pre.length + 1; omega)
                       rw [wr_ne (by decide), wr_ne (by decide), h7.1, h7.2, wr_ne (by decide), wr_at, if_neg (by omega), wr_at, if_neg (by omega), wr_ne (by decide), wr_ne (by decide), wr_ne (by decide)]
                       exact hpr1 j hj
                     · have hpe : ((List.map (fun q => pre ++ q) ((bl left (i + 1)).flatMap (fun d => (cm (bbr σ n R) n m (clr left d)).map (fun s => ((d : Int), bbr σ n R (clr left d)) :: s)))).foldl wup s) = (List.map (fun q => (pre ++ [((i : Int), bbr σ n R (clr left i))]) ++ q) (cm (bbr σ n R) n m (clr left i))).foldl wup ((List.map (fun q => pre ++ q) ((bl left i).flatMap (fun d => (cm (bbr σ n R) n m (clr left d)).map (fun s => ((d : Int), bbr σ n R (clr left d)) :: s)))).foldl wup s) := by
                         rw [bl_succ, htb, if_pos rfl, List.flatMap_append, List.map_append, List.foldl_append]
                         congr 1
                         rw [List.flatMap_cons, List.flatMap_nil, List.append_nil, List.map_map]
                         apply List.map_congr_left
                         intro q _
                         show pre ++ (((i : Int), bbr σ n R (clr left i)) :: q) = pre ++ [((i : Int), bbr σ n R (clr left i))] ++ q
                         rw [List.append_assoc]
                         rfl
                       rw [hpe]
                       exact ⟨e5.1, e5.2.1, fun j x h => e5.2.2 j x h⟩)
    refine v_iload1 1 dX12_goOn_0 rfl ?_
    refine v_if_ne 84 4 dX12_goOn_1 rfl rfl (fun h1 => ?_) (fun h1 => ?_)
    · skip
      refine v_iconst 85 dX12_goOn_84 rfl ⟨by decide +kernel, by decide⟩ ?_
      refine v_istore5 87 dX12_goOn_85 rfl (by decide) ?_
      exact LD (n + 1) 0 τ _ (by omega) (by omega) ⟨⟨fun _ _ _ => rfl, fun _ _ _ => rfl⟩, fun _ _ _ _ _ _ _ => rfl, fun _ _ _ => rfl, fun _ _ => ⟨rfl, rfl⟩, hst⟩
    · skip
      exact absurd (by omega : left = 0) (fun e => by subst e; rw [pop0] at hpop; omega)
