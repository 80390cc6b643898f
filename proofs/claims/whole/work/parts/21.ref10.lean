set_option maxRecDepth 100000 in
set_option maxHeartbeats 4000000 in
/-- the reference's own cells but for the numbers of the way -/
def CoreW (σ τ : Mem) : Prop := (∀ j : Int, j ≠ 32 → j ≠ 33 → τ 64 j = σ 64 j) ∧ ∀ c : Nat, 65 ≤ c → c ≤ 82 → τ c = σ c
theorem CoreW.tr {σ τ υ : Mem} (h : CoreW σ τ) (h2 : CoreW τ υ) : CoreW σ υ := ⟨fun j a b => (h2.1 j a b).trans (h.1 j a b), fun c a b => (h2.2 c a b).trans (h.2 c a b)⟩
theorem RW.coreW {σ τ : Mem} {n R F : Nat} (hw : RW σ n R F) (h : CoreW σ τ) : RW τ n R F := by
  unfold RW at *
  rw [h.1 0 (by decide) (by decide), h.1 12 (by decide) (by decide), h.1 10 (by decide) (by decide), h.1 21 (by decide) (by decide), h.1 17 (by decide) (by decide), h.2 75 (by decide) (by decide), h.2 76 (by decide) (by decide), h.2 77 (by decide) (by decide), h.2 78 (by decide) (by decide), h.2 65 (by decide) (by decide), h.2 66 (by decide) (by decide), h.2 67 (by decide) (by decide), h.2 68 (by decide) (by decide), h.2 69 (by decide) (by decide), h.2 70 (by decide) (by decide), h.2 71 (by decide) (by decide), h.2 73 (by decide) (by decide), h.2 79 (by decide) (by decide)]
  exact hw
theorem rbrk_coreW {σ τ : Mem} (h : CoreW σ τ) (p : Int → Int) (n R : Nat) : rbrk τ p n R = rbrk σ p n R := by
  unfold rbrk rrk
  rw [h.2 74 (by decide) (by decide), h.2 75 (by decide) (by decide), h.2 76 (by decide) (by decide), h.2 77 (by decide) (by decide), h.2 78 (by decide) (by decide)]
/-- the plan where the decisions of left stay as in the base; how many rules it breaks -/
def gv (σ : Mem) (left : Nat) : Int → Int := fun d => if left.testBit d.toNat then rbv σ d else σ 72 d
def bbr (σ : Mem) (n R left : Nat) : Int := pop (rbrk σ (gv σ left) n R) 12
def bl (left n : Nat) : List Nat := (List.range n).filter (fun d => left.testBit d)
/-- all rows of the decisions of left, in their order; with each how many rules are broken behind it -/
def cm (b : Nat → Int) (n : Nat) : Nat → Nat → List (List (Int × Int))
  | 0, _ => [[]]
  | f + 1, left => (bl left n).flatMap (fun d => (cm b n f (clr left d)).map (fun s => ((d : Int), b (clr left d)) :: s))
def wst (r : List (Int × Int)) : Int := r.foldl (fun m x => if m < x.2 then x.2 else m) 0
def smm (r : List (Int × Int)) : Int := r.foldl (fun m x => m + x.2) 0
def wup (s : Int × Int × List (Int × Int)) (r : List (Int × Int)) : Int × Int × List (Int × Int) := if wst r < s.1 ∨ (wst r = s.1 ∧ smm r < s.2.1) then (wst r, smm r, r) else s
theorem wst_app (r : List (Int × Int)) (x : Int × Int) : wst (r ++ [x]) = if wst r < x.2 then x.2 else wst r := by unfold wst; rw [List.foldl_append]; rfl
theorem smm_app (r : List (Int × Int)) (x : Int × Int) : smm (r ++ [x]) = smm r + x.2 := by unfold smm; rw [List.foldl_append]; rfl
theorem bl_succ (left n : Nat) : bl left (n + 1) = bl left n ++ (if left.testBit n then [n] else []) := by
  unfold bl
  rw [List.range_succ, List.filter_append]
  cases h : left.testBit n <;> simp [h]
theorem sumI_dec {f g : Int → Int} : ∀ {n k : Nat}, k < n → (∀ j : Nat, j < n → j ≠ k → f (j : Int) = g (j : Int)) → f (k : Int) = g (k : Int) + 1 → sumI f n = sumI g n + 1
  | 0, k, hk, _, _ => by omega
  | n + 1, k, hk, h, he => by
    show sumI f n + f (n : Int) = sumI g n + g (n : Int) + 1
    by_cases e : k = n
    · subst e
      rw [sumI_congr (g := g) (fun j hj => h j (by omega) (by omega)), he]
      omega
    · rw [sumI_dec (k := k) (by omega) (fun j hj hn => h j (by omega) hn) he, h n (by omega) (by omega)]
      omega
theorem pop_clr {left d n : Nat} (hd : d < n) (h : left.testBit d = true) : pop left n = pop (clr left d) n + 1 := by
  unfold pop
  refine sumI_dec (k := d) hd (fun j hj hn => ?_) ?_
  · show one (left.testBit ((j : Int).toNat)) = one ((clr left d).testBit ((j : Int).toNat))
    rw [Int.toNat_natCast, clr_test]
    have : ¬ d = j := fun q => hn q.symm
    simp [this]
  · show one (left.testBit ((d : Int).toNat)) = one ((clr left d).testBit ((d : Int).toNat)) + 1
    rw [Int.toNat_natCast, clr_test, h]
    simp [one]
theorem pop_zero {left n : Nat} (hl : left < 2 ^ n) (h : pop left n = 0) : left = 0 := by
  apply Nat.eq_of_testBit_eq
  intro i
  rw [Nat.zero_testBit]
  by_cases hi : i < n
  · cases hb : left.testBit i with
    | false => rfl
    | true =>
      have h1 := pop_clr hi hb
      have h2 := (pop_bnd (clr left i) n).1
      omega
  · exact Nat.testBit_lt_two_pow (Nat.lt_of_lt_of_le hl (Nat.pow_le_pow_right (by omega) (by omega)))
theorem pop0 (n : Nat) : pop 0 n = 0 := by
  have h := sumI_congr (f := fun i => one ((0 : Nat).testBit i.toNat)) (g := fun _ => 0) (n := n) (fun k _ => by simp [one])
  unfold pop
  rw [h]
  have : ∀ n, sumI (fun _ => 0) n = 0 := by
    intro n
    induction n with
    | zero => rfl
    | succ n ih => show sumI _ n + 0 = 0; rw [ih]; rfl
  exact this n
def WSt (τ : Mem) (s : Int × Int × List (Int × Int)) : Prop := τ 64 32 = s.1 ∧ τ 64 33 = s.2.1 ∧ ∀ (i : Nat) (x : Int × Int), s.2.2[i]? = some x → τ 87 (i : Int) = x.1 ∧ τ 88 (i : Int) = x.2
def Pre (τ : Mem) (r : List (Int × Int)) : Prop := ∀ (i : Nat) (x : Int × Int), r[i]? = some x → τ 86 (i : Int) = x.1 ∧ τ 89 (i : Int) = x.2
theorem bbr_bnd (σ : Mem) (n R left : Nat) : 0 ≤ bbr σ n R left ∧ bbr σ n R left ≤ 12 := pop_bnd _ _
