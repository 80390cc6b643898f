/-! sums, distances, bits: plain facts -/
def sumI (f : Int → Int) : Nat → Int
  | 0 => 0
  | k + 1 => sumI f k + f (k : Int)
theorem sumI_congr {f g : Int → Int} : ∀ {n : Nat}, (∀ k : Nat, k < n → f (k : Int) = g (k : Int)) → sumI f n = sumI g n
  | 0, _ => rfl
  | n + 1, h => by
    show sumI f n + f (n : Int) = sumI g n + g (n : Int)
    rw [sumI_congr (fun k hk => h k (Nat.lt_succ_of_lt hk)), h n (Nat.lt_succ_self n)]
theorem sumI_bnd {f : Int → Int} {m : Int} : ∀ {n : Nat}, (∀ k : Nat, k < n → 0 ≤ f (k : Int) ∧ f (k : Int) ≤ m) → 0 ≤ sumI f n ∧ sumI f n ≤ m * n
  | 0, _ => by simp [sumI]
  | n + 1, h => by
    have h1 := sumI_bnd (fun k hk => h k (Nat.lt_succ_of_lt hk))
    have h2 := h n (Nat.lt_succ_self n)
    show 0 ≤ sumI f n + f (n : Int) ∧ sumI f n + f (n : Int) ≤ m * ((n + 1 : Nat) : Int)
    have e : m * ((n + 1 : Nat) : Int) = m * n + m := by rw [Int.natCast_add, Int.mul_add]; simp
    rw [e]
    omega
theorem sumI_mono {f : Int → Int} : ∀ {n m : Nat}, (∀ k : Nat, k < m → 0 ≤ f (k : Int)) → n ≤ m → sumI f n ≤ sumI f m
  | n, 0, _, hn => by
    have : n = 0 := by omega
    subst this
    exact Int.le_refl _
  | n, m + 1, h, hn => by
    by_cases e : n = m + 1
    · subst e
      exact Int.le_refl _
    · have h1 := sumI_mono (n := n) (m := m) (fun k hk => h k (Nat.lt_succ_of_lt hk)) (by omega)
      have h2 := h m (Nat.lt_succ_self m)
      show sumI f n ≤ sumI f m + f (m : Int)
      omega
def dist (x y : Int) : Int := if y < x then x - y else y - x
theorem dist_abs (x y : Int) : (if 0 ≤ x - y then x - y else -(x - y)) = dist x y := by unfold dist; split <;> split <;> omega
theorem dist_bnd {x y : Int} (hx : 0 ≤ x ∧ x ≤ 5) (hy : 0 ≤ y ∧ y ≤ 5) : 0 ≤ dist x y ∧ dist x y ≤ 5 := by unfold dist; split <;> omega
theorem dist_symm (x y : Int) : dist x y = dist y x := by unfold dist; split <;> split <;> omega
/-- whether a plan p moves the decision d, the base being bs (none: -5), its values bv -/
def mv (bs : Int) (bv p : Int → Int) (d : Int) : Bool := decide (bs ≠ -5 ∧ p d ≠ bv d)
def cst (bs : Int) (bv wt pr p : Int → Int) (d : Int) : Int := if mv bs bv p d then wt d + pr d * dist (p d) (bv d) else 0
def one (b : Bool) : Int := if b then 1 else 0
theorem one_t : one true = 1 := rfl
theorem one_f : one false = 0 := rfl
theorem one_bnd (b : Bool) : 0 ≤ one b ∧ one b ≤ 1 := by cases b <;> simp [one]
/-- whether a rule holds for the plan p of n decisions -/
def rk (kd a b F : Int) (p : Int → Int) (n : Nat) : Bool :=
  if kd = 5 then decide (sumI (fun d => one (decide (p d = b))) n ≤ F) else if kd = 0 then decide (p a - p b ≤ F) else if kd = 1 then decide (p a + p b ≤ F) else if kd = 2 then decide (F ≤ p a + p b) else if kd = 3 then decide (F ≤ dist (p a) (p b)) else decide (dist (p a) (p b) ≤ F)
def bitsN (f : Nat → Bool) : Nat → Nat
  | 0 => 0
  | r + 1 => bitsN f r + if f r then 2 ^ r else 0
theorem bitsN_lt (f : Nat → Bool) : ∀ n, bitsN f n < 2 ^ n
  | 0 => by simp [bitsN]
  | n + 1 => by
    have h := bitsN_lt f n
    have e : 2 ^ (n + 1) = 2 ^ n + 2 ^ n := by rw [Nat.pow_succ]; omega
    show bitsN f n + (if f n then 2 ^ n else 0) < 2 ^ (n + 1)
    split <;> omega
theorem bitsN_congr {f g : Nat → Bool} : ∀ {n : Nat}, (∀ r, r < n → f r = g r) → bitsN f n = bitsN g n
  | 0, _ => rfl
  | n + 1, h => by
    show bitsN f n + (if f n then 2 ^ n else 0) = bitsN g n + (if g n then 2 ^ n else 0)
    rw [bitsN_congr (fun r hr => h r (Nat.lt_succ_of_lt hr)), h n (Nat.lt_succ_self n)]
theorem bitsN_test (f : Nat → Bool) : ∀ (n i : Nat), (bitsN f n).testBit i = (decide (i < n) && f i)
  | 0, i => by simp [bitsN]
  | n + 1, i => by
    have ih := bitsN_test f n i
    have hlt := bitsN_lt f n
    show (bitsN f n + if f n then 2 ^ n else 0).testBit i = _
    by_cases hi : i = n
    · subst hi
      cases hf : f i
      · simp [ih]
      · rw [if_pos rfl, Nat.add_comm, Nat.testBit_two_pow_add_eq, ih]
        simp
    · cases hf : f n
      · simp only [Bool.false_eq_true, if_false, Nat.add_zero, ih]
        by_cases h2 : i < n
        · simp [h2, Nat.lt_succ_of_lt h2]
        · have : ¬ i < n + 1 := by omega
          simp [h2, this]
      · rw [if_pos rfl]
        by_cases h2 : i < n
        · rw [Nat.add_comm, Nat.testBit_two_pow_add_gt h2, ih]
          simp [h2, Nat.lt_succ_of_lt h2]
        · have h3 : ¬ i < n + 1 := by omega
          have h4 : bitsN f n + 2 ^ n < 2 ^ i := by
            have e1 : 2 ^ (n + 1) = 2 ^ n + 2 ^ n := by rw [Nat.pow_succ]; omega
            have e2 : 2 ^ (n + 1) ≤ 2 ^ i := Nat.pow_le_pow_right (by omega) (by omega)
            omega
          rw [Nat.testBit_lt_two_pow h4]
          simp [h3]
theorem and_nI (a b : Nat) : nI a &&& nI b = nI (a &&& b) := by
  apply Int32.toBitVec_inj.1
  show BitVec.ofNat 32 a &&& BitVec.ofNat 32 b = BitVec.ofNat 32 (a &&& b)
  apply BitVec.eq_of_getLsbD_eq
  intro i hi
  simp [hi]
theorem or_nI (a b : Nat) : nI a ||| nI b = nI (a ||| b) := by
  apply Int32.toBitVec_inj.1
  show BitVec.ofNat 32 a ||| BitVec.ofNat 32 b = BitVec.ofNat 32 (a ||| b)
  apply BitVec.eq_of_getLsbD_eq
  intro i hi
  simp [hi]
theorem xor_nI (a b : Nat) : nI a ^^^ nI b = nI (a ^^^ b) := by
  apply Int32.toBitVec_inj.1
  show BitVec.ofNat 32 a ^^^ BitVec.ofNat 32 b = BitVec.ofNat 32 (a ^^^ b)
  apply BitVec.eq_of_getLsbD_eq
  intro i hi
  simp [hi]
theorem ofInt_nI (n : Nat) : Int32.ofInt (n : Int) = nI n := Int32.ofInt_eq_ofNat
theorem band_nat {m n : Nat} (hm : m < 2 ^ 31) : band (m : Int) (n : Int) = ((m &&& n : Nat) : Int) := by
  unfold band
  rw [ofInt_nI, ofInt_nI, and_nI, nI_toInt (Nat.lt_of_le_of_lt Nat.and_le_left hm)]
theorem bor_nat {m n : Nat} (hm : m < 2 ^ 31) (hn : n < 2 ^ 31) : bor (m : Int) (n : Int) = ((m ||| n : Nat) : Int) := by
  unfold bor
  rw [ofInt_nI, ofInt_nI, or_nI, nI_toInt (Nat.or_lt_two_pow hm hn)]
theorem bxor_nat {m n : Nat} (hm : m < 2 ^ 31) (hn : n < 2 ^ 31) : bxor (m : Int) (n : Int) = ((m ^^^ n : Nat) : Int) := by
  unfold bxor
  rw [ofInt_nI, ofInt_nI, xor_nI, nI_toInt (Nat.xor_lt_two_pow hm hn)]
theorem sh_amt : ∀ n, n < 32 → ((nI n &&& 31).toBitVec.smod 32).toNat = n := by decide +kernel
theorem bshl_nat {m r : Nat} (hr : r < 32) (h : m * 2 ^ r < 2 ^ 31) : bshl (m : Int) (r : Int) = ((m * 2 ^ r : Nat) : Int) := by
  unfold bshl
  rw [ofInt_nI, ofInt_nI, pk_shlN (nI r &&& 31) r (sh_amt r hr) (by omega), nI_toInt h]
theorem bshl_one {r : Nat} (hr : r < 31) : bshl 1 (r : Int) = ((2 ^ r : Nat) : Int) := by
  have h1 : 1 * 2 ^ r < 2 ^ 31 := by rw [Nat.one_mul]; exact Nat.pow_lt_pow_right (by omega) hr
  have h := bshl_nat (m := 1) (r := r) (by omega) h1
  rw [Nat.one_mul] at h
  exact h
theorem bshr_nat {m r : Nat} (hm : m < 2 ^ 31) (hr : r < 32) : bshr (m : Int) (r : Int) = ((m / 2 ^ r : Nat) : Int) := by
  unfold bshr
  rw [ofInt_nI, ofInt_nI, pk_shrN hm (nI r &&& 31) r (sh_amt r hr), nI_toInt (Nat.lt_of_le_of_lt (Nat.div_le_self _ _) hm)]
theorem bit_nat {m r : Nat} (hm : m < 2 ^ 31) (hr : r < 32) : band (bshr (m : Int) (r : Int)) 1 = one (m.testBit r) := by
  rw [bshr_nat hm hr]
  have h := band_nat (m := m / 2 ^ r) (n := 1) (Nat.lt_of_le_of_lt (Nat.div_le_self _ _) hm)
  have e : (((1 : Nat) : Int)) = 1 := rfl
  rw [e] at h
  rw [h, Nat.and_one_is_mod, Nat.testBit_eq_decide_div_mod_eq]
  unfold one
  by_cases h2 : m / 2 ^ r % 2 = 1
  · simp [h2]
  · have h3 : m / 2 ^ r % 2 = 0 := by omega
    simp [h3]
theorem bor_pow {m r : Nat} (hm : m < 2 ^ r) (hr : r < 30) : bor (m : Int) ((2 ^ r : Nat) : Int) = ((m + 2 ^ r : Nat) : Int) := by
  have hp : 2 ^ r < 2 ^ 31 := Nat.pow_lt_pow_right (by omega) (by omega)
  rw [bor_nat (by omega) hp]
  congr 1
  apply Nat.eq_of_testBit_eq
  intro i
  rw [Nat.testBit_or, Nat.testBit_two_pow, Nat.add_comm]
  by_cases h1 : i = r
  · subst h1
    rw [Nat.testBit_two_pow_add_eq, Nat.testBit_lt_two_pow hm]
    simp
  · by_cases h2 : i < r
    · rw [Nat.testBit_two_pow_add_gt h2]
      have : ¬ r = i := fun q => h1 q.symm
      simp [this]
    · have h3 : r < i := by omega
      have e1 : 2 ^ (r + 1) = 2 ^ r + 2 ^ r := by rw [Nat.pow_succ]; omega
      have e2 : 2 ^ (r + 1) ≤ 2 ^ i := Nat.pow_le_pow_right (by omega) (by omega)
      rw [Nat.testBit_lt_two_pow (x := m) (i := i) (by omega), Nat.testBit_lt_two_pow (x := 2 ^ r + m) (i := i) (by omega)]
      have : ¬ r = i := fun q => h1 q.symm
      simp [this]
theorem bor_zero {m : Nat} (hm : m < 2 ^ 31) : bor (m : Int) 0 = (m : Int) := by
  have h := bor_nat (m := m) (n := 0) hm (by decide)
  rw [Nat.or_zero] at h
  exact h
/-- the number of ones among the lowest k bits -/
def pop (m : Nat) (k : Nat) : Int := sumI (fun i => one (m.testBit i.toNat)) k
theorem pop_bnd (m k : Nat) : 0 ≤ pop m k ∧ pop m k ≤ k := by
  have h := sumI_bnd (f := fun i => one (m.testBit i.toNat)) (m := 1) (n := k) (fun _ _ => one_bnd _)
  unfold pop
  omega
