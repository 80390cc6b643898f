set_option maxRecDepth 100000 in
set_option maxHeartbeats 4000000 in
theorem foldl_mem {α : Type} {f g : Int → α → Int} : ∀ (L : List α) (a : Int), (∀ a, ∀ d ∈ L, f a d = g a d) → L.foldl f a = L.foldl g a
  | [], _, _ => rfl
  | x :: L, a, h => by
    show L.foldl f (f a x) = L.foldl g (g a x)
    rw [h a x List.mem_cons_self]
    exact foldl_mem L _ (fun a d hd => h a d (List.mem_cons_of_mem _ hd))
def pkS (b : Nat → Int) (M s : Nat) : Int := pk b 6 (pop (M ^^^ s) 6).toNat (M ^^^ s)
def smS (b : Nat → Int) (P : Int) (M s : Nat) : Int := sm b P 6 (pop (M ^^^ s) 6).toNat (M ^^^ s)
def pkG (b : Nat → Int) (M s : Nat) (a : Int) (d : Nat) : Int := min a (max (b (M ^^^ (s ||| 2 ^ d))) (pkS b M (s ||| 2 ^ d)))
def smT (b : Nat → Int) (P : Int) (M s : Nat) (d : Nat) : Int := if P < b (M ^^^ (s ||| 2 ^ d)) then 1000 else min 1000 (b (M ^^^ (s ||| 2 ^ d)) + smS b P M (s ||| 2 ^ d))
def smG (b : Nat → Int) (P : Int) (M s : Nat) (a : Int) (d : Nat) : Int := min a (smT b P M s d)
theorem rt_in {M s d : Nat} (hM : M < 64) (hs : s < 64) (hsub : s &&& M = s) (hd : d ∈ bl (M ^^^ s) 6) : d < 6 ∧ s ||| 2 ^ d < 64 ∧ s < s ||| 2 ^ d ∧ (s ||| 2 ^ d) &&& M = (s ||| 2 ^ d) ∧ M ^^^ (s ||| 2 ^ d) = clr (M ^^^ s) d ∧ pop (M ^^^ s) 6 = pop (M ^^^ (s ||| 2 ^ d)) 6 + 1 := by
  have hq := bl_mem.mp hd
  have hb := rt_bits hM hs hsub hq.1
  have h3 := hb.2.2
  rw [hq.2] at h3
  have h4 : M.testBit d = true ∧ s.testBit d = false := by
    cases h1 : M.testBit d <;> cases h2 : s.testBit d <;> simp [h1, h2] at h3 ⊢
  have h5 := hb.2.1 h4.2
  have h6 := h5.2.2.2 h4.1
  exact ⟨hq.1, h5.1, h5.2.1, h5.2.2.1.mpr h4.1, h6.2, by rw [h6.2]; exact pop_clr hq.1 hq.2⟩
theorem rt_in2 {M s d : Nat} (hM : M < 64) (hs : s < 64) (hsub : s &&& M = s) (hd : d < 6) : d ∈ bl (M ^^^ s) 6 ↔ (s ||| 2 ^ d ≠ s ∧ (s ||| 2 ^ d) &&& M = (s ||| 2 ^ d)) := by
  have hb := rt_bits hM hs hsub hd
  rw [bl_mem, hb.2.2]
  constructor
  · rintro ⟨-, h⟩
    have h4 : M.testBit d = true ∧ s.testBit d = false := by
      cases h1 : M.testBit d <;> cases h2 : s.testBit d <;> simp [h1, h2] at h ⊢
    have h5 := hb.2.1 h4.2
    exact ⟨by omega, h5.2.2.1.mpr h4.1⟩
  · rintro ⟨h1, h2⟩
    cases hx : s.testBit d with
    | true => exact absurd (hb.1.mpr hx) h1
    | false =>
      have h5 := hb.2.1 hx
      rw [h5.2.2.1.mp h2]
      exact ⟨hd, rfl⟩
theorem rt_ne {M s : Nat} (hM : M < 64) (hs : s < 64) (hne : s ≠ M) : ∃ m, (pop (M ^^^ s) 6).toNat = m + 1 ∧ pop (M ^^^ s) 6 = ((m + 1 : Nat) : Int) := by
  have h1 := (pop_bnd (M ^^^ s) 6).1
  have h2 := rt_sub hM hs
  have h3 : pop (M ^^^ s) 6 ≠ 0 := fun q => hne (h2.2.2.2 (pop_zero (n := 6) h2.2.1 q))
  exact ⟨(pop (M ^^^ s) 6).toNat - 1, by omega, by omega⟩
theorem rt_self (M : Nat) : M ^^^ M = 0 := Nat.xor_self M
theorem pkS_top (b : Nat → Int) (M : Nat) : pkS b M M = 0 := by unfold pkS; rw [rt_self, pop0]; rfl
theorem smS_top (b : Nat → Int) (P : Int) (M : Nat) : smS b P M M = 0 := by unfold smS; rw [rt_self, pop0]; rfl
theorem pkS_step {b : Nat → Int} {M s : Nat} (hM : M < 64) (hs : s < 64) (hsub : s &&& M = s) (hne : s ≠ M) : pkS b M s = (bl (M ^^^ s) 6).foldl (pkG b M s) 1000 := by
  obtain ⟨m, h1, h2⟩ := rt_ne hM hs hne
  unfold pkS
  rw [h1]
  refine foldl_mem _ _ (fun a d hd => ?_)
  have h := rt_in hM hs hsub hd
  unfold pkf pkG pkS
  rw [h.2.2.2.2.1, show (pop (clr (M ^^^ s) d) 6).toNat = m by rw [← h.2.2.2.2.1]; omega]
theorem smS_step {b : Nat → Int} {P : Int} {M s : Nat} (hM : M < 64) (hs : s < 64) (hsub : s &&& M = s) (hne : s ≠ M) : smS b P M s = (bl (M ^^^ s) 6).foldl (smG b P M s) 1000 := by
  obtain ⟨m, h1, h2⟩ := rt_ne hM hs hne
  unfold smS
  rw [h1]
  refine foldl_mem _ _ (fun a d hd => ?_)
  have h := rt_in hM hs hsub hd
  unfold smG smT sT smS
  rw [h.2.2.2.2.1, show (pop (clr (M ^^^ s) d) 6).toNat = m by rw [← h.2.2.2.2.1]; omega]
theorem pkS_bnd {b : Nat → Int} (hb : ∀ s, 0 ≤ b s ∧ b s ≤ 12) (M s : Nat) : 0 ≤ pkS b M s ∧ pkS b M s ≤ 12 := pk_bnd hb _ _ (by have := (pop_bnd (M ^^^ s) 6).1; omega)
theorem smS_bnd {b : Nat → Int} (hb : ∀ s, 0 ≤ b s ∧ b s ≤ 12) (P : Int) (M s : Nat) : 0 ≤ smS b P M s ∧ smS b P M s ≤ 1000 := sm_bnd hb P _ _
set_option maxRecDepth 100000 in
set_option maxHeartbeats 4000000 in
theorem X7_findPeaks {d : Nat} {b : Nat → Int} {M : Nat} {σ : Mem} {K : Mem → Prop} (hM : M < 64) (hb : ∀ s, 0 ≤ b s ∧ b s ≤ 12) (hA : ∀ t : Nat, t < 64 → t &&& M = t → σ 61 (t : Int) = b (M ^^^ t)) (hd : 3 ≤ d) (hk0 : ∀ υ : Mem, (∀ c, c ≠ 62 → υ c = σ c) → (∀ t : Nat, t < 64 → t &&& M = t → υ 62 (t : Int) = pkS b M t) → K υ) : Run mX7_findPeaks d [.inr (some 10), .inl (M : Int)] σ (RV K) := by
  refine Run_of (ls := [.inr (some 10), .inl (M : Int), .inr none, .inr none, .inr none, .inr none]) (by decide) (Nat.le_of_ble_eq_true rfl) rfl ?_
  have LO : ∀ (k : Nat) (i0 : Nat) (τ : Mem) (z3 : AV) (z4 z5 : AV), i0 < k → i0 ≤ M → (∀ c, c ≠ 62 → τ c = σ c) → (∀ t : Nat, t < 64 → t &&& M = t → i0 ≤ t → τ 62 (t : Int) = pkS b M t) → V mX7_findPeaks d (RV K) 11 [.inr (some 10), .inl (M : Int), .inl ((i0 : Int) - 1), z3, z4, z5] [] τ := by
    intro k
    induction k with
    | zero => intros; omega
    | succ k ih =>
        intro i0 τ z3 z4 z5 hk hi0 f1 f2
        refine v_iload2 12 dX7_findPeaks_11 rfl ?_
        refine v_if_lt 116 15 dX7_findPeaks_12 rfl rfl (fun h12 => ?_) (fun h12 => ?_)
        · skip
          refine v_vretV dX7_findPeaks_116 rfl ?_
          obtain rfl : i0 = 0 := by omega
          exact hk0 τ f1 (fun t a b => f2 t a b (by omega))
        · skip
          obtain ⟨i, rfl⟩ : ∃ i, i0 = i + 1 := ⟨i0 - 1, by omega⟩
          have ei : ((i + 1 : Nat) : Int) - 1 = (i : Int) := by omega
          rw [ei]
          have hi64 : i < 64 := by omega
          have hsi := rt_sub hM hi64
          have hback : ∀ (υ : Mem) (z3 : AV) (z4 z5 : AV), (∀ c, c ≠ 62 → υ c = σ c) → (∀ t : Nat, t < 64 → t &&& M = t → i ≤ t → υ 62 (t : Int) = pkS b M t) → V mX7_findPeaks d (RV K) 110 [.inr (some 10), .inl (M : Int), .inl (i : Int), z3, z4, z5] [] υ := by
            intro υ z3 z4 z5 g1 hall
            refine v_iinc2 113 dX7_findPeaks_110 rfl (by decide) rfl (⟨by omega, by omega⟩) ?_
            refine v_goto 11 dX7_findPeaks_113 rfl ?_
            rw [show (i : Int) + -1 = (i : Int) - 1 by omega]
            exact ih i υ _ _ _ (by omega) (by omega) g1 hall
          refine v_iload2 16 dX7_findPeaks_15 rfl ?_
          refine v_iload1 17 dX7_findPeaks_16 rfl ?_
          refine v_iconst 18 dX7_findPeaks_17 rfl ⟨by decide +kernel, by decide⟩ ?_
          refine v_ixor 19 dX7_findPeaks_18 rfl ?_
          refine v_iand 20 dX7_findPeaks_19 rfl ?_
          refine v_if_eq 26 23 dX7_findPeaks_20 rfl rfl (fun h20 => ?_) (fun h20 => ?_)
          · skip
            have hsub : i &&& M = i := hsi.1.mp (by omega)
            refine v_aload0 27 dX7_findPeaks_26 rfl ?_
            refine v_getR 30 dX7_findPeaks_27 rfl fX7_28 rfl rfl ?_
            refine v_iload2 31 dX7_findPeaks_30 rfl ?_
            refine v_sipush 34 dX7_findPeaks_31 rfl ⟨by decide +kernel, by decide⟩ ?_
            refine v_iast 35 dX7_findPeaks_34 rfl rfl (⟨by omega, by omega⟩) ?_
            refine v_iconst 36 dX7_findPeaks_35 rfl ⟨by decide +kernel, by decide⟩ ?_
            refine v_istore3 37 dX7_findPeaks_36 rfl (by decide) ?_
            have LI : ∀ (k : Nat) (q : Nat) (υ : Mem) (z4 z5 : AV), 6 - q < k → q ≤ 6 → (∀ c, c ≠ 62 → υ c = σ c) → (∀ t : Nat, t < 64 → t &&& M = t → i < t → υ 62 (t : Int) = pkS b M t) → υ 62 (i : Int) = (bl (M ^^^ i) q).foldl (pkG b M i) 1000 → V mX7_findPeaks d (RV K) 37 [.inr (some 10), .inl (M : Int), .inl (i : Int), .inl (q : Int), z4, z5] [] υ := by
              intro k
              induction k with
              | zero => intros; omega
              | succ k ih2 =>
                  intro q υ z4 z5 hk2 hq g1 g2 g3
                  refine v_iload3 38 dX7_findPeaks_37 rfl ?_
                  refine v_bipush 40 dX7_findPeaks_38 rfl ⟨by decide +kernel, by decide⟩ ?_
                  refine v_icmp_ge 110 43 dX7_findPeaks_40 rfl rfl (fun h40 => ?_) (fun h40 => ?_)
                  · skip
                    obtain rfl : q = 6 := by omega
                    rw [← pkS_step hM hi64 hsub (by omega)] at g3
                    have hall : ∀ t : Nat, t < 64 → t &&& M = t → i ≤ t → υ 62 (t : Int) = pkS b M t := fun t a b e => by
                      by_cases et : t = i
                      · rw [et]; exact g3
                      · exact g2 t a b (by omega)
                    exact hback υ _ _ _ g1 hall
                  · skip
                    have hq6 : q < 6 := by omega
                    have hbit := rt_in2 hM hi64 hsub hq6
                    have hor : i ||| 2 ^ q < 64 := Nat.or_lt_two_pow (n := 6) hi64 (Nat.pow_lt_pow_right (by omega) hq6)
                    have hpw : 2 ^ q < 2 ^ 31 := Nat.pow_lt_pow_right (by omega) (by omega)
                    refine v_iload2 44 dX7_findPeaks_43 rfl ?_
                    refine v_iconst 45 dX7_findPeaks_44 rfl ⟨by decide +kernel, by decide⟩ ?_
                    refine v_iload3 46 dX7_findPeaks_45 rfl ?_
                    refine v_ishl 47 dX7_findPeaks_46 rfl ?_
                    refine v_ior 48 dX7_findPeaks_47 rfl ?_
                    rw [bshl_one (by omega), bor_nat (by omega) hpw]
                    obtain ⟨nx, hnx⟩ : ∃ nx, nx = i ||| 2 ^ q := ⟨_, rfl⟩
                    rw [← hnx] at hbit hor ⊢
                    have hsx := rt_sub hM hor
                    refine v_istore4 50 dX7_findPeaks_48 rfl (by decide) ?_
                    refine v_iload4 52 dX7_findPeaks_50 rfl ?_
                    refine v_iload2 53 dX7_findPeaks_52 rfl ?_
                    refine v_icmp_eq 104 56 dX7_findPeaks_53 rfl rfl (fun h53 => ?_) (fun h53 => ?_)
                    · skip
                      refine v_iinc3 107 dX7_findPeaks_104 rfl (by decide) rfl (⟨by omega, by omega⟩) ?_
                      refine v_goto 37 dX7_findPeaks_107 rfl ?_
                      first
                        | (have hni : (M ^^^ i).testBit q = false := by
                             cases hx : (M ^^^ i).testBit q with
                             | false => rfl
                             | true =>
                               have h9 := hbit.mp (bl_mem.mpr ⟨hq6, hx⟩)
                               first | exact absurd (by omega) h9.1 | exact absurd (hsx.1.mpr h9.2) (by omega)
                           exact ih2 (q + 1) υ _ _ (by omega) (by omega) g1 g2 (by rw [bl_succ, hni]; simpa using g3))
                        | (refine ih2 (q + 1) _ _ _ (by omega) (by omega) (fun c a => by rw [wr_ne a]; exact g1 c a) (fun t a b e => by rw [wr_at, if_neg (by omega)]; exact g2 t a b e) ?_
                           rw [bl_succ, (bl_mem.mp hin).2, if_pos rfl, List.foldl_append, ← g3, wr_eq]
                           show _ = pkG b M i (υ 62 (i : Int)) q
                           unfold pkG; rw [← hnx])
                    · skip
                      refine v_iload4 58 dX7_findPeaks_56 rfl ?_
                      refine v_iload1 59 dX7_findPeaks_58 rfl ?_
                      refine v_iconst 60 dX7_findPeaks_59 rfl ⟨by decide +kernel, by decide⟩ ?_
                      refine v_ixor 61 dX7_findPeaks_60 rfl ?_
                      refine v_iand 62 dX7_findPeaks_61 rfl ?_
                      refine v_if_eq 68 65 dX7_findPeaks_62 rfl rfl (fun h62 => ?_) (fun h62 => ?_)
                      · skip
                        have hin : q ∈ bl (M ^^^ i) 6 := hbit.mpr ⟨by omega, hsx.1.mp (by omega)⟩
                        have hrt := rt_in hM hi64 hsub hin
                        rw [← hnx] at hrt
                        refine v_aload0 69 dX7_findPeaks_68 rfl ?_
                        refine v_getR 72 dX7_findPeaks_69 rfl fX7_25 rfl rfl ?_
                        refine v_iload4 74 dX7_findPeaks_72 rfl ?_
                        refine v_ialde 75 (b (M ^^^ nx)) dX7_findPeaks_74 rfl rfl (⟨by omega, by omega⟩) (by rw [g1 61 (by decide)]; exact hA nx hor hrt.2.2.2.1) ?_
                        refine v_aload0 76 dX7_findPeaks_75 rfl ?_
                        refine v_getR 79 dX7_findPeaks_76 rfl fX7_28 rfl rfl ?_
                        refine v_iload4 81 dX7_findPeaks_79 rfl ?_
                        refine v_ialde 82 (pkS b M nx) dX7_findPeaks_81 rfl rfl (⟨by omega, by omega⟩) (g2 nx hor hrt.2.2.2.1 (by omega)) ?_
                        refine v_mmax 85 dX7_findPeaks_82 rfl kX7_85 (by omega) (Nat.le_of_ble_eq_true rfl) ?_
                        refine v_istore5 87 dX7_findPeaks_85 rfl (by decide) ?_
                        refine v_aload0 88 dX7_findPeaks_87 rfl ?_
                        refine v_getR 91 dX7_findPeaks_88 rfl fX7_28 rfl rfl ?_
                        refine v_iload2 92 dX7_findPeaks_91 rfl ?_
                        refine v_aload0 93 dX7_findPeaks_92 rfl ?_
                        refine v_getR 96 dX7_findPeaks_93 rfl fX7_28 rfl rfl ?_
                        refine v_iload2 97 dX7_findPeaks_96 rfl ?_
                        refine v_iald 98 dX7_findPeaks_97 rfl rfl (⟨by omega, by omega⟩) ?_
                        refine v_iload5 100 dX7_findPeaks_98 rfl ?_
                        refine v_mmin 103 dX7_findPeaks_100 rfl kX7_91 (by omega) (Nat.le_of_ble_eq_true rfl) ?_
                        refine v_iast 104 dX7_findPeaks_103 rfl rfl (⟨by omega, by omega⟩) ?_
                        refine v_iinc3 107 dX7_findPeaks_104 rfl (by decide) rfl (⟨by omega, by omega⟩) ?_
                        refine v_goto 37 dX7_findPeaks_107 rfl ?_
                        first
                          | (have hni : (M ^^^ i).testBit q = false := by
                               cases hx : (M ^^^ i).testBit q with
                               | false => rfl
                               | true =>
                                 have h9 := hbit.mp (bl_mem.mpr ⟨hq6, hx⟩)
                                 first | exact absurd (by omega) h9.1 | exact absurd (hsx.1.mpr h9.2) (by omega)
                             exact ih2 (q + 1) υ _ _ (by omega) (by omega) g1 g2 (by rw [bl_succ, hni]; simpa using g3))
                          | (refine ih2 (q + 1) _ _ _ (by omega) (by omega) (fun c a => by rw [wr_ne a]; exact g1 c a) (fun t a b e => by rw [wr_at, if_neg (by omega)]; exact g2 t a b e) ?_
                             rw [bl_succ, (bl_mem.mp hin).2, if_pos rfl, List.foldl_append, ← g3, wr_eq]
                             show _ = pkG b M i (υ 62 (i : Int)) q
                             unfold pkG; rw [← hnx])
                      · skip
                        refine v_goto 104 dX7_findPeaks_65 rfl ?_
                        refine v_iinc3 107 dX7_findPeaks_104 rfl (by decide) rfl (⟨by omega, by omega⟩) ?_
                        refine v_goto 37 dX7_findPeaks_107 rfl ?_
                        first
                          | (have hni : (M ^^^ i).testBit q = false := by
                               cases hx : (M ^^^ i).testBit q with
                               | false => rfl
                               | true =>
                                 have h9 := hbit.mp (bl_mem.mpr ⟨hq6, hx⟩)
                                 first | exact absurd (by omega) h9.1 | exact absurd (hsx.1.mpr h9.2) (by omega)
                             exact ih2 (q + 1) υ _ _ (by omega) (by omega) g1 g2 (by rw [bl_succ, hni]; simpa using g3))
                          | (refine ih2 (q + 1) _ _ _ (by omega) (by omega) (fun c a => by rw [wr_ne a]; exact g1 c a) (fun t a b e => by rw [wr_at, if_neg (by omega)]; exact g2 t a b e) ?_
                             rw [bl_succ, (bl_mem.mp hin).2, if_pos rfl, List.foldl_append, ← g3, wr_eq]
                             show _ = pkG b M i (υ 62 (i : Int)) q
                             unfold pkG; rw [← hnx])
            exact LI 7 0 _ _ _ (by decide) (by decide) (fun c a => by rw [wr_ne a]; exact f1 c a) (fun t a b e => by rw [wr_at, if_neg (by omega)]; exact f2 t a b (by omega)) wr_eq
          · skip
            refine v_goto 110 dX7_findPeaks_23 rfl ?_
            exact hback τ _ _ _ f1 (fun t a b e => by
              by_cases et : t = i
              · subst et; exact absurd (hsi.1.mpr b) h20
              · exact f2 t a b (by omega))
  refine v_aload0 1 dX7_findPeaks_0 rfl ?_
  refine v_getR 4 dX7_findPeaks_1 rfl fX7_28 rfl rfl ?_
  refine v_iload1 5 dX7_findPeaks_4 rfl ?_
  refine v_iconst 6 dX7_findPeaks_5 rfl ⟨by decide +kernel, by decide⟩ ?_
  refine v_iast 7 dX7_findPeaks_6 rfl rfl (⟨by omega, by omega⟩) ?_
  refine v_iload1 8 dX7_findPeaks_7 rfl ?_
  refine v_iconst 9 dX7_findPeaks_8 rfl ⟨by decide +kernel, by decide⟩ ?_
  refine v_isub 10 dX7_findPeaks_9 rfl (⟨by omega, by omega⟩) ?_
  refine v_istore2 11 dX7_findPeaks_10 rfl (by decide) ?_
  exact LO (M + 1) M _ _ _ _ (by omega) (by omega) (fun c a => wr_ne a) (fun t a b e => by
    have := (rt_sub hM a).2.2.1 b
    have e2 : t = M := by omega
    rw [e2, wr_eq, pkS_top])
set_option maxRecDepth 100000 in
set_option maxHeartbeats 4000000 in
theorem X7_sumThrough {d : Nat} {nx : Nat} {σ : Mem} {K : Int → Mem → Prop} (hn : nx < 64) (h1 : 0 ≤ σ 61 (nx : Int) ∧ σ 61 (nx : Int) ≤ 12) (h3 : 0 ≤ σ 63 (nx : Int) ∧ σ 63 (nx : Int) ≤ 1000) (hd : 1 ≤ d) (hk0 : K (if σ 62 0 < σ 61 (nx : Int) then 1000 else min 1000 (σ 61 (nx : Int) + σ 63 (nx : Int))) σ) : Run mX7_sumThrough d [.inr (some 10), .inl (nx : Int)] σ (RI K) := by
  refine Run_of (ls := [.inr (some 10), .inl (nx : Int)]) (by decide) (Nat.le_of_ble_eq_true rfl) rfl ?_
  refine v_aload0 1 dX7_sumThrough_0 rfl ?_
  refine v_getR 4 dX7_sumThrough_1 rfl fX7_25 rfl rfl ?_
  refine v_iload1 5 dX7_sumThrough_4 rfl ?_
  refine v_iald 6 dX7_sumThrough_5 rfl rfl (⟨by omega, by omega⟩) ?_
  refine v_aload0 7 dX7_sumThrough_6 rfl ?_
  refine v_getR 10 dX7_sumThrough_7 rfl fX7_28 rfl rfl ?_
  refine v_iconst 11 dX7_sumThrough_10 rfl ⟨by decide +kernel, by decide⟩ ?_
  refine v_iald 12 dX7_sumThrough_11 rfl rfl (⟨by omega, by omega⟩) ?_
  refine v_icmp_le 19 15 dX7_sumThrough_12 rfl rfl (fun h12 => ?_) (fun h12 => ?_)
  · skip
    refine v_sipush 22 dX7_sumThrough_19 rfl ⟨by decide +kernel, by decide⟩ ?_
    refine v_aload0 23 dX7_sumThrough_22 rfl ?_
    refine v_getR 26 dX7_sumThrough_23 rfl fX7_25 rfl rfl ?_
    refine v_iload1 27 dX7_sumThrough_26 rfl ?_
    refine v_iald 28 dX7_sumThrough_27 rfl rfl (⟨by omega, by omega⟩) ?_
    refine v_aload0 29 dX7_sumThrough_28 rfl ?_
    refine v_getR 32 dX7_sumThrough_29 rfl fX7_31 rfl rfl ?_
    refine v_iload1 33 dX7_sumThrough_32 rfl ?_
    refine v_iald 34 dX7_sumThrough_33 rfl rfl (⟨by omega, by omega⟩) ?_
    refine v_iadd 35 dX7_sumThrough_34 rfl (⟨by omega, by omega⟩) ?_
    refine v_mmin 38 dX7_sumThrough_35 rfl kX7_91 (by omega) (Nat.le_of_ble_eq_true rfl) ?_
    refine v_iretI dX7_sumThrough_38 rfl ?_
    rw [if_neg (by omega)] at hk0; exact hk0
  · skip
    refine v_sipush 18 dX7_sumThrough_15 rfl ⟨by decide +kernel, by decide⟩ ?_
    refine v_iretI dX7_sumThrough_18 rfl ?_
    rw [if_pos (by omega)] at hk0; exact hk0
set_option maxRecDepth 100000 in
set_option maxHeartbeats 4000000 in
theorem X7_findSums {d : Nat} {b : Nat → Int} {P : Int} {M : Nat} {σ : Mem} {K : Mem → Prop} (hM : M < 64) (hb : ∀ s, 0 ≤ b s ∧ b s ≤ 12) (hA : ∀ t : Nat, t < 64 → t &&& M = t → σ 61 (t : Int) = b (M ^^^ t)) (hP : σ 62 0 = P) (hd : 3 ≤ d) (hk0 : ∀ υ : Mem, (∀ c, c ≠ 63 → υ c = σ c) → (∀ t : Nat, t < 64 → t &&& M = t → υ 63 (t : Int) = smS b P M t) → K υ) : Run mX7_findSums d [.inr (some 10), .inl (M : Int)] σ (RV K) := by
  refine Run_of (ls := [.inr (some 10), .inl (M : Int), .inr none, .inr none, .inr none]) (by decide) (Nat.le_of_ble_eq_true rfl) rfl ?_
  have LO : ∀ (k : Nat) (i0 : Nat) (τ : Mem) (z3 : AV) (z4 : AV), i0 < k → i0 ≤ M → (∀ c, c ≠ 63 → τ c = σ c) → (∀ t : Nat, t < 64 → t &&& M = t → i0 ≤ t → τ 63 (t : Int) = smS b P M t) → V mX7_findSums d (RV K) 11 [.inr (some 10), .inl (M : Int), .inl ((i0 : Int) - 1), z3, z4] [] τ := by
    intro k
    induction k with
    | zero => intros; omega
    | succ k ih =>
        intro i0 τ z3 z4 hk hi0 f1 f2
        refine v_iload2 12 dX7_findSums_11 rfl ?_
        refine v_if_lt 101 15 dX7_findSums_12 rfl rfl (fun h12 => ?_) (fun h12 => ?_)
        · skip
          refine v_vretV dX7_findSums_101 rfl ?_
          obtain rfl : i0 = 0 := by omega
          exact hk0 τ f1 (fun t a b => f2 t a b (by omega))
        · skip
          obtain ⟨i, rfl⟩ : ∃ i, i0 = i + 1 := ⟨i0 - 1, by omega⟩
          have ei : ((i + 1 : Nat) : Int) - 1 = (i : Int) := by omega
          rw [ei]
          have hi64 : i < 64 := by omega
          have hsi := rt_sub hM hi64
          have hback : ∀ (υ : Mem) (z3 : AV) (z4 : AV), (∀ c, c ≠ 63 → υ c = σ c) → (∀ t : Nat, t < 64 → t &&& M = t → i ≤ t → υ 63 (t : Int) = smS b P M t) → V mX7_findSums d (RV K) 95 [.inr (some 10), .inl (M : Int), .inl (i : Int), z3, z4] [] υ := by
            intro υ z3 z4 g1 hall
            refine v_iinc2 98 dX7_findSums_95 rfl (by decide) rfl (⟨by omega, by omega⟩) ?_
            refine v_goto 11 dX7_findSums_98 rfl ?_
            rw [show (i : Int) + -1 = (i : Int) - 1 by omega]
            exact ih i υ _ _ (by omega) (by omega) g1 hall
          refine v_iload2 16 dX7_findSums_15 rfl ?_
          refine v_iload1 17 dX7_findSums_16 rfl ?_
          refine v_iconst 18 dX7_findSums_17 rfl ⟨by decide +kernel, by decide⟩ ?_
          refine v_ixor 19 dX7_findSums_18 rfl ?_
          refine v_iand 20 dX7_findSums_19 rfl ?_
          refine v_if_eq 26 23 dX7_findSums_20 rfl rfl (fun h20 => ?_) (fun h20 => ?_)
          · skip
            have hsub : i &&& M = i := hsi.1.mp (by omega)
            refine v_aload0 27 dX7_findSums_26 rfl ?_
            refine v_getR 30 dX7_findSums_27 rfl fX7_31 rfl rfl ?_
            refine v_iload2 31 dX7_findSums_30 rfl ?_
            refine v_sipush 34 dX7_findSums_31 rfl ⟨by decide +kernel, by decide⟩ ?_
            refine v_iast 35 dX7_findSums_34 rfl rfl (⟨by omega, by omega⟩) ?_
            refine v_iconst 36 dX7_findSums_35 rfl ⟨by decide +kernel, by decide⟩ ?_
            refine v_istore3 37 dX7_findSums_36 rfl (by decide) ?_
            have LI : ∀ (k : Nat) (q : Nat) (υ : Mem) (z4 : AV), 6 - q < k → q ≤ 6 → (∀ c, c ≠ 63 → υ c = σ c) → (∀ t : Nat, t < 64 → t &&& M = t → i < t → υ 63 (t : Int) = smS b P M t) → υ 63 (i : Int) = (bl (M ^^^ i) q).foldl (smG b P M i) 1000 → V mX7_findSums d (RV K) 37 [.inr (some 10), .inl (M : Int), .inl (i : Int), .inl (q : Int), z4] [] υ := by
              intro k
              induction k with
              | zero => intros; omega
              | succ k ih2 =>
                  intro q υ z4 hk2 hq g1 g2 g3
                  refine v_iload3 38 dX7_findSums_37 rfl ?_
                  refine v_bipush 40 dX7_findSums_38 rfl ⟨by decide +kernel, by decide⟩ ?_
                  refine v_icmp_ge 95 43 dX7_findSums_40 rfl rfl (fun h40 => ?_) (fun h40 => ?_)
                  · skip
                    obtain rfl : q = 6 := by omega
                    rw [← smS_step hM hi64 hsub (by omega)] at g3
                    have hall : ∀ t : Nat, t < 64 → t &&& M = t → i ≤ t → υ 63 (t : Int) = smS b P M t := fun t a b e => by
                      by_cases et : t = i
                      · rw [et]; exact g3
                      · exact g2 t a b (by omega)
                    exact hback υ _ _ g1 hall
                  · skip
                    have hq6 : q < 6 := by omega
                    have hbit := rt_in2 hM hi64 hsub hq6
                    have hor : i ||| 2 ^ q < 64 := Nat.or_lt_two_pow (n := 6) hi64 (Nat.pow_lt_pow_right (by omega) hq6)
                    have hpw : 2 ^ q < 2 ^ 31 := Nat.pow_lt_pow_right (by omega) (by omega)
                    refine v_iload2 44 dX7_findSums_43 rfl ?_
                    refine v_iconst 45 dX7_findSums_44 rfl ⟨by decide +kernel, by decide⟩ ?_
                    refine v_iload3 46 dX7_findSums_45 rfl ?_
                    refine v_ishl 47 dX7_findSums_46 rfl ?_
                    refine v_ior 48 dX7_findSums_47 rfl ?_
                    rw [bshl_one (by omega), bor_nat (by omega) hpw]
                    obtain ⟨nx, hnx⟩ : ∃ nx, nx = i ||| 2 ^ q := ⟨_, rfl⟩
                    rw [← hnx] at hbit hor ⊢
                    have hsx := rt_sub hM hor
                    refine v_istore4 50 dX7_findSums_48 rfl (by decide) ?_
                    refine v_iload4 52 dX7_findSums_50 rfl ?_
                    refine v_iload2 53 dX7_findSums_52 rfl ?_
                    refine v_icmp_eq 89 56 dX7_findSums_53 rfl rfl (fun h53 => ?_) (fun h53 => ?_)
                    · skip
                      refine v_iinc3 92 dX7_findSums_89 rfl (by decide) rfl (⟨by omega, by omega⟩) ?_
                      refine v_goto 37 dX7_findSums_92 rfl ?_
                      first
                        | (have hni : (M ^^^ i).testBit q = false := by
                             cases hx : (M ^^^ i).testBit q with
                             | false => rfl
                             | true =>
                               have h9 := hbit.mp (bl_mem.mpr ⟨hq6, hx⟩)
                               first | exact absurd (by omega) h9.1 | exact absurd (hsx.1.mpr h9.2) (by omega)
                           exact ih2 (q + 1) υ _ (by omega) (by omega) g1 g2 (by rw [bl_succ, hni]; simpa using g3))
                        | (refine ih2 (q + 1) _ _ (by omega) (by omega) (fun c a => by rw [wr_ne a]; exact g1 c a) (fun t a b e => by rw [wr_at, if_neg (by omega)]; exact g2 t a b e) ?_
                           rw [bl_succ, (bl_mem.mp hin).2, if_pos rfl, List.foldl_append, ← g3, wr_eq]
                           show _ = smG b P M i (υ 63 (i : Int)) q
                           unfold smG smT; rw [← hnx])
                    · skip
                      refine v_iload4 58 dX7_findSums_56 rfl ?_
                      refine v_iload1 59 dX7_findSums_58 rfl ?_
                      refine v_iconst 60 dX7_findSums_59 rfl ⟨by decide +kernel, by decide⟩ ?_
                      refine v_ixor 61 dX7_findSums_60 rfl ?_
                      refine v_iand 62 dX7_findSums_61 rfl ?_
                      refine v_if_eq 68 65 dX7_findSums_62 rfl rfl (fun h62 => ?_) (fun h62 => ?_)
                      · skip
                        have hin : q ∈ bl (M ^^^ i) 6 := hbit.mpr ⟨by omega, hsx.1.mp (by omega)⟩
                        have hrt := rt_in hM hi64 hsub hin
                        rw [← hnx] at hrt
                        refine v_aload0 69 dX7_findSums_68 rfl ?_
                        refine v_getR 72 dX7_findSums_69 rfl fX7_31 rfl rfl ?_
                        refine v_iload2 73 dX7_findSums_72 rfl ?_
                        refine v_aload0 74 dX7_findSums_73 rfl ?_
                        refine v_getR 77 dX7_findSums_74 rfl fX7_31 rfl rfl ?_
                        refine v_iload2 78 dX7_findSums_77 rfl ?_
                        refine v_iald 79 dX7_findSums_78 rfl rfl (⟨by omega, by omega⟩) ?_
                        refine v_aload0 80 dX7_findSums_79 rfl ?_
                        refine v_iload4 82 dX7_findSums_80 rfl ?_
                        refine v_cvI1 mX7_sumThrough 85 dX7_findSums_82 rfl kX7_94 rfl rfl (by omega) (Nat.le_of_ble_eq_true rfl) ?_
                        have h61 : υ 61 (nx : Int) = b (M ^^^ nx) := by rw [g1 61 (by decide)]; exact hA nx hor hrt.2.2.2.1
                        have h63 : υ 63 (nx : Int) = smS b P M nx := g2 nx hor hrt.2.2.2.1 (by omega)
                        have h62 : υ 62 0 = P := by rw [g1 62 (by decide)]; exact hP
                        refine X7_sumThrough hor (by rw [h61]; exact hb _) (by rw [h63]; exact smS_bnd hb _ _ _) (by omega) ?_
                        rw [h61, h62, h63]
                        refine v_mmin 88 dX7_findSums_85 rfl kX7_91 (by omega) (Nat.le_of_ble_eq_true rfl) ?_
                        refine v_iast 89 dX7_findSums_88 rfl rfl (⟨by omega, by omega⟩) ?_
                        refine v_iinc3 92 dX7_findSums_89 rfl (by decide) rfl (⟨by omega, by omega⟩) ?_
                        refine v_goto 37 dX7_findSums_92 rfl ?_
                        first
                          | (have hni : (M ^^^ i).testBit q = false := by
                               cases hx : (M ^^^ i).testBit q with
                               | false => rfl
                               | true =>
                                 have h9 := hbit.mp (bl_mem.mpr ⟨hq6, hx⟩)
                                 first | exact absurd (by omega) h9.1 | exact absurd (hsx.1.mpr h9.2) (by omega)
                             exact ih2 (q + 1) υ _ (by omega) (by omega) g1 g2 (by rw [bl_succ, hni]; simpa using g3))
                          | (refine ih2 (q + 1) _ _ (by omega) (by omega) (fun c a => by rw [wr_ne a]; exact g1 c a) (fun t a b e => by rw [wr_at, if_neg (by omega)]; exact g2 t a b e) ?_
                             rw [bl_succ, (bl_mem.mp hin).2, if_pos rfl, List.foldl_append, ← g3, wr_eq]
                             show _ = smG b P M i (υ 63 (i : Int)) q
                             unfold smG smT; rw [← hnx])
                      · skip
                        refine v_goto 89 dX7_findSums_65 rfl ?_
                        refine v_iinc3 92 dX7_findSums_89 rfl (by decide) rfl (⟨by omega, by omega⟩) ?_
                        refine v_goto 37 dX7_findSums_92 rfl ?_
                        first
                          | (have hni : (M ^^^ i).testBit q = false := by
                               cases hx : (M ^^^ i).testBit q with
                               | false => rfl
                               | true =>
                                 have h9 := hbit.mp (bl_mem.mpr ⟨hq6, hx⟩)
                                 first | exact absurd (by omega) h9.1 | exact absurd (hsx.1.mpr h9.2) (by omega)
                             exact ih2 (q + 1) υ _ (by omega) (by omega) g1 g2 (by rw [bl_succ, hni]; simpa using g3))
                          | (refine ih2 (q + 1) _ _ (by omega) (by omega) (fun c a => by rw [wr_ne a]; exact g1 c a) (fun t a b e => by rw [wr_at, if_neg (by omega)]; exact g2 t a b e) ?_
                             rw [bl_succ, (bl_mem.mp hin).2, if_pos rfl, List.foldl_append, ← g3, wr_eq]
                             show _ = smG b P M i (υ 63 (i : Int)) q
                             unfold smG smT; rw [← hnx])
            exact LI 7 0 _ _ (by decide) (by decide) (fun c a => by rw [wr_ne a]; exact f1 c a) (fun t a b e => by rw [wr_at, if_neg (by omega)]; exact f2 t a b (by omega)) wr_eq
          · skip
            refine v_goto 95 dX7_findSums_23 rfl ?_
            exact hback τ _ _ f1 (fun t a b e => by
              by_cases et : t = i
              · subst et; exact absurd (hsi.1.mpr b) h20
              · exact f2 t a b (by omega))
  refine v_aload0 1 dX7_findSums_0 rfl ?_
  refine v_getR 4 dX7_findSums_1 rfl fX7_31 rfl rfl ?_
  refine v_iload1 5 dX7_findSums_4 rfl ?_
  refine v_iconst 6 dX7_findSums_5 rfl ⟨by decide +kernel, by decide⟩ ?_
  refine v_iast 7 dX7_findSums_6 rfl rfl (⟨by omega, by omega⟩) ?_
  refine v_iload1 8 dX7_findSums_7 rfl ?_
  refine v_iconst 9 dX7_findSums_8 rfl ⟨by decide +kernel, by decide⟩ ?_
  refine v_isub 10 dX7_findSums_9 rfl (⟨by omega, by omega⟩) ?_
  refine v_istore2 11 dX7_findSums_10 rfl (by decide) ?_
  exact LO (M + 1) M _ _ _ (by omega) (by omega) (fun c a => wr_ne a) (fun t a b e => by
    have := (rt_sub hM a).2.2.1 b
    have e2 : t = M := by omega
    rw [e2, wr_eq, smS_top])
