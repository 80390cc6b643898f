set_option maxRecDepth 100000 in
set_option maxHeartbeats 4000000 in
/-- m without its bit k -/
def clr (m k : Nat) : Nat := m ^^^ (m &&& 2 ^ k)
theorem clr_test (m k i : Nat) : (clr m k).testBit i = (m.testBit i && !decide (k = i)) := by
  unfold clr
  rw [Nat.testBit_xor, Nat.testBit_and, Nat.testBit_two_pow]
  cases m.testBit i <;> cases decide (k = i) <;> rfl
theorem clr_le (m k : Nat) : clr m k ≤ m := by
  apply Nat.le_of_testBit
  intro i h
  rw [clr_test] at h
  exact (Bool.and_eq_true_iff.mp h).1
theorem not_nI (k : Nat) : nI k ^^^ Int32.ofInt (-1) = ~~~ (nI k) := by
  apply Int32.toBitVec_inj.1
  show BitVec.ofNat 32 k ^^^ BitVec.ofInt 32 (-1) = ~~~ (BitVec.ofNat 32 k)
  have e : BitVec.ofInt 32 (-1) = BitVec.allOnes 32 := by decide
  rw [e, BitVec.xor_allOnes]
theorem and_not_nI (m k : Nat) : nI m &&& ~~~ (nI k) = nI (m ^^^ (m &&& k)) := by
  apply Int32.toBitVec_inj.1
  show BitVec.ofNat 32 m &&& ~~~ (BitVec.ofNat 32 k) = BitVec.ofNat 32 (m ^^^ (m &&& k))
  apply BitVec.eq_of_getLsbD_eq
  intro i hi
  simp only [BitVec.getLsbD_and, BitVec.getLsbD_not, BitVec.getLsbD_ofNat, hi, decide_true, Bool.true_and, Nat.testBit_xor, Nat.testBit_and]
  cases m.testBit i <;> cases k.testBit i <;> rfl
theorem band_not {m k : Nat} (hm : m < 2 ^ 31) : band (m : Int) (bxor (k : Int) (-1)) = ((m ^^^ (m &&& k) : Nat) : Int) := by
  unfold band bxor
  rw [Int32.ofInt_toInt, ofInt_nI, ofInt_nI, not_nI, and_not_nI, nI_toInt]
  have h1 : m &&& k < 2 ^ 31 := Nat.lt_of_le_of_lt Nat.and_le_left hm
  exact Nat.xor_lt_two_pow hm h1
theorem band_clr {m k : Nat} (hm : m < 2 ^ 31) (hk : k < 31) : band (m : Int) (bxor (bshl 1 (k : Int)) (-1)) = (clr m k : Int) := by rw [bshl_one hk, band_not hm]; rfl
theorem En_cnt {σ : Mem} {n R F : Nat} (hw : RW σ n R F) : ∀ (m k : Nat), k + m ≤ n → (En (σ 65) (σ 66) (σ 70) k m).length ≤ 6 ^ m
  | 0, _, _ => by simp [En]
  | m + 1, k, h => by
    have ih := En_cnt hw m (k + 1) (by omega)
    have hd := hw.2.2.1 (k : Int) (by omega) (by omega)
    have hl : (dom (σ 65) (σ 66) (σ 70) (k : Int)).length ≤ 6 := by
      unfold dom
      split
      · have : ∀ (c : Nat) (v : Int), (upto v c).length = c := by
          intro c
          induction c with
          | zero => intro v; rfl
          | succ c ih => intro v; show (upto (v + 1) c).length + 1 = c + 1; rw [ih]
        rw [this]
        omega
      · simp
    have key : ∀ (D : List Int) (E : List (List Int)), (D.flatMap (fun v => E.map (fun s => v :: s))).length = D.length * E.length := by
      intro D E
      induction D with
      | nil => simp
      | cons v D ih => rw [List.flatMap_cons, List.length_append, ih, List.length_map, List.length_cons, Nat.succ_mul]; omega
    show ((dom (σ 65) (σ 66) (σ 70) (k : Int)).flatMap _).length ≤ 6 ^ (m + 1)
    rw [key, Nat.pow_succ, Nat.mul_comm (6 ^ m) 6]
    exact Nat.mul_le_mul hl ih
theorem rEn_cnt {σ : Mem} {n R F : Nat} (hw : RW σ n R F) : (rEn σ n).length ≤ 46656 := by
  have h1 : (rEn σ n).length ≤ 6 ^ n := En_cnt hw n 0 (by omega)
  have h2 : n ≤ 6 := hw.1.2.1
  have h3 : 6 ^ n ≤ 6 ^ 6 := Nat.pow_le_pow_right (by omega) h2
  have h4 : (6 : Nat) ^ 6 = 46656 := by decide
  omega
theorem rcost_bnd {σ : Mem} {n R F : Nat} (hw : RW σ n R F) {p : Int → Int} (hp : ∀ i : Int, 0 ≤ i → i < n → 0 ≤ p i ∧ p i ≤ 5) : 0 ≤ rcost σ n p ∧ rcost σ n p ≤ 200 * n := by
  refine sumI_bnd (fun k hk => ?_)
  have hd1 := hw.2.2.1 (k : Int) (by omega) (by omega)
  have hba := hw.2.2.2.2.2.1
  unfold cst
  split
  · rename_i h
    have hmv : σ 64 21 ≠ -5 ∧ p (k : Int) ≠ rbv σ (k : Int) := of_decide_eq_true h
    have hb0 := hba.resolve_left hmv.1
    have hb2 : 0 ≤ rbv σ (k : Int) ∧ rbv σ (k : Int) ≤ 5 := hb0.2.2 (k : Int) (by omega) (by omega)
    have hdb := dist_bnd (hp (k : Int) (by omega) (by omega)) hb2
    have hmb := mul_bnd (a := σ 69 (k : Int)) (A := 20) ⟨hd1.2.2.2.2.2.2.2.1, hd1.2.2.2.2.2.2.2.2.1⟩ hdb
    omega
  · omega
/-- the rules that a plan breaks, one aside (or none: below 0) -/
def rbA (σ : Mem) (p : Int → Int) (n R : Nat) (asd : Int) : Nat := if asd < 0 then rbrk σ p n R else clr (rbrk σ p n R) asd.toNat
def rokA (σ : Mem) (n R : Nat) (asd : Int) (l : List Int) : Prop := rAlw σ (pf l) n ∧ rbA σ (pf l) n R asd = 0
noncomputable def lsp (ok : List Int → Prop) (co : List Int → Int) (s : Int) (l : List Int) : Int := if cd (ok l) then (if s = -5 ∨ co l < s then co l else s) else s
noncomputable def rleast (σ : Mem) (n R : Nat) (asd : Int) : Int := (rEn σ n).foldl (lsp (rokA σ n R asd) (fun l => rcost σ n (pf l))) (-5)
noncomputable def nrp (ok : List Int → Prop) (co : List Int → Int) (q : Int) (s : Int) (l : List Int) : Int := s + one (cd (ok l ∧ co l ≤ q))
noncomputable def rnear (σ : Mem) (n R : Nat) (q : Int) : Int := (rEn σ n).foldl (nrp (rok σ n R) (fun l => rcost σ n (pf l)) q) 0
set_option maxRecDepth 100000 in
set_option maxHeartbeats 4000000 in
theorem X12_leastOf {d : Nat} {n R F : Nat} {asd : Int} {σ : Mem} {K : Int → Mem → Prop} (hw : RW σ n R F) (ha : -1 ≤ asd ∧ asd < 12) (hd : 4 ≤ d) (hk0 : ∀ τ : Mem, (∀ c, c ≠ 83 → τ c = σ c) → K (rleast σ n R asd) τ) : Run mX12_leastOf d [.inr (some 64), .inl asd] σ (RI K) := by
  have hw0 := hw
  obtain ⟨⟨hn, hn6, hR, hR12, hF, hF6⟩, hru, hde, hwo, hli, hba, hwf⟩ := hw0
  refine Run_of (ls := [.inr (some 64), .inl asd, .inr none, .inr none, .inr none, .inr none]) (by decide) (Nat.le_of_ble_eq_true rfl) rfl ?_
  have hex : ∀ (υ : Mem) (s : Int) (z4 : AV) (z5 : AV), (∀ c, c ≠ 83 → υ c = σ c) → s = rleast σ n R asd → V mX12_leastOf d (RI K) 9 [.inr (some 64), .inl asd, .inl s, .inl 0, z4, z5] [] υ := by
    intro υ s z4 z5 f1 hs
    refine v_iload3 10 dX12_leastOf_9 rfl ?_
    refine v_if_eq 95 13 dX12_leastOf_10 rfl rfl (fun _ => ?_) (fun h => absurd rfl h)
    refine v_iload2 96 dX12_leastOf_95 rfl ?_
    refine v_iretI dX12_leastOf_96 rfl ?_
    rw [hs]
    exact hk0 υ f1
  have L : ∀ (k i : Nat) (τ : Mem) (s : Int) (z4 : AV) (z5 : AV), (rEn σ n).length - i < k → i < (rEn σ n).length → (∀ c, c ≠ 83 → τ c = σ c) → (rEn σ n)[i]? = some (lst (τ 83) 0 n) → s = ((rEn σ n).take (i)).foldl (lsp (rokA σ n R asd) (fun l => rcost σ n (pf l))) (-5) → V mX12_leastOf d (RI K) 9 [.inr (some 64), .inl asd, .inl s, .inl 1, z4, z5] [] τ := by
    intro k
    induction k with
    | zero => intros; omega
    | succ k ih =>
      intro i τ s z4 z5 hk hi f1 hat hs
      have hce : CoreEq σ τ := core_of (fun c q1 q2 _ => f1 c q1)
      have hwt := hw.core hce
      have hpt : RP τ 83 n := RP_of hw (List.mem_of_getElem? hat)
      have hnext : ∀ (υ : Mem) (s : Int) (z4 : AV) (z5 : AV), (∀ c, c ≠ 83 → υ c = σ c) → (rEn σ n)[i]? = some (lst (υ 83) 0 n) → s = ((rEn σ n).take (i + 1)).foldl (lsp (rokA σ n R asd) (fun l => rcost σ n (pf l))) (-5) → V mX12_leastOf d (RI K) 87 [.inr (some 64), .inl asd, .inl s, .inl 1, z4, z5] [] υ := by
        intro υ s z4 z5 f1 hat hs
        have hce : CoreEq σ υ := core_of (fun c q1 q2 _ => f1 c q1)
        have hpu : RP υ 83 n := RP_of hw (List.mem_of_getElem? hat)
        have t3 := nx_at hw hce hat
        refine v_aload0 88 dX12_leastOf_87 rfl ?_
        refine v_cvI0 mX12_nextPlan 91 dX12_leastOf_88 rfl kX12_144 rfl rfl (by omega) (Nat.le_of_ble_eq_true rfl) ?_
        refine X12_nextPlan (hw.core hce) hpu (fun τ2 t1 t2 => ?_) (fun τ2 t1 t2 => ?_)
        · refine v_istore3 92 dX12_leastOf_91 rfl (by decide) ?_
          refine v_goto 9 dX12_leastOf_92 rfl ?_
          have t4 := t3.symm.trans t2
          exact ih (i + 1) τ2 _ _ _ (by have := (List.getElem?_eq_some_iff.mp t4).1; omega) (List.getElem?_eq_some_iff.mp t4).1 (fun c p83 => by rw [t1 c p83]; exact f1 c p83) t4 (by exact hs)
        · refine v_istore3 92 dX12_leastOf_91 rfl (by decide) ?_
          refine v_goto 9 dX12_leastOf_92 rfl ?_
          have t4 := t3.symm.trans t2
          have hlen := List.getElem?_eq_none_iff.mp t4
          refine hex τ2 _ _ _ (fun c p83 => by rw [t1 c p83]; exact f1 c p83) ?_
          rw [fold_e hlen] at hs
          exact hs
      have h40 : ∀ z4 z5 : AV, V mX12_leastOf d (RI K) 40 [.inr (some 64), .inl asd, .inl s, .inl 1, z4, z5] [.inl ((rbA σ (pf (lst (τ 83) 0 n)) n R asd : Nat) : Int)] τ := by
        intro z4 z5
        refine v_istore4 42 dX12_leastOf_40 rfl (by decide) ?_
        refine v_iload4 44 dX12_leastOf_42 rfl ?_
        refine v_if_ne 87 47 dX12_leastOf_44 rfl rfl (fun h44 => ?_) (fun h44 => ?_)
        · skip
          first
            | (refine hnext τ _ _ _ f1 hat ?_
               rw [fold_s hat, ← hs]
               unfold lsp
               dsimp only
               rw [cd_f (fun q => h44 (by have := q.2; omega))]
               rfl)
            | (refine hnext τ _ _ _ f1 hat ?_
               rw [fold_s hat, ← hs]
               unfold lsp
               dsimp only
               rw [cd_f (fun q => h52 q.1)]
               rfl)
            | (refine hnext τ _ _ _ f1 hat ?_
               rw [fold_s hat, ← hs]
               unfold lsp
               dsimp only
               rw [cd_t (show rokA σ n R asd (lst (τ 83) 0 n) from ⟨h52, by omega⟩), if_pos rfl, if_pos (by omega)])
            | (refine hnext τ _ _ _ f1 hat ?_
               rw [fold_s hat, ← hs]
               unfold lsp
               dsimp only
               rw [cd_t (show rokA σ n R asd (lst (τ 83) 0 n) from ⟨h52, by omega⟩), if_pos rfl, if_neg (by omega)])
        · skip
          refine v_aload0 48 dX12_leastOf_47 rfl ?_
          refine v_aload0 49 dX12_leastOf_48 rfl ?_
          refine v_getR 52 dX12_leastOf_49 rfl fX12_68 rfl rfl ?_
          refine v_cvI1 mX12_isAllowed 55 dX12_leastOf_52 rfl kX12_130 rfl rfl (by omega) (Nat.le_of_ble_eq_true rfl) ?_
          refine X12_isAllowed hwt rfl hpt (by omega) (fun h52 => ?_) (fun h52 => ?_)
          all_goals rw [rAlw_at hce 83] at h52
          · skip
            refine v_if_eq 87 58 dX12_leastOf_55 rfl rfl (fun h => absurd h (by decide)) (fun _ => ?_)
            refine v_aload0 59 dX12_leastOf_58 rfl ?_
            refine v_aload0 60 dX12_leastOf_59 rfl ?_
            refine v_getR 63 dX12_leastOf_60 rfl fX12_68 rfl rfl ?_
            refine v_cvI1 mX12_costOf 66 dX12_leastOf_63 rfl kX12_138 rfl rfl (by omega) (Nat.le_of_ble_eq_true rfl) ?_
            refine X12_costOf hwt rfl hpt (by omega) ?_
            rw [rcost_at n hce 83]
            refine v_istore5 68 dX12_leastOf_66 rfl (by decide) ?_
            refine v_iload2 69 dX12_leastOf_68 rfl ?_
            refine v_bipush 71 dX12_leastOf_69 rfl ⟨by decide +kernel, by decide⟩ ?_
            refine v_icmp_eq 80 74 dX12_leastOf_71 rfl rfl (fun h71 => ?_) (fun h71 => ?_)
            · skip
              refine v_iload5 82 dX12_leastOf_80 rfl ?_
              refine v_goto 86 dX12_leastOf_82 rfl ?_
              refine v_istore2 87 dX12_leastOf_86 rfl (by decide) ?_
              first
                | (refine hnext τ _ _ _ f1 hat ?_
                   rw [fold_s hat, ← hs]
                   unfold lsp
                   dsimp only
                   rw [cd_f (fun q => h44 (by have := q.2; omega))]
                   rfl)
                | (refine hnext τ _ _ _ f1 hat ?_
                   rw [fold_s hat, ← hs]
                   unfold lsp
                   dsimp only
                   rw [cd_f (fun q => h52 q.1)]
                   rfl)
                | (refine hnext τ _ _ _ f1 hat ?_
                   rw [fold_s hat, ← hs]
                   unfold lsp
                   dsimp only
                   rw [cd_t (show rokA σ n R asd (lst (τ 83) 0 n) from ⟨h52, by omega⟩), if_pos rfl, if_pos (by omega)])
                | (refine hnext τ _ _ _ f1 hat ?_
                   rw [fold_s hat, ← hs]
                   unfold lsp
                   dsimp only
                   rw [cd_t (show rokA σ n R asd (lst (τ 83) 0 n) from ⟨h52, by omega⟩), if_pos rfl, if_neg (by omega)])
            · skip
              refine v_iload5 76 dX12_leastOf_74 rfl ?_
              refine v_iload2 77 dX12_leastOf_76 rfl ?_
              refine v_icmp_ge 85 80 dX12_leastOf_77 rfl rfl (fun h77 => ?_) (fun h77 => ?_)
              · skip
                refine v_iload2 86 dX12_leastOf_85 rfl ?_
                refine v_istore2 87 dX12_leastOf_86 rfl (by decide) ?_
                first
                  | (refine hnext τ _ _ _ f1 hat ?_
                     rw [fold_s hat, ← hs]
                     unfold lsp
                     dsimp only
                     rw [cd_f (fun q => h44 (by have := q.2; omega))]
                     rfl)
                  | (refine hnext τ _ _ _ f1 hat ?_
                     rw [fold_s hat, ← hs]
                     unfold lsp
                     dsimp only
                     rw [cd_f (fun q => h52 q.1)]
                     rfl)
                  | (refine hnext τ _ _ _ f1 hat ?_
                     rw [fold_s hat, ← hs]
                     unfold lsp
                     dsimp only
                     rw [cd_t (show rokA σ n R asd (lst (τ 83) 0 n) from ⟨h52, by omega⟩), if_pos rfl, if_pos (by omega)])
                  | (refine hnext τ _ _ _ f1 hat ?_
                     rw [fold_s hat, ← hs]
                     unfold lsp
                     dsimp only
                     rw [cd_t (show rokA σ n R asd (lst (τ 83) 0 n) from ⟨h52, by omega⟩), if_pos rfl, if_neg (by omega)])
              · skip
                refine v_iload5 82 dX12_leastOf_80 rfl ?_
                refine v_goto 86 dX12_leastOf_82 rfl ?_
                refine v_istore2 87 dX12_leastOf_86 rfl (by decide) ?_
                first
                  | (refine hnext τ _ _ _ f1 hat ?_
                     rw [fold_s hat, ← hs]
                     unfold lsp
                     dsimp only
                     rw [cd_f (fun q => h44 (by have := q.2; omega))]
                     rfl)
                  | (refine hnext τ _ _ _ f1 hat ?_
                     rw [fold_s hat, ← hs]
                     unfold lsp
                     dsimp only
                     rw [cd_f (fun q => h52 q.1)]
                     rfl)
                  | (refine hnext τ _ _ _ f1 hat ?_
                     rw [fold_s hat, ← hs]
                     unfold lsp
                     dsimp only
                     rw [cd_t (show rokA σ n R asd (lst (τ 83) 0 n) from ⟨h52, by omega⟩), if_pos rfl, if_pos (by omega)])
                  | (refine hnext τ _ _ _ f1 hat ?_
                     rw [fold_s hat, ← hs]
                     unfold lsp
                     dsimp only
                     rw [cd_t (show rokA σ n R asd (lst (τ 83) 0 n) from ⟨h52, by omega⟩), if_pos rfl, if_neg (by omega)])
          · skip
            refine v_if_eq 87 58 dX12_leastOf_55 rfl rfl (fun _ => ?_) (fun h => absurd (by decide) h)
            first
              | (refine hnext τ _ _ _ f1 hat ?_
                 rw [fold_s hat, ← hs]
                 unfold lsp
                 dsimp only
                 rw [cd_f (fun q => h44 (by have := q.2; omega))]
                 rfl)
              | (refine hnext τ _ _ _ f1 hat ?_
                 rw [fold_s hat, ← hs]
                 unfold lsp
                 dsimp only
                 rw [cd_f (fun q => h52 q.1)]
                 rfl)
              | (refine hnext τ _ _ _ f1 hat ?_
                 rw [fold_s hat, ← hs]
                 unfold lsp
                 dsimp only
                 rw [cd_t (show rokA σ n R asd (lst (τ 83) 0 n) from ⟨h52, by omega⟩), if_pos rfl, if_pos (by omega)])
              | (refine hnext τ _ _ _ f1 hat ?_
                 rw [fold_s hat, ← hs]
                 unfold lsp
                 dsimp only
                 rw [cd_t (show rokA σ n R asd (lst (τ 83) 0 n) from ⟨h52, by omega⟩), if_pos rfl, if_neg (by omega)])
      refine v_iload3 10 dX12_leastOf_9 rfl ?_
      refine v_if_eq 95 13 dX12_leastOf_10 rfl rfl (fun h10 => ?_) (fun h10 => ?_)
      · skip
        refine v_iload2 96 dX12_leastOf_95 rfl ?_
        refine v_iretI dX12_leastOf_96 rfl ?_
        exact absurd h10 (by decide)
      · skip
        refine v_aload0 14 dX12_leastOf_13 rfl ?_
        refine v_aload0 15 dX12_leastOf_14 rfl ?_
        refine v_getR 18 dX12_leastOf_15 rfl fX12_68 rfl rfl ?_
        refine v_cvI1 mX12_brokenOf 21 dX12_leastOf_18 rfl kX12_134 rfl rfl (by omega) (Nat.le_of_ble_eq_true rfl) ?_
        refine X12_brokenOf hwt rfl hpt (by omega) ?_
        rw [rbrk_at hw hce 83]
        have hbl : rbrk σ (pf (lst (τ 83) 0 n)) n R < 2 ^ R := bitsN_lt _ _
        have hb2 : 2 ^ R ≤ 2 ^ 12 := Nat.pow_le_pow_right (by omega) hR12
        have hb3 : (2 : Nat) ^ 12 = 4096 := by decide
        generalize hbe : rbrk σ (pf (lst (τ 83) 0 n)) n R = bb at hbl ⊢
        refine v_istore4 23 dX12_leastOf_21 rfl (by decide) ?_
        refine v_iload1 24 dX12_leastOf_23 rfl ?_
        refine v_if_ge 32 27 dX12_leastOf_24 rfl rfl (fun h24 => ?_) (fun h24 => ?_)
        · skip
          have hbA : rbA σ (pf (lst (τ 83) 0 n)) n R asd = clr bb asd.toNat := by unfold rbA; rw [if_neg (by omega), hbe]
          refine v_iload4 34 dX12_leastOf_32 rfl ?_
          refine v_iconst 35 dX12_leastOf_34 rfl ⟨by decide +kernel, by decide⟩ ?_
          refine v_iload1 36 dX12_leastOf_35 rfl ?_
          refine v_ishl 37 dX12_leastOf_36 rfl ?_
          refine v_iconst 38 dX12_leastOf_37 rfl ⟨by decide +kernel, by decide⟩ ?_
          refine v_ixor 39 dX12_leastOf_38 rfl ?_
          refine v_iand 40 dX12_leastOf_39 rfl ?_
          first
            | (have e9 : band (bb : Int) (bxor (bshl 1 asd) (-1)) = (clr bb asd.toNat : Int) := by
                 have e8 : asd = (asd.toNat : Int) := by omega
                 rw [e8, Int.toNat_natCast]; exact band_clr (by omega) (by omega)
               refine V_top (e9.trans (show (clr bb asd.toNat : Int) = ((rbA σ (pf (lst (τ 83) 0 n)) n R asd : Nat) : Int) by rw [hbA])) ?_
               exact h40 _ _)
            | (refine V_top (show (bb : Int) = ((rbA σ (pf (lst (τ 83) 0 n)) n R asd : Nat) : Int) by rw [hbA]) ?_
               exact h40 _ _)
        · skip
          have hbA : rbA σ (pf (lst (τ 83) 0 n)) n R asd = bb := by unfold rbA; rw [if_pos (by omega), hbe]
          refine v_iload4 29 dX12_leastOf_27 rfl ?_
          refine v_goto 40 dX12_leastOf_29 rfl ?_
          first
            | (have e9 : band (bb : Int) (bxor (bshl 1 asd) (-1)) = (clr bb asd.toNat : Int) := by
                 have e8 : asd = (asd.toNat : Int) := by omega
                 rw [e8, Int.toNat_natCast]; exact band_clr (by omega) (by omega)
               refine V_top (e9.trans (show (clr bb asd.toNat : Int) = ((rbA σ (pf (lst (τ 83) 0 n)) n R asd : Nat) : Int) by rw [hbA])) ?_
               exact h40 _ _)
            | (refine V_top (show (bb : Int) = ((rbA σ (pf (lst (τ 83) 0 n)) n R asd : Nat) : Int) by rw [hbA]) ?_
               exact h40 _ _)
  refine v_bipush 2 dX12_leastOf_0 rfl ⟨by decide +kernel, by decide⟩ ?_
  refine v_istore2 3 dX12_leastOf_2 rfl (by decide) ?_
  refine v_iconst 4 dX12_leastOf_3 rfl ⟨by decide +kernel, by decide⟩ ?_
  refine v_istore3 5 dX12_leastOf_4 rfl (by decide) ?_
  refine v_aload0 6 dX12_leastOf_5 rfl ?_
  refine v_cvV0 mX12_firstPlan 9 dX12_leastOf_6 rfl kX12_127 rfl rfl (by omega) (Nat.le_of_ble_eq_true rfl) ?_
  refine X12_firstPlan hw (fun τ t1 t2 => ?_)
  exact L _ 0 τ _ _ _ (Nat.lt_succ_self _) (rEn_ne hw) t1 (rEn_0 hw t2) rfl
set_option maxRecDepth 100000 in
set_option maxHeartbeats 4000000 in
theorem X12_near {d : Nat} {n R F : Nat} {q : Int} {σ : Mem} {K : Int → Mem → Prop} (hw : RW σ n R F) (hd : 4 ≤ d) (o1 : q < 0 ∨ 2000 < q → K (-2) σ) (o2 : ¬ (q < 0 ∨ 2000 < q) ∧ n = 0 → K (-3) σ) (o3 : ¬ (q < 0 ∨ 2000 < q) ∧ n ≠ 0 → ∀ τ : Mem, (∀ c, c ≠ 83 → τ c = σ c) → K (rnear σ n R q) τ) : Run mX12_near d [.inr (some 64), .inl q] σ (RI K) := by
  have hw0 := hw
  obtain ⟨⟨hn, hn6, hR, hR12, hF, hF6⟩, hru, hde, hwo, hli, hba, hwf⟩ := hw0
  refine Run_of (ls := [.inr (some 64), .inl q, .inr none, .inr none]) (by decide) (Nat.le_of_ble_eq_true rfl) rfl ?_
  refine v_iload1 1 dX12_near_0 rfl ?_
  refine v_iconst 2 dX12_near_1 rfl ⟨by decide +kernel, by decide⟩ ?_
  refine v_sipush 5 dX12_near_2 rfl ⟨by decide +kernel, by decide⟩ ?_
  refine v_csI3 mX12_out 8 dX12_near_5 rfl kX12_96 (by omega) (Nat.le_of_ble_eq_true rfl) ?_
  refine X12_out (fun h5 => ?_) (fun h5 => ?_)
  · skip
    refine v_if_eq 14 11 dX12_near_8 rfl rfl (fun h => absurd h (by decide)) (fun _ => ?_)
    refine v_bipush 13 dX12_near_11 rfl ⟨by decide +kernel, by decide⟩ ?_
    refine v_iretI dX12_near_13 rfl ?_
    first | exact o1 (by omega) | exact o2 (by omega)
  · skip
    refine v_if_eq 14 11 dX12_near_8 rfl rfl (fun _ => ?_) (fun h => absurd (by decide) h)
    refine v_aload0 15 dX12_near_14 rfl ?_
    refine v_getIe 18 0 (n) dX12_near_15 rfl fX12_93 rfl rfl rfl (hn) ?_
    refine v_if_ne 24 21 dX12_near_18 rfl rfl (fun h18 => ?_) (fun h18 => ?_)
    · skip
      have hex : ∀ (υ : Mem) (s : Int), (∀ c, c ≠ 83 → υ c = σ c) → s = rnear σ n R q → V mX12_near d (RI K) 32 [.inr (some 64), .inl q, .inl s, .inl 0] [] υ := by
        intro υ s f1 hs
        refine v_iload3 33 dX12_near_32 rfl ?_
        refine v_if_eq 86 36 dX12_near_33 rfl rfl (fun _ => ?_) (fun h => absurd rfl h)
        refine v_iload2 87 dX12_near_86 rfl ?_
        refine v_iretI dX12_near_87 rfl ?_
        rw [hs]
        exact o3 (by omega) υ f1
      have L : ∀ (k i : Nat) (τ : Mem) (s : Int), (rEn σ n).length - i < k → i < (rEn σ n).length → (∀ c, c ≠ 83 → τ c = σ c) → (rEn σ n)[i]? = some (lst (τ 83) 0 n) → (s = ((rEn σ n).take (i)).foldl (nrp (rok σ n R) (fun l => rcost σ n (pf l)) q) 0 ∧ 0 ≤ s ∧ s ≤ ((i : Nat) : Int)) → V mX12_near d (RI K) 32 [.inr (some 64), .inl q, .inl s, .inl 1] [] τ := by
        intro k
        induction k with
        | zero => intros; omega
        | succ k ih =>
          intro i τ s hk hi f1 hat hs
          have hce : CoreEq σ τ := core_of (fun c q1 q2 _ => f1 c q1)
          have hwt := hw.core hce
          have hpt : RP τ 83 n := RP_of hw (List.mem_of_getElem? hat)
          have hnext : ∀ (υ : Mem) (s : Int), (∀ c, c ≠ 83 → υ c = σ c) → (rEn σ n)[i]? = some (lst (υ 83) 0 n) → (s = ((rEn σ n).take (i + 1)).foldl (nrp (rok σ n R) (fun l => rcost σ n (pf l)) q) 0 ∧ 0 ≤ s ∧ s ≤ ((i + 1 : Nat) : Int)) → V mX12_near d (RI K) 78 [.inr (some 64), .inl q, .inl s, .inl 1] [] υ := by
            intro υ s f1 hat hs
            have hce : CoreEq σ υ := core_of (fun c q1 q2 _ => f1 c q1)
            have hpu : RP υ 83 n := RP_of hw (List.mem_of_getElem? hat)
            have t3 := nx_at hw hce hat
            refine v_aload0 79 dX12_near_78 rfl ?_
            refine v_cvI0 mX12_nextPlan 82 dX12_near_79 rfl kX12_144 rfl rfl (by omega) (Nat.le_of_ble_eq_true rfl) ?_
            refine X12_nextPlan (hw.core hce) hpu (fun τ2 t1 t2 => ?_) (fun τ2 t1 t2 => ?_)
            · refine v_istore3 83 dX12_near_82 rfl (by decide) ?_
              refine v_goto 32 dX12_near_83 rfl ?_
              have t4 := t3.symm.trans t2
              exact ih (i + 1) τ2 _ (by have := (List.getElem?_eq_some_iff.mp t4).1; omega) (List.getElem?_eq_some_iff.mp t4).1 (fun c p83 => by rw [t1 c p83]; exact f1 c p83) t4 (by exact hs)
            · refine v_istore3 83 dX12_near_82 rfl (by decide) ?_
              refine v_goto 32 dX12_near_83 rfl ?_
              have t4 := t3.symm.trans t2
              have hlen := List.getElem?_eq_none_iff.mp t4
              refine hex τ2 _ (fun c p83 => by rw [t1 c p83]; exact f1 c p83) ?_
              have hs1 := hs.1
              rw [fold_e hlen] at hs1
              exact hs1
          refine v_iload3 33 dX12_near_32 rfl ?_
          refine v_if_eq 86 36 dX12_near_33 rfl rfl (fun h33 => ?_) (fun h33 => ?_)
          · skip
            refine v_iload2 87 dX12_near_86 rfl ?_
            refine v_iretI dX12_near_87 rfl ?_
            exact absurd h33 (by decide)
          · skip
            have hok := rok_at (R := R) hw hce 83
            have hcn := rEn_cnt hw
            refine v_iload2 37 dX12_near_36 rfl ?_
            refine v_aload0 38 dX12_near_37 rfl ?_
            refine v_aload0 39 dX12_near_38 rfl ?_
            refine v_getR 42 dX12_near_39 rfl fX12_68 rfl rfl ?_
            refine v_cvI1 mX12_isAllowed 45 dX12_near_42 rfl kX12_130 rfl rfl (by omega) (Nat.le_of_ble_eq_true rfl) ?_
            refine X12_isAllowed hwt rfl hpt (by omega) (fun h42 => ?_) (fun h42 => ?_)
            · skip
              refine v_if_eq 75 48 dX12_near_45 rfl rfl (fun h => absurd h (by decide)) (fun _ => ?_)
              refine v_aload0 49 dX12_near_48 rfl ?_
              refine v_aload0 50 dX12_near_49 rfl ?_
              refine v_getR 53 dX12_near_50 rfl fX12_68 rfl rfl ?_
              refine v_cvI1 mX12_brokenOf 56 dX12_near_53 rfl kX12_134 rfl rfl (by omega) (Nat.le_of_ble_eq_true rfl) ?_
              refine X12_brokenOf hwt rfl hpt (by omega) ?_
              refine v_if_ne 75 59 dX12_near_56 rfl rfl (fun h56 => ?_) (fun h56 => ?_)
              · skip
                refine v_iconst 76 dX12_near_75 rfl ⟨by decide +kernel, by decide⟩ ?_
                refine v_iadd 77 dX12_near_76 rfl (⟨by omega, by omega⟩) ?_
                refine v_istore2 78 dX12_near_77 rfl (by decide) ?_
                first
                  | (refine hnext τ _ f1 hat ⟨?_, by omega, by omega⟩
                     rw [fold_s hat, ← hs.1]
                     unfold nrp
                     dsimp only
                     congr 1
                     rw [cd_t ⟨hok.mpr ⟨h42, by omega⟩, by omega⟩]; rfl)
                  | (refine hnext τ _ f1 hat ⟨?_, by omega, by omega⟩
                     rw [fold_s hat, ← hs.1]
                     unfold nrp
                     dsimp only
                     congr 1
                     rw [cd_f (fun q => h42 ((hok.mp q.1).1))]; rfl)
                  | (refine hnext τ _ f1 hat ⟨?_, by omega, by omega⟩
                     rw [fold_s hat, ← hs.1]
                     unfold nrp
                     dsimp only
                     congr 1
                     rw [cd_f (fun q => h56 (by have := (hok.mp q.1).2; omega))]; rfl)
                  | (refine hnext τ _ f1 hat ⟨?_, by omega, by omega⟩
                     rw [fold_s hat, ← hs.1]
                     unfold nrp
                     dsimp only
                     congr 1
                     rw [cd_f (fun q => by have := q.2; omega)]; rfl)
              · skip
                refine v_aload0 60 dX12_near_59 rfl ?_
                refine v_aload0 61 dX12_near_60 rfl ?_
                refine v_getR 64 dX12_near_61 rfl fX12_68 rfl rfl ?_
                refine v_cvI1 mX12_costOf 67 dX12_near_64 rfl kX12_138 rfl rfl (by omega) (Nat.le_of_ble_eq_true rfl) ?_
                refine X12_costOf hwt rfl hpt (by omega) ?_
                rw [rcost_at n hce 83]
                refine v_iload1 68 dX12_near_67 rfl ?_
                refine v_icmp_gt 75 71 dX12_near_68 rfl rfl (fun h68 => ?_) (fun h68 => ?_)
                · skip
                  refine v_iconst 76 dX12_near_75 rfl ⟨by decide +kernel, by decide⟩ ?_
                  refine v_iadd 77 dX12_near_76 rfl (⟨by omega, by omega⟩) ?_
                  refine v_istore2 78 dX12_near_77 rfl (by decide) ?_
                  first
                    | (refine hnext τ _ f1 hat ⟨?_, by omega, by omega⟩
                       rw [fold_s hat, ← hs.1]
                       unfold nrp
                       dsimp only
                       congr 1
                       rw [cd_t ⟨hok.mpr ⟨h42, by omega⟩, by omega⟩]; rfl)
                    | (refine hnext τ _ f1 hat ⟨?_, by omega, by omega⟩
                       rw [fold_s hat, ← hs.1]
                       unfold nrp
                       dsimp only
                       congr 1
                       rw [cd_f (fun q => h42 ((hok.mp q.1).1))]; rfl)
                    | (refine hnext τ _ f1 hat ⟨?_, by omega, by omega⟩
                       rw [fold_s hat, ← hs.1]
                       unfold nrp
                       dsimp only
                       congr 1
                       rw [cd_f (fun q => h56 (by have := (hok.mp q.1).2; omega))]; rfl)
                    | (refine hnext τ _ f1 hat ⟨?_, by omega, by omega⟩
                       rw [fold_s hat, ← hs.1]
                       unfold nrp
                       dsimp only
                       congr 1
                       rw [cd_f (fun q => by have := q.2; omega)]; rfl)
                · skip
                  refine v_iconst 72 dX12_near_71 rfl ⟨by decide +kernel, by decide⟩ ?_
                  refine v_goto 76 dX12_near_72 rfl ?_
                  refine v_iadd 77 dX12_near_76 rfl (⟨by omega, by omega⟩) ?_
                  refine v_istore2 78 dX12_near_77 rfl (by decide) ?_
                  first
                    | (refine hnext τ _ f1 hat ⟨?_, by omega, by omega⟩
                       rw [fold_s hat, ← hs.1]
                       unfold nrp
                       dsimp only
                       congr 1
                       rw [cd_t ⟨hok.mpr ⟨h42, by omega⟩, by omega⟩]; rfl)
                    | (refine hnext τ _ f1 hat ⟨?_, by omega, by omega⟩
                       rw [fold_s hat, ← hs.1]
                       unfold nrp
                       dsimp only
                       congr 1
                       rw [cd_f (fun q => h42 ((hok.mp q.1).1))]; rfl)
                    | (refine hnext τ _ f1 hat ⟨?_, by omega, by omega⟩
                       rw [fold_s hat, ← hs.1]
                       unfold nrp
                       dsimp only
                       congr 1
                       rw [cd_f (fun q => h56 (by have := (hok.mp q.1).2; omega))]; rfl)
                    | (refine hnext τ _ f1 hat ⟨?_, by omega, by omega⟩
                       rw [fold_s hat, ← hs.1]
                       unfold nrp
                       dsimp only
                       congr 1
                       rw [cd_f (fun q => by have := q.2; omega)]; rfl)
            · skip
              refine v_if_eq 75 48 dX12_near_45 rfl rfl (fun _ => ?_) (fun h => absurd (by decide) h)
              refine v_iconst 76 dX12_near_75 rfl ⟨by decide +kernel, by decide⟩ ?_
              refine v_iadd 77 dX12_near_76 rfl (⟨by omega, by omega⟩) ?_
              refine v_istore2 78 dX12_near_77 rfl (by decide) ?_
              first
                | (refine hnext τ _ f1 hat ⟨?_, by omega, by omega⟩
                   rw [fold_s hat, ← hs.1]
                   unfold nrp
                   dsimp only
                   congr 1
                   rw [cd_t ⟨hok.mpr ⟨h42, by omega⟩, by omega⟩]; rfl)
                | (refine hnext τ _ f1 hat ⟨?_, by omega, by omega⟩
                   rw [fold_s hat, ← hs.1]
                   unfold nrp
                   dsimp only
                   congr 1
                   rw [cd_f (fun q => h42 ((hok.mp q.1).1))]; rfl)
                | (refine hnext τ _ f1 hat ⟨?_, by omega, by omega⟩
                   rw [fold_s hat, ← hs.1]
                   unfold nrp
                   dsimp only
                   congr 1
                   rw [cd_f (fun q => h56 (by have := (hok.mp q.1).2; omega))]; rfl)
                | (refine hnext τ _ f1 hat ⟨?_, by omega, by omega⟩
                   rw [fold_s hat, ← hs.1]
                   unfold nrp
                   dsimp only
                   congr 1
                   rw [cd_f (fun q => by have := q.2; omega)]; rfl)
      refine v_iconst 25 dX12_near_24 rfl ⟨by decide +kernel, by decide⟩ ?_
      refine v_istore2 26 dX12_near_25 rfl (by decide) ?_
      refine v_iconst 27 dX12_near_26 rfl ⟨by decide +kernel, by decide⟩ ?_
      refine v_istore3 28 dX12_near_27 rfl (by decide) ?_
      refine v_aload0 29 dX12_near_28 rfl ?_
      refine v_cvV0 mX12_firstPlan 32 dX12_near_29 rfl kX12_127 rfl rfl (by omega) (Nat.le_of_ble_eq_true rfl) ?_
      refine X12_firstPlan hw (fun τ t1 t2 => ?_)
      exact L _ 0 τ _ (Nat.lt_succ_self _) (rEn_ne hw) t1 (rEn_0 hw t2) ⟨rfl, by decide, by decide⟩
    · skip
      refine v_bipush 23 dX12_near_21 rfl ⟨by decide +kernel, by decide⟩ ?_
      refine v_iretI dX12_near_23 rfl ?_
      first | exact o1 (by omega) | exact o2 (by omega)
set_option maxRecDepth 100000 in
set_option maxHeartbeats 4000000 in
theorem X12_least {d : Nat} {n R F : Nat} {σ : Mem} {K : Int → Mem → Prop} (hw : RW σ n R F) (hd : 5 ≤ d) (o1 : n = 0 → K (-3) σ) (o2 : n ≠ 0 → ∀ τ : Mem, (∀ c, c ≠ 83 → τ c = σ c) → K (rleast σ n R (-1)) τ) : Run mX12_least d [.inr (some 64)] σ (RI K) := by
  have hw0 := hw
  obtain ⟨⟨hn, hn6, hR, hR12, hF, hF6⟩, hru, hde, hwo, hli, hba, hwf⟩ := hw0
  refine Run_of (ls := [.inr (some 64)]) (by decide) (Nat.le_of_ble_eq_true rfl) rfl ?_
  refine v_aload0 1 dX12_least_0 rfl ?_
  refine v_getIe 4 0 (n) dX12_least_1 rfl fX12_93 rfl rfl rfl (hn) ?_
  refine v_if_ne 12 7 dX12_least_4 rfl rfl (fun h4 => ?_) (fun h4 => ?_)
  · skip
    refine v_aload0 13 dX12_least_12 rfl ?_
    refine v_iconst 14 dX12_least_13 rfl ⟨by decide +kernel, by decide⟩ ?_
    refine v_cvI1 mX12_leastOf 17 dX12_least_14 rfl kX12_162 rfl rfl (by omega) (Nat.le_of_ble_eq_true rfl) ?_
    refine X12_leastOf hw (by omega) (by omega) (fun τ t1 => ?_)
    refine v_iretI dX12_least_17 rfl ?_
    first | exact o1 (by omega) | exact o2 (by omega) τ t1
  · skip
    refine v_bipush 9 dX12_least_7 rfl ⟨by decide +kernel, by decide⟩ ?_
    refine v_goto 17 dX12_least_9 rfl ?_
    refine v_iretI dX12_least_17 rfl ?_
    first | exact o1 (by omega) | exact o2 (by omega) τ t1
set_option maxRecDepth 100000 in
set_option maxHeartbeats 4000000 in
theorem X12_without {d : Nat} {n R F : Nat} {r : Int} {σ : Mem} {K : Int → Mem → Prop} (hw : RW σ n R F) (hd : 5 ≤ d) (o1 : r < 0 ∨ (R : Int) ≤ r → K (-1) σ) (o2 : (0 ≤ r ∧ r < R) ∧ n = 0 → K (-3) σ) (o3 : (0 ≤ r ∧ r < R) ∧ n ≠ 0 → ∀ τ : Mem, (∀ c, c ≠ 83 → τ c = σ c) → K (rleast σ n R r) τ) : Run mX12_without d [.inr (some 64), .inl r] σ (RI K) := by
  have hw0 := hw
  obtain ⟨⟨hn, hn6, hR, hR12, hF, hF6⟩, hru, hde, hwo, hli, hba, hwf⟩ := hw0
  refine Run_of (ls := [.inr (some 64), .inl r]) (by decide) (Nat.le_of_ble_eq_true rfl) rfl ?_
  refine v_iload1 1 dX12_without_0 rfl ?_
  refine v_iconst 2 dX12_without_1 rfl ⟨by decide +kernel, by decide⟩ ?_
  refine v_aload0 3 dX12_without_2 rfl ?_
  refine v_getIe 6 12 (R) dX12_without_3 rfl fX12_114 rfl rfl rfl (hR) ?_
  refine v_iconst 7 dX12_without_6 rfl ⟨by decide +kernel, by decide⟩ ?_
  refine v_isub 8 dX12_without_7 rfl (⟨by omega, by omega⟩) ?_
  refine v_csI3 mX12_out 11 dX12_without_8 rfl kX12_96 (by omega) (Nat.le_of_ble_eq_true rfl) ?_
  refine X12_out (fun h8 => ?_) (fun h8 => ?_)
  · skip
    refine v_if_eq 16 14 dX12_without_11 rfl rfl (fun h => absurd h (by decide)) (fun _ => ?_)
    refine v_iconst 15 dX12_without_14 rfl ⟨by decide +kernel, by decide⟩ ?_
    refine v_iretI dX12_without_15 rfl ?_
    first | exact o1 (by omega) | exact o2 (by omega) | exact o3 (by omega) τ t1
  · skip
    refine v_if_eq 16 14 dX12_without_11 rfl rfl (fun _ => ?_) (fun h => absurd (by decide) h)
    refine v_aload0 17 dX12_without_16 rfl ?_
    refine v_getIe 20 0 (n) dX12_without_17 rfl fX12_93 rfl rfl rfl (hn) ?_
    refine v_if_ne 28 23 dX12_without_20 rfl rfl (fun h20 => ?_) (fun h20 => ?_)
    · skip
      refine v_aload0 29 dX12_without_28 rfl ?_
      refine v_iload1 30 dX12_without_29 rfl ?_
      refine v_cvI1 mX12_leastOf 33 dX12_without_30 rfl kX12_162 rfl rfl (by omega) (Nat.le_of_ble_eq_true rfl) ?_
      refine X12_leastOf hw (by omega) (by omega) (fun τ t1 => ?_)
      refine v_iretI dX12_without_33 rfl ?_
      first | exact o1 (by omega) | exact o2 (by omega) | exact o3 (by omega) τ t1
    · skip
      refine v_bipush 25 dX12_without_23 rfl ⟨by decide +kernel, by decide⟩ ?_
      refine v_goto 33 dX12_without_25 rfl ?_
      refine v_iretI dX12_without_33 rfl ?_
      first | exact o1 (by omega) | exact o2 (by omega) | exact o3 (by omega) τ t1
