set_option maxRecDepth 100000 in
set_option maxHeartbeats 4000000 in
noncomputable def metB (σ : Mem) (n R : Nat) (L : List (List Int)) (j : Nat) : Bool := cd (∃ l, l ∈ L ∧ rAlw σ (pf l) n ∧ rbrk σ (pf l) n R = j)
def MetIs (σ τ : Mem) (n R : Nat) (L : List (List Int)) : Prop := ∀ j : Nat, j < 4096 → τ 90 (j : Int) = one (metB σ n R L j)
theorem met_clm {σ τ : Mem} {n R F : Nat} (hw : RW σ n R F) (h : MetIs σ τ n R (rEn σ n)) (s : Nat) : clm τ s ↔ rcl σ n R s := by
  have hR12 : R ≤ 12 := hw.1.2.2.2.1
  have hb2 : 2 ^ R ≤ 2 ^ 12 := Nat.pow_le_pow_right (by omega) hR12
  have hb3 : (2 : Nat) ^ 12 = 4096 := by decide
  constructor
  · intro hc l hl ha
    have hlt : rbrk σ (pf l) n R < 2 ^ R := bitsN_lt _ _
    refine hc _ (by omega) ?_
    rw [h _ (by omega)]
    unfold metB
    rw [cd_t ⟨l, hl, ha, rfl⟩]
    rfl
  · intro hc k hk h1
    rw [h k hk] at h1
    cases hm : metB σ n R (rEn σ n) k with
    | false => rw [hm] at h1; cases h1
    | true =>
      obtain ⟨l, hl, ha, hb⟩ := cd_of hm
      rw [← hb]
      exact hc l hl ha
theorem met_01 {σ τ : Mem} {n R : Nat} {L : List (List Int)} (h : MetIs σ τ n R L) : ∀ j : Int, 0 ≤ j → j < 4096 → τ 90 j = 0 ∨ τ 90 j = 1 := fun j a b => by
  have := h j.toNat (by omega)
  rw [Int.toNat_of_nonneg a] at this
  rw [this]
  cases metB σ n R L j.toNat
  · exact Or.inl rfl
  · exact Or.inr rfl
set_option maxRecDepth 100000 in
set_option maxHeartbeats 4000000 in
theorem X12_clash {d : Nat} {n R F : Nat} {ii : Int} {σ : Mem} {K : Int → Mem → Prop} (hw : RW σ n R F) (hd : 4 ≤ d) (o1 : n = 0 → K (-3) σ) (o2 : n ≠ 0 → (∀ s, s < 2 ^ R → ¬ rcl σ n R s) → ∀ τ : Mem, (∀ c, c ≠ 83 → c ≠ 90 → τ c = σ c) → K (-5) τ) (o3 : n ≠ 0 → ∀ s, CMin (rcl σ n R) R s → ∀ τ : Mem, (∀ c, c ≠ 83 → c ≠ 90 → τ c = σ c) → K (if ii = -1 then pop s 12 else nbF s ii 12 0 0) τ) : Run mX12_clash d [.inr (some 64), .inl ii] σ (RI K) := by
  have hw0 := hw
  obtain ⟨⟨hn, hn6, hR, hR12, hF, hF6⟩, hru, hde, hwo, hli, hba, hwf⟩ := hw0
  have hp2 : 2 ^ R ≤ 4096 := Nat.le_trans (Nat.pow_le_pow_right (by omega) hR12) (by decide)
  refine Run_of (ls := [.inr (some 64), .inl ii, .inr none, .inr none, .inr none, .inr none]) (by decide) (Nat.le_of_ble_eq_true rfl) rfl ?_
  refine v_aload0 1 dX12_clash_0 rfl ?_
  refine v_getIe 4 0 (n) dX12_clash_1 rfl fX12_93 rfl rfl rfl (hn) ?_
  refine v_if_ne 10 7 dX12_clash_4 rfl rfl (fun h4 => ?_) (fun h4 => ?_)
  · skip
    have hn0 : n ≠ 0 := by omega
    have hex : ∀ (υ : Mem) (z3 : AV) (z4 : AV) (z5 : AV), (∀ c, c ≠ 83 → c ≠ 90 → υ c = σ c) → MetIs σ υ n R (rEn σ n) → V mX12_clash d (RI K) 38 [.inr (some 64), .inl ii, .inl 0, z3, z4, z5] [] υ := by
      intro υ z3 z4 z5 f1 hs
      have hm01 := met_01 hs
      have hmet := hs
      have hfin : ∀ (fd : Int) (size : Nat) (z5 : AV), ((fd = -1 ∧ ∀ t, t < 2 ^ R → clm υ t → (size : Int) ≤ pop t 12) ∨ ∃ s : Nat, fd = (s : Int) ∧ CMin (clm υ) R s) → (size > R ∨ 0 ≤ fd) → V mX12_clash d (RI K) 106 [.inr (some 64), .inl ii, .inl 0, .inl fd, .inl (size : Int), z5] [] υ := by
        intro fd size z5 hl hxx
        refine v_iload3 107 dX12_clash_106 rfl ?_
        refine v_if_ge 113 110 dX12_clash_107 rfl rfl (fun h107 => ?_) (fun h107 => ?_)
        · skip
          obtain ⟨s, q1, q2⟩ : ∃ s : Nat, fd = (s : Int) ∧ CMin (clm υ) R s := by
            rcases hl with ⟨l1, l2⟩ | h
            · exfalso; omega
            · exact h
          subst q1
          have hs4 : s < 4096 := by have := q2.1; omega
          have hcm : CMin (rcl σ n R) R s := ⟨q2.1, (met_clm hw hmet s).mp q2.2.1, fun t a b => q2.2.2 t a ((met_clm hw hmet t).mpr b)⟩
          refine v_iload1 114 dX12_clash_113 rfl ?_
          refine v_iconst 115 dX12_clash_114 rfl ⟨by decide +kernel, by decide⟩ ?_
          refine v_icmp_ne 123 118 dX12_clash_115 rfl rfl (fun h115 => ?_) (fun h115 => ?_)
          · skip
            have LB : ∀ (k : Nat) (r : Nat) (cnt : Int), 12 - r < k → r ≤ 12 → 0 ≤ cnt → cnt ≤ r → nbF s ii (12 - r) r cnt = nbF s ii 12 0 0 → V mX12_clash d (RI K) 129 [.inr (some 64), .inl ii, .inl 0, .inl (s : Int), .inl cnt, .inl (r : Int)] [] υ := by
              intro k
              induction k with
              | zero => intros; omega
              | succ k ih =>
                  intro r cnt hk hr hc0 hc1 hnb
                  refine v_iload5 131 dX12_clash_129 rfl ?_
                  refine v_bipush 133 dX12_clash_131 rfl ⟨by decide +kernel, by decide⟩ ?_
                  refine v_icmp_ge 164 136 dX12_clash_133 rfl rfl (fun h133 => ?_) (fun h133 => ?_)
                  · skip
                    refine v_bipush 166 dX12_clash_164 rfl ⟨by decide +kernel, by decide⟩ ?_
                    refine v_iretI dX12_clash_166 rfl ?_
                    obtain rfl : r = 12 := by omega
                    rw [Nat.sub_self] at hnb
                    have hnb : (-5 : Int) = nbF s ii 12 0 0 := hnb
                    rw [hnb]
                    have := o3 hn0 s hcm υ f1
                    rw [if_neg (by omega)] at this
                    exact this
                  · skip
                    have e12 : 12 - r = (12 - (r + 1)) + 1 := by omega
                    rw [e12] at hnb
                    have hnb : (if s.testBit r then (if cnt = ii then (r : Int) else nbF s ii (12 - (r + 1)) (r + 1) (cnt + 1)) else nbF s ii (12 - (r + 1)) (r + 1) cnt) = nbF s ii 12 0 0 := hnb
                    refine v_iload3 137 dX12_clash_136 rfl ?_
                    refine v_iload5 139 dX12_clash_137 rfl ?_
                    refine v_ishr 140 dX12_clash_139 rfl ?_
                    refine v_iconst 141 dX12_clash_140 rfl ⟨by decide +kernel, by decide⟩ ?_
                    refine v_iand 142 dX12_clash_141 rfl ?_
                    rw [bit_nat (by omega : s < 2 ^ 31) (by omega : r < 32)]
                    refine v_iconst 143 dX12_clash_142 rfl ⟨by decide +kernel, by decide⟩ ?_
                    refine v_icmp_ne 158 146 dX12_clash_143 rfl rfl (fun h143 => ?_) (fun h143 => ?_)
                    · skip
                      refine v_iinc5 161 dX12_clash_158 rfl (by decide) rfl (⟨by omega, by omega⟩) ?_
                      refine v_goto 129 dX12_clash_161 rfl ?_
                      cases htb : s.testBit r with
                      | true =>
                        rw [htb] at hnb
                        first
                          | (exfalso; rw [htb] at h143; exact absurd rfl h143)
                          | (refine ih (r + 1) _ (by omega) (by omega) (by omega) (by omega) ?_
                             rw [← hnb, if_pos rfl, if_neg (by omega)])
                      | false =>
                        rw [htb] at hnb
                        first
                          | (exfalso; rw [htb] at h143; exact absurd (Classical.not_not.mp h143) (by decide))
                          | (refine ih (r + 1) _ (by omega) (by omega) (by omega) (by omega) ?_
                             rw [← hnb]; rfl)
                    · skip
                      refine v_iload4 148 dX12_clash_146 rfl ?_
                      refine v_iload1 149 dX12_clash_148 rfl ?_
                      refine v_icmp_ne 155 152 dX12_clash_149 rfl rfl (fun h149 => ?_) (fun h149 => ?_)
                      · skip
                        refine v_iinc4 158 dX12_clash_155 rfl (by decide) rfl (⟨by omega, by omega⟩) ?_
                        refine v_iinc5 161 dX12_clash_158 rfl (by decide) rfl (⟨by omega, by omega⟩) ?_
                        refine v_goto 129 dX12_clash_161 rfl ?_
                        cases htb : s.testBit r with
                        | true =>
                          rw [htb] at hnb
                          first
                            | (exfalso; rw [htb] at h143; exact absurd rfl h143)
                            | (refine ih (r + 1) _ (by omega) (by omega) (by omega) (by omega) ?_
                               rw [← hnb, if_pos rfl, if_neg (by omega)])
                        | false =>
                          rw [htb] at hnb
                          first
                            | (exfalso; rw [htb] at h143; exact absurd (Classical.not_not.mp h143) (by decide))
                            | (refine ih (r + 1) _ (by omega) (by omega) (by omega) (by omega) ?_
                               rw [← hnb]; rfl)
                      · skip
                        refine v_iload5 154 dX12_clash_152 rfl ?_
                        refine v_iretI dX12_clash_154 rfl ?_
                        cases htb : s.testBit r with
                        | true =>
                          rw [htb, if_pos rfl, if_pos (by omega)] at hnb
                          rw [hnb]
                          have := o3 hn0 s hcm υ f1
                          rw [if_neg (by omega)] at this
                          exact this
                        | false => exfalso; rw [htb] at h143; exact absurd (Classical.not_not.mp h143) (by decide)
            refine v_iconst 124 dX12_clash_123 rfl ⟨by decide +kernel, by decide⟩ ?_
            refine v_istore4 126 dX12_clash_124 rfl (by decide) ?_
            refine v_iconst 127 dX12_clash_126 rfl ⟨by decide +kernel, by decide⟩ ?_
            refine v_istore5 129 dX12_clash_127 rfl (by decide) ?_
            exact LB 13 0 0 (by decide) (by decide) (by decide) (by decide) rfl
          · skip
            refine v_iload3 119 dX12_clash_118 rfl ?_
            refine v_csI1 mX12_ones 122 dX12_clash_119 rfl kX12_158 (by omega) (Nat.le_of_ble_eq_true rfl) ?_
            refine X12_ones (by omega) ?_
            refine v_iretI dX12_clash_122 rfl ?_
            have := o3 hn0 s hcm υ f1
            rw [if_pos (by omega)] at this
            exact this
        · skip
          refine v_bipush 112 dX12_clash_110 rfl ⟨by decide +kernel, by decide⟩ ?_
          refine v_iretI dX12_clash_112 rfl ?_
          rcases hl with ⟨l1, l2⟩ | ⟨s, l1, l2⟩
          · refine o2 hn0 (fun t a b => ?_) υ f1
            have h7 := l2 t a ((met_clm hw hmet t).mpr b)
            have h8 := pop_le hR12 a
            have hsz9 : (size : Int) > R := by clear l2; omega
            omega
          · exfalso; omega
      have LS : ∀ (k : Nat) (size : Nat) (fd : Int) (z5 : AV), R + 1 - size < k → size ≤ R + 1 → ((fd = -1 ∧ ∀ t, t < 2 ^ R → clm υ t → (size : Int) ≤ pop t 12) ∨ ∃ s : Nat, fd = (s : Int) ∧ CMin (clm υ) R s) → V mX12_clash d (RI K) 80 [.inr (some 64), .inl ii, .inl 0, .inl fd, .inl (size : Int), z5] [] υ := by
        intro k
        induction k with
        | zero => intros; omega
        | succ k ih =>
            intro size fd z5 hk hsz hl
            refine v_iload4 82 dX12_clash_80 rfl ?_
            refine v_aload0 83 dX12_clash_82 rfl ?_
            refine v_getIe 86 12 (R) dX12_clash_83 rfl fX12_114 rfl rfl rfl (by rw [f1 64 (by decide) (by decide)]; exact hR) ?_
            refine v_icmp_gt 106 89 dX12_clash_86 rfl rfl (fun h86 => ?_) (fun h86 => ?_)
            · skip
              exact hfin _ _ _ hl (by clear hl; omega)
            · skip
              refine v_iload3 90 dX12_clash_89 rfl ?_
              refine v_if_ge 106 93 dX12_clash_90 rfl rfl (fun h90 => ?_) (fun h90 => ?_)
              · skip
                exact hfin _ _ _ hl (by clear hl; omega)
              · skip
                have hsR : size ≤ R := by clear hl; omega
                refine v_aload0 94 dX12_clash_93 rfl ?_
                refine v_iload4 96 dX12_clash_94 rfl ?_
                refine v_cvI1 mX12_leastClash 99 dX12_clash_96 rfl kX12_178 rfl rfl (by omega) (Nat.le_of_ble_eq_true rfl) ?_
                refine X12_leastClash hm01 (by rw [f1 64 (by decide) (by decide)]; exact hR) hR12 (by omega) (fun q1 => ?_) (fun s q1 q2 q3 => ?_)
                all_goals (rcases hl with ⟨l1, l2⟩ | ⟨s9, l1, l2⟩)
                all_goals (try (exfalso; omega))
                all_goals skip
                · refine v_istore3 100 dX12_clash_99 rfl (by decide) ?_
                  refine v_iinc4 103 dX12_clash_100 rfl (by decide) rfl (⟨by omega, by omega⟩) ?_
                  refine v_goto 80 dX12_clash_103 rfl ?_
                  refine ih (size + 1) _ _ (by omega) (by omega) (Or.inl ⟨rfl, fun t a b => ?_⟩)
                  have h7 := l2 t a b
                  have h8 : pop t 12 ≠ (size : Int) := fun e => q1 t a ⟨e, b⟩
                  omega
                · refine v_istore3 100 dX12_clash_99 rfl (by decide) ?_
                  refine v_iinc4 103 dX12_clash_100 rfl (by decide) rfl (⟨by omega, by omega⟩) ?_
                  refine v_goto 80 dX12_clash_103 rfl ?_
                  refine ih (size + 1) _ _ (by omega) (by omega) (Or.inr ⟨s, rfl, q1, q2.2, fun t a b => ?_⟩)
                  have h7 := l2 t a b
                  by_cases e : pop t 12 = (size : Int)
                  · exact Or.inr ⟨by omega, q3 t a ⟨e, b⟩⟩
                  · exact Or.inl (by omega)
      refine v_iload2 39 dX12_clash_38 rfl ?_
      refine v_if_eq 75 42 dX12_clash_39 rfl rfl (fun _ => ?_) (fun h => absurd rfl h)
      refine v_iconst 76 dX12_clash_75 rfl ⟨by decide +kernel, by decide⟩ ?_
      refine v_istore3 77 dX12_clash_76 rfl (by decide) ?_
      refine v_iconst 78 dX12_clash_77 rfl ⟨by decide +kernel, by decide⟩ ?_
      refine v_istore4 80 dX12_clash_78 rfl (by decide) ?_
      exact LS (R + 2) 0 _ _ (by omega) (by omega) (Or.inl ⟨rfl, fun t a b => (pop_bnd t 12).1⟩)
    have L : ∀ (k i : Nat) (τ : Mem) (z3 : AV) (z4 : AV) (z5 : AV), (rEn σ n).length - i < k → i < (rEn σ n).length → (∀ c, c ≠ 83 → c ≠ 90 → τ c = σ c) → (rEn σ n)[i]? = some (lst (τ 83) 0 n) → MetIs σ τ n R ((rEn σ n).take (i)) → V mX12_clash d (RI K) 38 [.inr (some 64), .inl ii, .inl 1, z3, z4, z5] [] τ := by
      intro k
      induction k with
      | zero => intros; omega
      | succ k ih =>
        intro i τ z3 z4 z5 hk hi f1 hat hs
        have hce : CoreEq σ τ := core_of (fun c q1 q2 q3 => f1 c q1 (by omega))
        have hwt := hw.core hce
        have hpt : RP τ 83 n := RP_of hw (List.mem_of_getElem? hat)
        have hnext : ∀ (υ : Mem) (z3 : AV) (z4 : AV) (z5 : AV), (∀ c, c ≠ 83 → c ≠ 90 → υ c = σ c) → (rEn σ n)[i]? = some (lst (υ 83) 0 n) → MetIs σ υ n R ((rEn σ n).take (i + 1)) → V mX12_clash d (RI K) 67 [.inr (some 64), .inl ii, .inl 1, z3, z4, z5] [] υ := by
          intro υ z3 z4 z5 f1 hat hs
          have hce : CoreEq σ υ := core_of (fun c q1 q2 q3 => f1 c q1 (by omega))
          have hpu : RP υ 83 n := RP_of hw (List.mem_of_getElem? hat)
          have t3 := nx_at hw hce hat
          refine v_aload0 68 dX12_clash_67 rfl ?_
          refine v_cvI0 mX12_nextPlan 71 dX12_clash_68 rfl kX12_144 rfl rfl (by omega) (Nat.le_of_ble_eq_true rfl) ?_
          refine X12_nextPlan (hw.core hce) hpu (fun τ2 t1 t2 => ?_) (fun τ2 t1 t2 => ?_)
          · refine v_istore2 72 dX12_clash_71 rfl (by decide) ?_
            refine v_goto 38 dX12_clash_72 rfl ?_
            have t4 := t3.symm.trans t2
            exact ih (i + 1) τ2 _ _ _ (by have := (List.getElem?_eq_some_iff.mp t4).1; omega) (List.getElem?_eq_some_iff.mp t4).1 (fun c p83 p90 => by rw [t1 c p83]; exact f1 c p83 p90) t4 (by intro j hj; rw [t1 90 (by decide)]; exact hs j hj)
          · refine v_istore2 72 dX12_clash_71 rfl (by decide) ?_
            refine v_goto 38 dX12_clash_72 rfl ?_
            have t4 := t3.symm.trans t2
            have hlen := List.getElem?_eq_none_iff.mp t4
            refine hex τ2 _ _ _ (fun c p83 p90 => by rw [t1 c p83]; exact f1 c p83 p90) ?_
            intro j hj
            rw [t1 90 (by decide), hs j hj, List.take_of_length_le hlen]
        refine v_iload2 39 dX12_clash_38 rfl ?_
        refine v_if_eq 75 42 dX12_clash_39 rfl rfl (fun h39 => ?_) (fun h39 => ?_)
        · skip
          exact absurd h39 (by decide)
        · skip
          refine v_aload0 43 dX12_clash_42 rfl ?_
          refine v_aload0 44 dX12_clash_43 rfl ?_
          refine v_getR 47 dX12_clash_44 rfl fX12_68 rfl rfl ?_
          refine v_cvI1 mX12_isAllowed 50 dX12_clash_47 rfl kX12_130 rfl rfl (by omega) (Nat.le_of_ble_eq_true rfl) ?_
          refine X12_isAllowed hwt rfl hpt (by omega) (fun h47 => ?_) (fun h47 => ?_)
          all_goals rw [rAlw_at hce 83] at h47
          · skip
            refine v_if_eq 67 53 dX12_clash_50 rfl rfl (fun h => absurd h (by decide)) (fun _ => ?_)
            refine v_aload0 54 dX12_clash_53 rfl ?_
            refine v_getR 57 dX12_clash_54 rfl fX12_89 rfl rfl ?_
            refine v_aload0 58 dX12_clash_57 rfl ?_
            refine v_aload0 59 dX12_clash_58 rfl ?_
            refine v_getR 62 dX12_clash_59 rfl fX12_68 rfl rfl ?_
            refine v_cvI1 mX12_brokenOf 65 dX12_clash_62 rfl kX12_134 rfl rfl (by omega) (Nat.le_of_ble_eq_true rfl) ?_
            refine X12_brokenOf hwt rfl hpt (by omega) ?_
            rw [rbrk_at hw hce 83]
            have hbl : rbrk σ (pf (lst (τ 83) 0 n)) n R < 2 ^ R := bitsN_lt _ _
            have hb2 : 2 ^ R ≤ 2 ^ 12 := Nat.pow_le_pow_right (by omega) hR12
            have hb3 : (2 : Nat) ^ 12 = 4096 := by decide
            refine v_iconst 66 dX12_clash_65 rfl ⟨by decide +kernel, by decide⟩ ?_
            refine v_zast 67 dX12_clash_66 rfl rfl (⟨by omega, by omega⟩) (Or.inr rfl) ?_
            first
              | (refine hnext _ _ _ _ (fun c p q => by rw [wr_ne q]; exact f1 c p q) (by rw [wr_ne (by decide)]; exact hat) (fun j hj => ?_)
                 rw [wr_at]
                 by_cases e : (j : Int) = (rbrk σ (pf (lst (τ 83) 0 n)) n R : Int)
                 · rw [if_pos e]
                   unfold metB
                   rw [cd_t ⟨lst (τ 83) 0 n, by rw [List.take_add_one, hat]; exact List.mem_append_right _ (List.mem_singleton.mpr rfl), h47, by omega⟩]
                   rfl
                 · rw [if_neg e, hs j hj]
                   congr 1
                   refine cd_congr ⟨fun ⟨l, a1, a2, a3⟩ => ⟨l, by rw [List.take_add_one]; exact List.mem_append_left _ a1, a2, a3⟩, fun ⟨l, a1, a2, a3⟩ => ?_⟩
                   rw [List.take_add_one, hat] at a1
                   rcases List.mem_append.mp a1 with a1 | a1
                   · exact ⟨l, a1, a2, a3⟩
                   · have : l = lst (τ 83) 0 n := by simpa using a1
                     subst this
                     exact absurd (by omega) e)
              | (refine hnext _ _ _ _ f1 hat (fun j hj => ?_)
                 rw [hs j hj]
                 congr 1
                 refine cd_congr ⟨fun ⟨l, a1, a2, a3⟩ => ⟨l, by rw [List.take_add_one]; exact List.mem_append_left _ a1, a2, a3⟩, fun ⟨l, a1, a2, a3⟩ => ?_⟩
                 rw [List.take_add_one, hat] at a1
                 rcases List.mem_append.mp a1 with a1 | a1
                 · exact ⟨l, a1, a2, a3⟩
                 · have : l = lst (τ 83) 0 n := by simpa using a1
                   subst this
                   exact absurd a2 h47)
          · skip
            refine v_if_eq 67 53 dX12_clash_50 rfl rfl (fun _ => ?_) (fun h => absurd (by decide) h)
            first
              | (refine hnext _ _ _ _ (fun c p q => by rw [wr_ne q]; exact f1 c p q) (by rw [wr_ne (by decide)]; exact hat) (fun j hj => ?_)
                 rw [wr_at]
                 by_cases e : (j : Int) = (rbrk σ (pf (lst (τ 83) 0 n)) n R : Int)
                 · rw [if_pos e]
                   unfold metB
                   rw [cd_t ⟨lst (τ 83) 0 n, by rw [List.take_add_one, hat]; exact List.mem_append_right _ (List.mem_singleton.mpr rfl), h47, by omega⟩]
                   rfl
                 · rw [if_neg e, hs j hj]
                   congr 1
                   refine cd_congr ⟨fun ⟨l, a1, a2, a3⟩ => ⟨l, by rw [List.take_add_one]; exact List.mem_append_left _ a1, a2, a3⟩, fun ⟨l, a1, a2, a3⟩ => ?_⟩
                   rw [List.take_add_one, hat] at a1
                   rcases List.mem_append.mp a1 with a1 | a1
                   · exact ⟨l, a1, a2, a3⟩
                   · have : l = lst (τ 83) 0 n := by simpa using a1
                     subst this
                     exact absurd (by omega) e)
              | (refine hnext _ _ _ _ f1 hat (fun j hj => ?_)
                 rw [hs j hj]
                 congr 1
                 refine cd_congr ⟨fun ⟨l, a1, a2, a3⟩ => ⟨l, by rw [List.take_add_one]; exact List.mem_append_left _ a1, a2, a3⟩, fun ⟨l, a1, a2, a3⟩ => ?_⟩
                 rw [List.take_add_one, hat] at a1
                 rcases List.mem_append.mp a1 with a1 | a1
                 · exact ⟨l, a1, a2, a3⟩
                 · have : l = lst (τ 83) 0 n := by simpa using a1
                   subst this
                   exact absurd a2 h47)
    have hstart : ∀ (τ : Mem) (z3 z4 z5 : AV), (∀ c, c ≠ 90 → τ c = σ c) → (∀ j : Int, 0 ≤ j → j < 4096 → τ 90 j = 0) → V mX12_clash d (RI K) 34 [.inr (some 64), .inl ii, .inl 1, z3, z4, z5] [] τ := by
      intro τ z3 z4 z5 g1 g2
      have hce : CoreEq σ τ := fun c a b => g1 c (by omega)
      refine v_aload0 35 dX12_clash_34 rfl ?_
      refine v_cvV0 mX12_firstPlan 38 dX12_clash_35 rfl kX12_127 rfl rfl (by omega) (Nat.le_of_ble_eq_true rfl) ?_
      refine X12_firstPlan (hw.core hce) (fun τ2 t1 t2 => ?_)
      rw [hce 65 (by decide) (by decide), hce 70 (by decide) (by decide)] at t2
      refine L _ 0 τ2 _ _ _ (Nat.lt_succ_self _) (rEn_ne hw) (fun c p q => by rw [t1 c p]; exact g1 c q) (rEn_0 hw t2) (fun j hj => ?_)
      rw [t1 90 (by decide), g2 (j : Int) (by omega) (by omega)]
      unfold metB
      rw [cd_f (by rintro ⟨l, a, -⟩; cases a)]
      rfl
    have LA : ∀ (k : Nat) (i : Nat) (τ : Mem) (z3 z4 z5 : AV), 4096 - i < k → i ≤ 4096 → (∀ c, c ≠ 90 → τ c = σ c) → (∀ j : Int, 0 ≤ j → j < i → τ 90 j = 0) → V mX12_clash d (RI K) 12 [.inr (some 64), .inl ii, .inl (i : Int), z3, z4, z5] [] τ := by
      intro k
      induction k with
      | zero => intros; omega
      | succ k ih =>
          intro i τ z3 z4 z5 hk hi g1 g2
          refine v_iload2 13 dX12_clash_12 rfl ?_
          refine v_sipush 16 dX12_clash_13 rfl ⟨by decide +kernel, by decide⟩ ?_
          refine v_icmp_ge 32 19 dX12_clash_16 rfl rfl (fun h16 => ?_) (fun h16 => ?_)
          · skip
            refine v_iconst 33 dX12_clash_32 rfl ⟨by decide +kernel, by decide⟩ ?_
            refine v_istore2 34 dX12_clash_33 rfl (by decide) ?_
            exact hstart τ _ _ _ g1 (fun j a b => g2 j a (by omega))
          · skip
            refine v_aload0 20 dX12_clash_19 rfl ?_
            refine v_getR 23 dX12_clash_20 rfl fX12_89 rfl rfl ?_
            refine v_iload2 24 dX12_clash_23 rfl ?_
            refine v_iconst 25 dX12_clash_24 rfl ⟨by decide +kernel, by decide⟩ ?_
            refine v_zast 26 dX12_clash_25 rfl rfl (⟨by omega, by omega⟩) (Or.inl rfl) ?_
            refine v_iinc2 29 dX12_clash_26 rfl (by decide) rfl (⟨by omega, by omega⟩) ?_
            refine v_goto 12 dX12_clash_29 rfl ?_
            exact ih (i + 1) _ _ _ _ (by omega) (by omega) (fun c a => by rw [wr_ne a]; exact g1 c a) (fun j a b => by
              rw [wr_at]
              by_cases ej : j = (i : Int)
              · rw [if_pos ej]
              · rw [if_neg ej]; exact g2 j a (by omega))
    refine v_iconst 11 dX12_clash_10 rfl ⟨by decide +kernel, by decide⟩ ?_
    refine v_istore2 12 dX12_clash_11 rfl (by decide) ?_
    exact LA 4097 0 _ _ _ _ (by decide) (by decide) (fun _ _ => rfl) (fun j a b => by omega)
  · skip
    refine v_bipush 9 dX12_clash_7 rfl ⟨by decide +kernel, by decide⟩ ?_
    refine v_iretI dX12_clash_9 rfl ?_
    exact o1 (by omega)
