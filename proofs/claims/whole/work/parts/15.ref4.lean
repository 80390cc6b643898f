set_option maxRecDepth 100000 in
set_option maxHeartbeats 4000000 in
theorem X12_findBest {d : Nat} {n R F : Nat} {σ : Mem} {K : Int → Mem → Prop} (hw : RW σ n R F) (hd : 4 ≤ d) (ht : ∀ (τ : Mem) (c w : Int) (l : List Int), (∀ c, c ≠ 83 → c ≠ 84 → τ c = σ c) → rbest σ n R = some (c, w, l) → lst (τ 84) 0 n = l → K 1 τ) (hf : ∀ τ : Mem, (∀ c, c ≠ 83 → c ≠ 84 → τ c = σ c) → rbest σ n R = none → K 0 τ) : Run mX12_findBest d [.inr (some 64)] σ (RI K) := by
  have hw0 := hw
  obtain ⟨⟨hn, hn6, hR, hR12, hF, hF6⟩, hru, hde, hwo, hli, hba, hwf⟩ := hw0
  refine Run_of (ls := [.inr (some 64), .inr none, .inr none, .inr none, .inr none, .inr none, .inr none, .inr none, .inr none]) (by decide) (Nat.le_of_ble_eq_true rfl) rfl ?_
  have hex : ∀ (υ : Mem) (a cc ww : Int) (z5 z6 z7 z8 : AV), (∀ c, c ≠ 83 → c ≠ 84 → υ c = σ c) → SIs (rbest σ n R) a cc ww (lst (υ 84) 0 n) → V mX12_findBest d (RI K) 13 [.inr (some 64), .inl a, .inl cc, .inl ww, .inl 0, z5, z6, z7, z8] [] υ := by
    intro υ a cc ww z5 z6 z7 z8 f1 hs
    have ha : a = 0 ∨ a = 1 := by
      unfold SIs at hs
      split at hs
      · exact Or.inl hs
      · exact Or.inr hs.1
    refine v_iload4 15 dX12_findBest_13 rfl ?_
    refine v_if_eq 176 18 dX12_findBest_15 rfl rfl (fun _ => ?_) (fun h => absurd rfl h)
    refine v_iload1 177 dX12_findBest_176 rfl ?_
    refine v_zretI dX12_findBest_177 rfl ha ?_
    cases hb : rbest σ n R with
    | none =>
      rw [hb] at hs
      have hs' : a = 0 := hs
      subst hs'
      exact hf υ f1 hb
    | some s =>
      obtain ⟨c', w', l'⟩ := s
      rw [hb] at hs
      obtain ⟨q1, q2, q3, q4⟩ : a = 1 ∧ cc = c' ∧ ww = w' ∧ lst (υ 84) 0 n = l' := hs
      subst q1
      exact ht υ c' w' l' f1 hb q4
  have L : ∀ (k i : Nat) (τ : Mem) (a c w : Int) (z5 z6 z7 z8 : AV), (rEn σ n).length - i < k → i < (rEn σ n).length → (∀ c, c ≠ 83 → c ≠ 84 → τ c = σ c) → (rEn σ n)[i]? = some (lst (τ 83) 0 n) → SIs (((rEn σ n).take (i)).foldl (bst (σ 64 17) (rok σ n R) (fun l => rcost σ n (pf l)) (fun l => rwor σ n (pf l))) none) a c w (lst (τ 84) 0 n) → V mX12_findBest d (RI K) 13 [.inr (some 64), .inl a, .inl c, .inl w, .inl 1, z5, z6, z7, z8] [] τ := by
    intro k
    induction k with
    | zero => intros; omega
    | succ k ih =>
      intro i τ a c w z5 z6 z7 z8 hk hi f1 hat hs
      have hnext : ∀ (υ : Mem) (a cc ww : Int) (z5 z6 z7 z8 : AV), (∀ c, c ≠ 83 → c ≠ 84 → υ c = σ c) → (rEn σ n)[i]? = some (lst (υ 83) 0 n) → SIs (((rEn σ n).take (i + 1)).foldl (bst (σ 64 17) (rok σ n R) (fun l => rcost σ n (pf l)) (fun l => rwor σ n (pf l))) none) a cc ww (lst (υ 84) 0 n) → V mX12_findBest d (RI K) 167 [.inr (some 64), .inl a, .inl cc, .inl ww, .inl 1, z5, z6, z7, z8] [] υ := by
        intro υ a cc ww z5 z6 z7 z8 f1 hat hs
        have hce : CoreEq σ υ := core_of (fun c p q _ => f1 c p q)
        have hpu : RP υ 83 n := RP_of hw (List.mem_of_getElem? hat)
        have t3 := nx_at hw hce hat
        refine v_aload0 168 dX12_findBest_167 rfl ?_
        refine v_cvI0 mX12_nextPlan 171 dX12_findBest_168 rfl kX12_144 rfl rfl (by omega) (Nat.le_of_ble_eq_true rfl) ?_
        refine X12_nextPlan (hw.core hce) hpu (fun τ2 t1 t2 => ?_) (fun τ2 t1 t2 => ?_)
        · refine v_istore4 173 dX12_findBest_171 rfl (by decide) ?_
          refine v_goto 13 dX12_findBest_173 rfl ?_
          have t4 := t3.symm.trans t2
          exact ih (i + 1) τ2 a cc ww _ _ _ _ (by have := (List.getElem?_eq_some_iff.mp t4).1; omega) (List.getElem?_eq_some_iff.mp t4).1 (fun c p q => by rw [t1 c p]; exact f1 c p q) t4 (by rw [t1 84 (by decide)]; exact hs)
        · refine v_istore4 173 dX12_findBest_171 rfl (by decide) ?_
          refine v_goto 13 dX12_findBest_173 rfl ?_
          have t4 := t3.symm.trans t2
          refine hex τ2 a cc ww _ _ _ _ (fun c p q => by rw [t1 c p]; exact f1 c p q) ?_
          rw [fold_e (List.getElem?_eq_none_iff.mp t4)] at hs
          rw [t1 84 (by decide)]
          exact hs
      have hupd : ∀ (c5 w6 : Int) (y7 y8 : AV), bst (σ 64 17) (rok σ n R) (fun l => rcost σ n (pf l)) (fun l => rwor σ n (pf l)) (((rEn σ n).take (i)).foldl (bst (σ 64 17) (rok σ n R) (fun l => rcost σ n (pf l)) (fun l => rwor σ n (pf l))) none) (lst (τ 83) 0 n) = some (c5, w6, lst (τ 83) 0 n) → ∀ (a0 c0 w0 : Int), V mX12_findBest d (RI K) 127 [.inr (some 64), .inl a0, .inl c0, .inl w0, .inl 1, .inl c5, .inl w6, y7, y8] [] τ := by
        intro c5 w6 y7 y8 hbs a0 c0 w0
        have Lc : ∀ (k : Nat) (j : Nat) (υ : Mem), n - j < k → j ≤ n → (∀ c, c ≠ 84 → υ c = τ c) → (∀ q : Int, 0 ≤ q → q < j → υ 84 q = τ 83 q) → V mX12_findBest d (RI K) 138 [.inr (some 64), .inl 1, .inl c5, .inl w6, .inl 1, .inl c5, .inl w6, y7, .inl (j : Int)] [] υ := by
          intro k
          induction k with
          | zero => intros; omega
          | succ k ih2 =>
              intro j υ hk2 hj e1 e2
              refine v_iload8 140 dX12_findBest_138 rfl ?_
              refine v_aload0 141 dX12_findBest_140 rfl ?_
              refine v_getIe 144 0 (n) dX12_findBest_141 rfl fX12_93 rfl rfl rfl (by rw [e1 64 (by decide), f1 64 (by decide) (by decide)]; exact hn) ?_
              refine v_icmp_ge 167 147 dX12_findBest_144 rfl rfl (fun h144 => ?_) (fun h144 => ?_)
              · skip
                refine hnext υ 1 c5 w6 _ _ _ _ (fun c a b => by rw [e1 c b]; exact f1 c a b) (by rw [e1 83 (by decide)]; exact hat) ?_
                rw [fold_s hat, hbs]
                exact ⟨rfl, rfl, rfl, lst_congr (fun q _ b => e2 (q : Int) (by omega) (by omega))⟩
              · skip
                refine v_aload0 148 dX12_findBest_147 rfl ?_
                refine v_getR 151 dX12_findBest_148 rfl fX12_71 rfl rfl ?_
                refine v_iload8 153 dX12_findBest_151 rfl ?_
                refine v_aload0 154 dX12_findBest_153 rfl ?_
                refine v_getR 157 dX12_findBest_154 rfl fX12_68 rfl rfl ?_
                refine v_iload8 159 dX12_findBest_157 rfl ?_
                refine v_ialde 160 (τ 83 (j : Int)) dX12_findBest_159 rfl rfl (⟨by omega, by omega⟩) (by rw [e1 83 (by decide)]) ?_
                refine v_iast 161 dX12_findBest_160 rfl rfl (⟨by omega, by omega⟩) ?_
                refine v_iinc8 164 dX12_findBest_161 rfl (by decide) rfl (⟨by omega, by omega⟩) ?_
                refine v_goto 138 dX12_findBest_164 rfl ?_
                exact ih2 (j + 1) _ (by omega) (by omega) (fun c a => by rw [wr_ne a]; exact e1 c a) (fun q a b => by
                  rw [wr_at]
                  by_cases ej : q = (j : Int)
                  · rw [if_pos ej, ej]
                  · rw [if_neg ej]; exact e2 q a (by omega))
        refine v_iconst 128 dX12_findBest_127 rfl ⟨by decide +kernel, by decide⟩ ?_
        refine v_istore1 129 dX12_findBest_128 rfl (by decide) ?_
        refine v_iload5 131 dX12_findBest_129 rfl ?_
        refine v_istore2 132 dX12_findBest_131 rfl (by decide) ?_
        refine v_iload6 134 dX12_findBest_132 rfl ?_
        refine v_istore3 135 dX12_findBest_134 rfl (by decide) ?_
        refine v_iconst 136 dX12_findBest_135 rfl ⟨by decide +kernel, by decide⟩ ?_
        refine v_istore8 138 dX12_findBest_136 rfl (by decide) ?_
        exact Lc (n + 1) 0 τ (by omega) (by omega) (fun _ _ => rfl) (fun q a b => by omega)
      refine v_iload4 15 dX12_findBest_13 rfl ?_
      refine v_if_eq 176 18 dX12_findBest_15 rfl rfl (fun h15 => ?_) (fun h15 => ?_)
      · skip
        refine v_iload1 177 dX12_findBest_176 rfl ?_
        refine v_zretI dX12_findBest_177 rfl (by first | exact Or.inl rfl | exact Or.inr rfl | omega) ?_
        exact absurd h15 (by decide)
      · skip
        have hce : CoreEq σ τ := core_of (fun c p q _ => f1 c p q)
        have hwt := hw.core hce
        have hpt : RP τ 83 n := RP_of hw (List.mem_of_getElem? hat)
        have hok := rok_at (R := R) hw hce 83
        have hco := rcost_at n hce 83
        have hwo' := rwor_at n hce 83
        refine v_aload0 19 dX12_findBest_18 rfl ?_
        refine v_aload0 20 dX12_findBest_19 rfl ?_
        refine v_getR 23 dX12_findBest_20 rfl fX12_68 rfl rfl ?_
        refine v_cvI1 mX12_isAllowed 26 dX12_findBest_23 rfl kX12_130 rfl rfl (by omega) (Nat.le_of_ble_eq_true rfl) ?_
        refine X12_isAllowed hwt rfl hpt (by omega) (fun h23 => ?_) (fun h23 => ?_)
        · skip
          refine v_if_eq 167 29 dX12_findBest_26 rfl rfl (fun h => absurd h (by decide)) (fun _ => ?_)
          refine v_aload0 30 dX12_findBest_29 rfl ?_
          refine v_aload0 31 dX12_findBest_30 rfl ?_
          refine v_getR 34 dX12_findBest_31 rfl fX12_68 rfl rfl ?_
          refine v_cvI1 mX12_brokenOf 37 dX12_findBest_34 rfl kX12_134 rfl rfl (by omega) (Nat.le_of_ble_eq_true rfl) ?_
          refine X12_brokenOf hwt rfl hpt (by omega) ?_
          refine v_if_ne 167 40 dX12_findBest_37 rfl rfl (fun h37 => ?_) (fun h37 => ?_)
          · skip
            refine hnext τ a c w _ _ _ _ f1 hat ?_
            rw [fold_s hat]
            first
              | (rw [bst_no (fun q => h23 ((hok.mp q).1))]; exact hs)
              | (rw [bst_no (fun q => h37 (by have := (hok.mp q).2; omega))]; exact hs)
              | (rcases hfold : (((rEn σ n).take (i)).foldl (bst (σ 64 17) (rok σ n R) (fun l => rcost σ n (pf l)) (fun l => rwor σ n (pf l))) none) with _ | ⟨c', w', l'⟩
                 · rw [hfold] at hs
                   have hs : a = 0 := hs
                   exfalso; omega
                 · rw [hfold] at hs
                   obtain ⟨q1, q2, q3, q4⟩ : a = 1 ∧ c = c' ∧ w = w' ∧ lst (τ 84) 0 n = l' := hs
                   rw [hB2 _ _ _ (by unfold bt; first | (rw [if_pos (by omega)]; omega) | (rw [if_neg (by omega)]; omega))]
                   exact ⟨q1, q2, q3, q4⟩)
          · skip
            have hokl : rok σ n R (lst (τ 83) 0 n) := hok.mpr ⟨h23, by omega⟩
            refine v_aload0 41 dX12_findBest_40 rfl ?_
            refine v_aload0 42 dX12_findBest_41 rfl ?_
            refine v_getR 45 dX12_findBest_42 rfl fX12_68 rfl rfl ?_
            refine v_cvI1 mX12_costOf 48 dX12_findBest_45 rfl kX12_138 rfl rfl (by omega) (Nat.le_of_ble_eq_true rfl) ?_
            refine X12_costOf hwt rfl hpt (by omega) ?_
            refine V_top hco ?_
            refine v_istore5 50 dX12_findBest_48 rfl (by decide) ?_
            refine v_aload0 51 dX12_findBest_50 rfl ?_
            refine v_aload0 52 dX12_findBest_51 rfl ?_
            refine v_getR 55 dX12_findBest_52 rfl fX12_68 rfl rfl ?_
            refine v_cvI1 mX12_worthOf 58 dX12_findBest_55 rfl kX12_141 rfl rfl (by omega) (Nat.le_of_ble_eq_true rfl) ?_
            refine X12_worthOf hwt rfl hpt ?_
            refine V_top hwo' ?_
            have hB0 : bst (σ 64 17) (rok σ n R) (fun l => rcost σ n (pf l)) (fun l => rwor σ n (pf l)) none (lst (τ 83) 0 n) = some (rcost σ n (pf (lst (τ 83) 0 n)), rwor σ n (pf (lst (τ 83) 0 n)), lst (τ 83) 0 n) := bst_first hokl
            have hB1 : ∀ (c w : Int) (l0 : List Int), bt (σ 64 17) (rcost σ n (pf (lst (τ 83) 0 n))) (rwor σ n (pf (lst (τ 83) 0 n))) c w → bst (σ 64 17) (rok σ n R) (fun l => rcost σ n (pf l)) (fun l => rwor σ n (pf l)) (some (c, w, l0)) (lst (τ 83) 0 n) = some (rcost σ n (pf (lst (τ 83) 0 n)), rwor σ n (pf (lst (τ 83) 0 n)), lst (τ 83) 0 n) := fun c w l0 h => bst_yes (co := fun l => rcost σ n (pf l)) (wo := fun l => rwor σ n (pf l)) hokl h
            have hB2 : ∀ (c w : Int) (l0 : List Int), ¬ bt (σ 64 17) (rcost σ n (pf (lst (τ 83) 0 n))) (rwor σ n (pf (lst (τ 83) 0 n))) c w → bst (σ 64 17) (rok σ n R) (fun l => rcost σ n (pf l)) (fun l => rwor σ n (pf l)) (some (c, w, l0)) (lst (τ 83) 0 n) = some (c, w, l0) := fun c w l0 h => bst_keep (co := fun l => rcost σ n (pf l)) (wo := fun l => rwor σ n (pf l)) h
            generalize rcost σ n (pf (lst (τ 83) 0 n)) = c5 at hB0 hB1 hB2 ⊢
            generalize rwor σ n (pf (lst (τ 83) 0 n)) = w6 at hB0 hB1 hB2 ⊢
            refine v_istore6 60 dX12_findBest_58 rfl (by decide) ?_
            refine v_aload0 61 dX12_findBest_60 rfl ?_
            refine v_getIe 64 17 (σ 64 17) dX12_findBest_61 rfl fX12_117 rfl rfl rfl (by rw [f1 64 (by decide) (by decide)]) ?_
            refine v_if_ne 93 67 dX12_findBest_64 rfl rfl (fun h64 => ?_) (fun h64 => ?_)
            · skip
              refine v_iload6 95 dX12_findBest_93 rfl ?_
              refine v_iload3 96 dX12_findBest_95 rfl ?_
              refine v_icmp_gt 111 99 dX12_findBest_96 rfl rfl (fun h96 => ?_) (fun h96 => ?_)
              · skip
                refine v_iconst 112 dX12_findBest_111 rfl ⟨by decide +kernel, by decide⟩ ?_
                refine v_goto 116 dX12_findBest_112 rfl ?_
                refine v_istore7 118 dX12_findBest_116 rfl (by decide) ?_
                refine v_iload1 119 dX12_findBest_118 rfl ?_
                refine v_if_eq 127 122 dX12_findBest_119 rfl rfl (fun h119 => ?_) (fun h119 => ?_)
                · skip
                  have hs0 := hs
                  unfold SIs at hs0
                  rcases hfold : (((rEn σ n).take (i)).foldl (bst (σ 64 17) (rok σ n R) (fun l => rcost σ n (pf l)) (fun l => rwor σ n (pf l))) none) with _ | ⟨c', w', l'⟩
                  · rw [hfold] at hs0
                    have hs0 : a = 0 := hs0
                    first | (exfalso; omega) | exact hupd _ _ _ _ (by rw [hfold]; exact hB0) _ _ _
                  · rw [hfold] at hs0
                    obtain ⟨q1, q2, q3, q4⟩ : a = 1 ∧ c = c' ∧ w = w' ∧ lst (τ 84) 0 n = l' := hs0
                    first | (exfalso; omega) | exact hupd _ _ _ _ (by rw [hfold]; exact hB1 _ _ _ (by unfold bt; first | (rw [if_pos (by omega)]; omega) | (rw [if_neg (by omega)]; omega))) _ _ _
                · skip
                  refine v_iload7 124 dX12_findBest_122 rfl ?_
                  refine v_if_eq 167 127 dX12_findBest_124 rfl rfl (fun h124 => ?_) (fun h124 => ?_)
                  · skip
                    refine hnext τ a c w _ _ _ _ f1 hat ?_
                    rw [fold_s hat]
                    first
                      | (rw [bst_no (fun q => h23 ((hok.mp q).1))]; exact hs)
                      | (rw [bst_no (fun q => h37 (by have := (hok.mp q).2; omega))]; exact hs)
                      | (rcases hfold : (((rEn σ n).take (i)).foldl (bst (σ 64 17) (rok σ n R) (fun l => rcost σ n (pf l)) (fun l => rwor σ n (pf l))) none) with _ | ⟨c', w', l'⟩
                         · rw [hfold] at hs
                           have hs : a = 0 := hs
                           exfalso; omega
                         · rw [hfold] at hs
                           obtain ⟨q1, q2, q3, q4⟩ : a = 1 ∧ c = c' ∧ w = w' ∧ lst (τ 84) 0 n = l' := hs
                           rw [hB2 _ _ _ (by unfold bt; first | (rw [if_pos (by omega)]; omega) | (rw [if_neg (by omega)]; omega))]
                           exact ⟨q1, q2, q3, q4⟩)
                  · skip
                    have hs0 := hs
                    unfold SIs at hs0
                    rcases hfold : (((rEn σ n).take (i)).foldl (bst (σ 64 17) (rok σ n R) (fun l => rcost σ n (pf l)) (fun l => rwor σ n (pf l))) none) with _ | ⟨c', w', l'⟩
                    · rw [hfold] at hs0
                      have hs0 : a = 0 := hs0
                      first | (exfalso; omega) | exact hupd _ _ _ _ (by rw [hfold]; exact hB0) _ _ _
                    · rw [hfold] at hs0
                      obtain ⟨q1, q2, q3, q4⟩ : a = 1 ∧ c = c' ∧ w = w' ∧ lst (τ 84) 0 n = l' := hs0
                      first | (exfalso; omega) | exact hupd _ _ _ _ (by rw [hfold]; exact hB1 _ _ _ (by unfold bt; first | (rw [if_pos (by omega)]; omega) | (rw [if_neg (by omega)]; omega))) _ _ _
              · skip
                refine v_iload6 101 dX12_findBest_99 rfl ?_
                refine v_iload3 102 dX12_findBest_101 rfl ?_
                refine v_icmp_ne 115 105 dX12_findBest_102 rfl rfl (fun h102 => ?_) (fun h102 => ?_)
                · skip
                  refine v_iconst 116 dX12_findBest_115 rfl ⟨by decide +kernel, by decide⟩ ?_
                  refine v_istore7 118 dX12_findBest_116 rfl (by decide) ?_
                  refine v_iload1 119 dX12_findBest_118 rfl ?_
                  refine v_if_eq 127 122 dX12_findBest_119 rfl rfl (fun h119 => ?_) (fun h119 => ?_)
                  · skip
                    have hs0 := hs
                    unfold SIs at hs0
                    rcases hfold : (((rEn σ n).take (i)).foldl (bst (σ 64 17) (rok σ n R) (fun l => rcost σ n (pf l)) (fun l => rwor σ n (pf l))) none) with _ | ⟨c', w', l'⟩
                    · rw [hfold] at hs0
                      have hs0 : a = 0 := hs0
                      first | (exfalso; omega) | exact hupd _ _ _ _ (by rw [hfold]; exact hB0) _ _ _
                    · rw [hfold] at hs0
                      obtain ⟨q1, q2, q3, q4⟩ : a = 1 ∧ c = c' ∧ w = w' ∧ lst (τ 84) 0 n = l' := hs0
                      first | (exfalso; omega) | exact hupd _ _ _ _ (by rw [hfold]; exact hB1 _ _ _ (by unfold bt; first | (rw [if_pos (by omega)]; omega) | (rw [if_neg (by omega)]; omega))) _ _ _
                  · skip
                    refine v_iload7 124 dX12_findBest_122 rfl ?_
                    refine v_if_eq 167 127 dX12_findBest_124 rfl rfl (fun h124 => ?_) (fun h124 => ?_)
                    · skip
                      refine hnext τ a c w _ _ _ _ f1 hat ?_
                      rw [fold_s hat]
                      first
                        | (rw [bst_no (fun q => h23 ((hok.mp q).1))]; exact hs)
                        | (rw [bst_no (fun q => h37 (by have := (hok.mp q).2; omega))]; exact hs)
                        | (rcases hfold : (((rEn σ n).take (i)).foldl (bst (σ 64 17) (rok σ n R) (fun l => rcost σ n (pf l)) (fun l => rwor σ n (pf l))) none) with _ | ⟨c', w', l'⟩
                           · rw [hfold] at hs
                             have hs : a = 0 := hs
                             exfalso; omega
                           · rw [hfold] at hs
                             obtain ⟨q1, q2, q3, q4⟩ : a = 1 ∧ c = c' ∧ w = w' ∧ lst (τ 84) 0 n = l' := hs
                             rw [hB2 _ _ _ (by unfold bt; first | (rw [if_pos (by omega)]; omega) | (rw [if_neg (by omega)]; omega))]
                             exact ⟨q1, q2, q3, q4⟩)
                    · skip
                      have hs0 := hs
                      unfold SIs at hs0
                      rcases hfold : (((rEn σ n).take (i)).foldl (bst (σ 64 17) (rok σ n R) (fun l => rcost σ n (pf l)) (fun l => rwor σ n (pf l))) none) with _ | ⟨c', w', l'⟩
                      · rw [hfold] at hs0
                        have hs0 : a = 0 := hs0
                        first | (exfalso; omega) | exact hupd _ _ _ _ (by rw [hfold]; exact hB0) _ _ _
                      · rw [hfold] at hs0
                        obtain ⟨q1, q2, q3, q4⟩ : a = 1 ∧ c = c' ∧ w = w' ∧ lst (τ 84) 0 n = l' := hs0
                        first | (exfalso; omega) | exact hupd _ _ _ _ (by rw [hfold]; exact hB1 _ _ _ (by unfold bt; first | (rw [if_pos (by omega)]; omega) | (rw [if_neg (by omega)]; omega))) _ _ _
                · skip
                  refine v_iload5 107 dX12_findBest_105 rfl ?_
                  refine v_iload2 108 dX12_findBest_107 rfl ?_
                  refine v_icmp_ge 115 111 dX12_findBest_108 rfl rfl (fun h108 => ?_) (fun h108 => ?_)
                  · skip
                    refine v_iconst 116 dX12_findBest_115 rfl ⟨by decide +kernel, by decide⟩ ?_
                    refine v_istore7 118 dX12_findBest_116 rfl (by decide) ?_
                    refine v_iload1 119 dX12_findBest_118 rfl ?_
                    refine v_if_eq 127 122 dX12_findBest_119 rfl rfl (fun h119 => ?_) (fun h119 => ?_)
                    · skip
                      have hs0 := hs
                      unfold SIs at hs0
                      rcases hfold : (((rEn σ n).take (i)).foldl (bst (σ 64 17) (rok σ n R) (fun l => rcost σ n (pf l)) (fun l => rwor σ n (pf l))) none) with _ | ⟨c', w', l'⟩
                      · rw [hfold] at hs0
                        have hs0 : a = 0 := hs0
                        first | (exfalso; omega) | exact hupd _ _ _ _ (by rw [hfold]; exact hB0) _ _ _
                      · rw [hfold] at hs0
                        obtain ⟨q1, q2, q3, q4⟩ : a = 1 ∧ c = c' ∧ w = w' ∧ lst (τ 84) 0 n = l' := hs0
                        first | (exfalso; omega) | exact hupd _ _ _ _ (by rw [hfold]; exact hB1 _ _ _ (by unfold bt; first | (rw [if_pos (by omega)]; omega) | (rw [if_neg (by omega)]; omega))) _ _ _
                    · skip
                      refine v_iload7 124 dX12_findBest_122 rfl ?_
                      refine v_if_eq 167 127 dX12_findBest_124 rfl rfl (fun h124 => ?_) (fun h124 => ?_)
                      · skip
                        refine hnext τ a c w _ _ _ _ f1 hat ?_
                        rw [fold_s hat]
                        first
                          | (rw [bst_no (fun q => h23 ((hok.mp q).1))]; exact hs)
                          | (rw [bst_no (fun q => h37 (by have := (hok.mp q).2; omega))]; exact hs)
                          | (rcases hfold : (((rEn σ n).take (i)).foldl (bst (σ 64 17) (rok σ n R) (fun l => rcost σ n (pf l)) (fun l => rwor σ n (pf l))) none) with _ | ⟨c', w', l'⟩
                             · rw [hfold] at hs
                               have hs : a = 0 := hs
                               exfalso; omega
                             · rw [hfold] at hs
                               obtain ⟨q1, q2, q3, q4⟩ : a = 1 ∧ c = c' ∧ w = w' ∧ lst (τ 84) 0 n = l' := hs
                               rw [hB2 _ _ _ (by unfold bt; first | (rw [if_pos (by omega)]; omega) | (rw [if_neg (by omega)]; omega))]
                               exact ⟨q1, q2, q3, q4⟩)
                      · skip
                        have hs0 := hs
                        unfold SIs at hs0
                        rcases hfold : (((rEn σ n).take (i)).foldl (bst (σ 64 17) (rok σ n R) (fun l => rcost σ n (pf l)) (fun l => rwor σ n (pf l))) none) with _ | ⟨c', w', l'⟩
                        · rw [hfold] at hs0
                          have hs0 : a = 0 := hs0
                          first | (exfalso; omega) | exact hupd _ _ _ _ (by rw [hfold]; exact hB0) _ _ _
                        · rw [hfold] at hs0
                          obtain ⟨q1, q2, q3, q4⟩ : a = 1 ∧ c = c' ∧ w = w' ∧ lst (τ 84) 0 n = l' := hs0
                          first | (exfalso; omega) | exact hupd _ _ _ _ (by rw [hfold]; exact hB1 _ _ _ (by unfold bt; first | (rw [if_pos (by omega)]; omega) | (rw [if_neg (by omega)]; omega))) _ _ _
                  · skip
                    refine v_iconst 112 dX12_findBest_111 rfl ⟨by decide +kernel, by decide⟩ ?_
                    refine v_goto 116 dX12_findBest_112 rfl ?_
                    refine v_istore7 118 dX12_findBest_116 rfl (by decide) ?_
                    refine v_iload1 119 dX12_findBest_118 rfl ?_
                    refine v_if_eq 127 122 dX12_findBest_119 rfl rfl (fun h119 => ?_) (fun h119 => ?_)
                    · skip
                      have hs0 := hs
                      unfold SIs at hs0
                      rcases hfold : (((rEn σ n).take (i)).foldl (bst (σ 64 17) (rok σ n R) (fun l => rcost σ n (pf l)) (fun l => rwor σ n (pf l))) none) with _ | ⟨c', w', l'⟩
                      · rw [hfold] at hs0
                        have hs0 : a = 0 := hs0
                        first | (exfalso; omega) | exact hupd _ _ _ _ (by rw [hfold]; exact hB0) _ _ _
                      · rw [hfold] at hs0
                        obtain ⟨q1, q2, q3, q4⟩ : a = 1 ∧ c = c' ∧ w = w' ∧ lst (τ 84) 0 n = l' := hs0
                        first | (exfalso; omega) | exact hupd _ _ _ _ (by rw [hfold]; exact hB1 _ _ _ (by unfold bt; first | (rw [if_pos (by omega)]; omega) | (rw [if_neg (by omega)]; omega))) _ _ _
                    · skip
                      refine v_iload7 124 dX12_findBest_122 rfl ?_
                      refine v_if_eq 167 127 dX12_findBest_124 rfl rfl (fun h124 => ?_) (fun h124 => ?_)
                      · skip
                        refine hnext τ a c w _ _ _ _ f1 hat ?_
                        rw [fold_s hat]
                        first
                          | (rw [bst_no (fun q => h23 ((hok.mp q).1))]; exact hs)
                          | (rw [bst_no (fun q => h37 (by have := (hok.mp q).2; omega))]; exact hs)
                          | (rcases hfold : (((rEn σ n).take (i)).foldl (bst (σ 64 17) (rok σ n R) (fun l => rcost σ n (pf l)) (fun l => rwor σ n (pf l))) none) with _ | ⟨c', w', l'⟩
                             · rw [hfold] at hs
                               have hs : a = 0 := hs
                               exfalso; omega
                             · rw [hfold] at hs
                               obtain ⟨q1, q2, q3, q4⟩ : a = 1 ∧ c = c' ∧ w = w' ∧ lst (τ 84) 0 n = l' := hs
                               rw [hB2 _ _ _ (by unfold bt; first | (rw [if_pos (by omega)]; omega) | (rw [if_neg (by omega)]; omega))]
                               exact ⟨q1, q2, q3, q4⟩)
                      · skip
                        have hs0 := hs
                        unfold SIs at hs0
                        rcases hfold : (((rEn σ n).take (i)).foldl (bst (σ 64 17) (rok σ n R) (fun l => rcost σ n (pf l)) (fun l => rwor σ n (pf l))) none) with _ | ⟨c', w', l'⟩
                        · rw [hfold] at hs0
                          have hs0 : a = 0 := hs0
                          first | (exfalso; omega) | exact hupd _ _ _ _ (by rw [hfold]; exact hB0) _ _ _
                        · rw [hfold] at hs0
                          obtain ⟨q1, q2, q3, q4⟩ : a = 1 ∧ c = c' ∧ w = w' ∧ lst (τ 84) 0 n = l' := hs0
                          first | (exfalso; omega) | exact hupd _ _ _ _ (by rw [hfold]; exact hB1 _ _ _ (by unfold bt; first | (rw [if_pos (by omega)]; omega) | (rw [if_neg (by omega)]; omega))) _ _ _
            · skip
              refine v_iload5 69 dX12_findBest_67 rfl ?_
              refine v_iload2 70 dX12_findBest_69 rfl ?_
              refine v_icmp_lt 85 73 dX12_findBest_70 rfl rfl (fun h70 => ?_) (fun h70 => ?_)
              · skip
                refine v_iconst 86 dX12_findBest_85 rfl ⟨by decide +kernel, by decide⟩ ?_
                refine v_goto 116 dX12_findBest_86 rfl ?_
                refine v_istore7 118 dX12_findBest_116 rfl (by decide) ?_
                refine v_iload1 119 dX12_findBest_118 rfl ?_
                refine v_if_eq 127 122 dX12_findBest_119 rfl rfl (fun h119 => ?_) (fun h119 => ?_)
                · skip
                  have hs0 := hs
                  unfold SIs at hs0
                  rcases hfold : (((rEn σ n).take (i)).foldl (bst (σ 64 17) (rok σ n R) (fun l => rcost σ n (pf l)) (fun l => rwor σ n (pf l))) none) with _ | ⟨c', w', l'⟩
                  · rw [hfold] at hs0
                    have hs0 : a = 0 := hs0
                    first | (exfalso; omega) | exact hupd _ _ _ _ (by rw [hfold]; exact hB0) _ _ _
                  · rw [hfold] at hs0
                    obtain ⟨q1, q2, q3, q4⟩ : a = 1 ∧ c = c' ∧ w = w' ∧ lst (τ 84) 0 n = l' := hs0
                    first | (exfalso; omega) | exact hupd _ _ _ _ (by rw [hfold]; exact hB1 _ _ _ (by unfold bt; first | (rw [if_pos (by omega)]; omega) | (rw [if_neg (by omega)]; omega))) _ _ _
                · skip
                  refine v_iload7 124 dX12_findBest_122 rfl ?_
                  refine v_if_eq 167 127 dX12_findBest_124 rfl rfl (fun h124 => ?_) (fun h124 => ?_)
                  · skip
                    refine hnext τ a c w _ _ _ _ f1 hat ?_
                    rw [fold_s hat]
                    first
                      | (rw [bst_no (fun q => h23 ((hok.mp q).1))]; exact hs)
                      | (rw [bst_no (fun q => h37 (by have := (hok.mp q).2; omega))]; exact hs)
                      | (rcases hfold : (((rEn σ n).take (i)).foldl (bst (σ 64 17) (rok σ n R) (fun l => rcost σ n (pf l)) (fun l => rwor σ n (pf l))) none) with _ | ⟨c', w', l'⟩
                         · rw [hfold] at hs
                           have hs : a = 0 := hs
                           exfalso; omega
                         · rw [hfold] at hs
                           obtain ⟨q1, q2, q3, q4⟩ : a = 1 ∧ c = c' ∧ w = w' ∧ lst (τ 84) 0 n = l' := hs
                           rw [hB2 _ _ _ (by unfold bt; first | (rw [if_pos (by omega)]; omega) | (rw [if_neg (by omega)]; omega))]
                           exact ⟨q1, q2, q3, q4⟩)
                  · skip
                    have hs0 := hs
                    unfold SIs at hs0
                    rcases hfold : (((rEn σ n).take (i)).foldl (bst (σ 64 17) (rok σ n R) (fun l => rcost σ n (pf l)) (fun l => rwor σ n (pf l))) none) with _ | ⟨c', w', l'⟩
                    · rw [hfold] at hs0
                      have hs0 : a = 0 := hs0
                      first | (exfalso; omega) | exact hupd _ _ _ _ (by rw [hfold]; exact hB0) _ _ _
                    · rw [hfold] at hs0
                      obtain ⟨q1, q2, q3, q4⟩ : a = 1 ∧ c = c' ∧ w = w' ∧ lst (τ 84) 0 n = l' := hs0
                      first | (exfalso; omega) | exact hupd _ _ _ _ (by rw [hfold]; exact hB1 _ _ _ (by unfold bt; first | (rw [if_pos (by omega)]; omega) | (rw [if_neg (by omega)]; omega))) _ _ _
              · skip
                refine v_iload5 75 dX12_findBest_73 rfl ?_
                refine v_iload2 76 dX12_findBest_75 rfl ?_
                refine v_icmp_ne 89 79 dX12_findBest_76 rfl rfl (fun h76 => ?_) (fun h76 => ?_)
                · skip
                  refine v_iconst 90 dX12_findBest_89 rfl ⟨by decide +kernel, by decide⟩ ?_
                  refine v_goto 116 dX12_findBest_90 rfl ?_
                  refine v_istore7 118 dX12_findBest_116 rfl (by decide) ?_
                  refine v_iload1 119 dX12_findBest_118 rfl ?_
                  refine v_if_eq 127 122 dX12_findBest_119 rfl rfl (fun h119 => ?_) (fun h119 => ?_)
                  · skip
                    have hs0 := hs
                    unfold SIs at hs0
                    rcases hfold : (((rEn σ n).take (i)).foldl (bst (σ 64 17) (rok σ n R) (fun l => rcost σ n (pf l)) (fun l => rwor σ n (pf l))) none) with _ | ⟨c', w', l'⟩
                    · rw [hfold] at hs0
                      have hs0 : a = 0 := hs0
                      first | (exfalso; omega) | exact hupd _ _ _ _ (by rw [hfold]; exact hB0) _ _ _
                    · rw [hfold] at hs0
                      obtain ⟨q1, q2, q3, q4⟩ : a = 1 ∧ c = c' ∧ w = w' ∧ lst (τ 84) 0 n = l' := hs0
                      first | (exfalso; omega) | exact hupd _ _ _ _ (by rw [hfold]; exact hB1 _ _ _ (by unfold bt; first | (rw [if_pos (by omega)]; omega) | (rw [if_neg (by omega)]; omega))) _ _ _
                  · skip
                    refine v_iload7 124 dX12_findBest_122 rfl ?_
                    refine v_if_eq 167 127 dX12_findBest_124 rfl rfl (fun h124 => ?_) (fun h124 => ?_)
                    · skip
                      refine hnext τ a c w _ _ _ _ f1 hat ?_
                      rw [fold_s hat]
                      first
                        | (rw [bst_no (fun q => h23 ((hok.mp q).1))]; exact hs)
                        | (rw [bst_no (fun q => h37 (by have := (hok.mp q).2; omega))]; exact hs)
                        | (rcases hfold : (((rEn σ n).take (i)).foldl (bst (σ 64 17) (rok σ n R) (fun l => rcost σ n (pf l)) (fun l => rwor σ n (pf l))) none) with _ | ⟨c', w', l'⟩
                           · rw [hfold] at hs
                             have hs : a = 0 := hs
                             exfalso; omega
                           · rw [hfold] at hs
                             obtain ⟨q1, q2, q3, q4⟩ : a = 1 ∧ c = c' ∧ w = w' ∧ lst (τ 84) 0 n = l' := hs
                             rw [hB2 _ _ _ (by unfold bt; first | (rw [if_pos (by omega)]; omega) | (rw [if_neg (by omega)]; omega))]
                             exact ⟨q1, q2, q3, q4⟩)
                    · skip
                      have hs0 := hs
                      unfold SIs at hs0
                      rcases hfold : (((rEn σ n).take (i)).foldl (bst (σ 64 17) (rok σ n R) (fun l => rcost σ n (pf l)) (fun l => rwor σ n (pf l))) none) with _ | ⟨c', w', l'⟩
                      · rw [hfold] at hs0
                        have hs0 : a = 0 := hs0
                        first | (exfalso; omega) | exact hupd _ _ _ _ (by rw [hfold]; exact hB0) _ _ _
                      · rw [hfold] at hs0
                        obtain ⟨q1, q2, q3, q4⟩ : a = 1 ∧ c = c' ∧ w = w' ∧ lst (τ 84) 0 n = l' := hs0
                        first | (exfalso; omega) | exact hupd _ _ _ _ (by rw [hfold]; exact hB1 _ _ _ (by unfold bt; first | (rw [if_pos (by omega)]; omega) | (rw [if_neg (by omega)]; omega))) _ _ _
                · skip
                  refine v_iload6 81 dX12_findBest_79 rfl ?_
                  refine v_iload3 82 dX12_findBest_81 rfl ?_
                  refine v_icmp_le 89 85 dX12_findBest_82 rfl rfl (fun h82 => ?_) (fun h82 => ?_)
                  · skip
                    refine v_iconst 90 dX12_findBest_89 rfl ⟨by decide +kernel, by decide⟩ ?_
                    refine v_goto 116 dX12_findBest_90 rfl ?_
                    refine v_istore7 118 dX12_findBest_116 rfl (by decide) ?_
                    refine v_iload1 119 dX12_findBest_118 rfl ?_
                    refine v_if_eq 127 122 dX12_findBest_119 rfl rfl (fun h119 => ?_) (fun h119 => ?_)
                    · skip
                      have hs0 := hs
                      unfold SIs at hs0
                      rcases hfold : (((rEn σ n).take (i)).foldl (bst (σ 64 17) (rok σ n R) (fun l => rcost σ n (pf l)) (fun l => rwor σ n (pf l))) none) with _ | ⟨c', w', l'⟩
                      · rw [hfold] at hs0
                        have hs0 : a = 0 := hs0
                        first | (exfalso; omega) | exact hupd _ _ _ _ (by rw [hfold]; exact hB0) _ _ _
                      · rw [hfold] at hs0
                        obtain ⟨q1, q2, q3, q4⟩ : a = 1 ∧ c = c' ∧ w = w' ∧ lst (τ 84) 0 n = l' := hs0
                        first | (exfalso; omega) | exact hupd _ _ _ _ (by rw [hfold]; exact hB1 _ _ _ (by unfold bt; first | (rw [if_pos (by omega)]; omega) | (rw [if_neg (by omega)]; omega))) _ _ _
                    · skip
                      refine v_iload7 124 dX12_findBest_122 rfl ?_
                      refine v_if_eq 167 127 dX12_findBest_124 rfl rfl (fun h124 => ?_) (fun h124 => ?_)
                      · skip
                        refine hnext τ a c w _ _ _ _ f1 hat ?_
                        rw [fold_s hat]
                        first
                          | (rw [bst_no (fun q => h23 ((hok.mp q).1))]; exact hs)
                          | (rw [bst_no (fun q => h37 (by have := (hok.mp q).2; omega))]; exact hs)
                          | (rcases hfold : (((rEn σ n).take (i)).foldl (bst (σ 64 17) (rok σ n R) (fun l => rcost σ n (pf l)) (fun l => rwor σ n (pf l))) none) with _ | ⟨c', w', l'⟩
                             · rw [hfold] at hs
                               have hs : a = 0 := hs
                               exfalso; omega
                             · rw [hfold] at hs
                               obtain ⟨q1, q2, q3, q4⟩ : a = 1 ∧ c = c' ∧ w = w' ∧ lst (τ 84) 0 n = l' := hs
                               rw [hB2 _ _ _ (by unfold bt; first | (rw [if_pos (by omega)]; omega) | (rw [if_neg (by omega)]; omega))]
                               exact ⟨q1, q2, q3, q4⟩)
                      · skip
                        have hs0 := hs
                        unfold SIs at hs0
                        rcases hfold : (((rEn σ n).take (i)).foldl (bst (σ 64 17) (rok σ n R) (fun l => rcost σ n (pf l)) (fun l => rwor σ n (pf l))) none) with _ | ⟨c', w', l'⟩
                        · rw [hfold] at hs0
                          have hs0 : a = 0 := hs0
                          first | (exfalso; omega) | exact hupd _ _ _ _ (by rw [hfold]; exact hB0) _ _ _
                        · rw [hfold] at hs0
                          obtain ⟨q1, q2, q3, q4⟩ : a = 1 ∧ c = c' ∧ w = w' ∧ lst (τ 84) 0 n = l' := hs0
                          first | (exfalso; omega) | exact hupd _ _ _ _ (by rw [hfold]; exact hB1 _ _ _ (by unfold bt; first | (rw [if_pos (by omega)]; omega) | (rw [if_neg (by omega)]; omega))) _ _ _
                  · skip
                    refine v_iconst 86 dX12_findBest_85 rfl ⟨by decide +kernel, by decide⟩ ?_
                    refine v_goto 116 dX12_findBest_86 rfl ?_
                    refine v_istore7 118 dX12_findBest_116 rfl (by decide) ?_
                    refine v_iload1 119 dX12_findBest_118 rfl ?_
                    refine v_if_eq 127 122 dX12_findBest_119 rfl rfl (fun h119 => ?_) (fun h119 => ?_)
                    · skip
                      have hs0 := hs
                      unfold SIs at hs0
                      rcases hfold : (((rEn σ n).take (i)).foldl (bst (σ 64 17) (rok σ n R) (fun l => rcost σ n (pf l)) (fun l => rwor σ n (pf l))) none) with _ | ⟨c', w', l'⟩
                      · rw [hfold] at hs0
                        have hs0 : a = 0 := hs0
                        first | (exfalso; omega) | exact hupd _ _ _ _ (by rw [hfold]; exact hB0) _ _ _
                      · rw [hfold] at hs0
                        obtain ⟨q1, q2, q3, q4⟩ : a = 1 ∧ c = c' ∧ w = w' ∧ lst (τ 84) 0 n = l' := hs0
                        first | (exfalso; omega) | exact hupd _ _ _ _ (by rw [hfold]; exact hB1 _ _ _ (by unfold bt; first | (rw [if_pos (by omega)]; omega) | (rw [if_neg (by omega)]; omega))) _ _ _
                    · skip
                      refine v_iload7 124 dX12_findBest_122 rfl ?_
                      refine v_if_eq 167 127 dX12_findBest_124 rfl rfl (fun h124 => ?_) (fun h124 => ?_)
                      · skip
                        refine hnext τ a c w _ _ _ _ f1 hat ?_
                        rw [fold_s hat]
                        first
                          | (rw [bst_no (fun q => h23 ((hok.mp q).1))]; exact hs)
                          | (rw [bst_no (fun q => h37 (by have := (hok.mp q).2; omega))]; exact hs)
                          | (rcases hfold : (((rEn σ n).take (i)).foldl (bst (σ 64 17) (rok σ n R) (fun l => rcost σ n (pf l)) (fun l => rwor σ n (pf l))) none) with _ | ⟨c', w', l'⟩
                             · rw [hfold] at hs
                               have hs : a = 0 := hs
                               exfalso; omega
                             · rw [hfold] at hs
                               obtain ⟨q1, q2, q3, q4⟩ : a = 1 ∧ c = c' ∧ w = w' ∧ lst (τ 84) 0 n = l' := hs
                               rw [hB2 _ _ _ (by unfold bt; first | (rw [if_pos (by omega)]; omega) | (rw [if_neg (by omega)]; omega))]
                               exact ⟨q1, q2, q3, q4⟩)
                      · skip
                        have hs0 := hs
                        unfold SIs at hs0
                        rcases hfold : (((rEn σ n).take (i)).foldl (bst (σ 64 17) (rok σ n R) (fun l => rcost σ n (pf l)) (fun l => rwor σ n (pf l))) none) with _ | ⟨c', w', l'⟩
                        · rw [hfold] at hs0
                          have hs0 : a = 0 := hs0
                          first | (exfalso; omega) | exact hupd _ _ _ _ (by rw [hfold]; exact hB0) _ _ _
                        · rw [hfold] at hs0
                          obtain ⟨q1, q2, q3, q4⟩ : a = 1 ∧ c = c' ∧ w = w' ∧ lst (τ 84) 0 n = l' := hs0
                          first | (exfalso; omega) | exact hupd _ _ _ _ (by rw [hfold]; exact hB1 _ _ _ (by unfold bt; first | (rw [if_pos (by omega)]; omega) | (rw [if_neg (by omega)]; omega))) _ _ _
        · skip
          refine v_if_eq 167 29 dX12_findBest_26 rfl rfl (fun _ => ?_) (fun h => absurd (by decide) h)
          refine hnext τ a c w _ _ _ _ f1 hat ?_
          rw [fold_s hat]
          first
            | (rw [bst_no (fun q => h23 ((hok.mp q).1))]; exact hs)
            | (rw [bst_no (fun q => h37 (by have := (hok.mp q).2; omega))]; exact hs)
            | (rcases hfold : (((rEn σ n).take (i)).foldl (bst (σ 64 17) (rok σ n R) (fun l => rcost σ n (pf l)) (fun l => rwor σ n (pf l))) none) with _ | ⟨c', w', l'⟩
               · rw [hfold] at hs
                 have hs : a = 0 := hs
                 exfalso; omega
               · rw [hfold] at hs
                 obtain ⟨q1, q2, q3, q4⟩ : a = 1 ∧ c = c' ∧ w = w' ∧ lst (τ 84) 0 n = l' := hs
                 rw [hB2 _ _ _ (by unfold bt; first | (rw [if_pos (by omega)]; omega) | (rw [if_neg (by omega)]; omega))]
                 exact ⟨q1, q2, q3, q4⟩)
  refine v_iconst 1 dX12_findBest_0 rfl ⟨by decide +kernel, by decide⟩ ?_
  refine v_istore1 2 dX12_findBest_1 rfl (by decide) ?_
  refine v_iconst 3 dX12_findBest_2 rfl ⟨by decide +kernel, by decide⟩ ?_
  refine v_istore2 4 dX12_findBest_3 rfl (by decide) ?_
  refine v_iconst 5 dX12_findBest_4 rfl ⟨by decide +kernel, by decide⟩ ?_
  refine v_istore3 6 dX12_findBest_5 rfl (by decide) ?_
  refine v_iconst 7 dX12_findBest_6 rfl ⟨by decide +kernel, by decide⟩ ?_
  refine v_istore4 9 dX12_findBest_7 rfl (by decide) ?_
  refine v_aload0 10 dX12_findBest_9 rfl ?_
  refine v_cvV0 mX12_firstPlan 13 dX12_findBest_10 rfl kX12_127 rfl rfl (by omega) (Nat.le_of_ble_eq_true rfl) ?_
  refine X12_firstPlan hw (fun τ t1 t2 => ?_)
  exact L _ 0 τ 0 0 0 _ _ _ _ (Nat.lt_succ_self _) (rEn_ne hw) (fun c p _ => t1 c p) (rEn_0 hw t2) rfl
