set_option maxRecDepth 100000 in
set_option maxHeartbeats 4000000 in
theorem choose_gen {St : Type} {Rel : Mem → St → Prop} {hop : St → Int → Int → Nat → Prop} {rch : St → List Int → Int → Int → Nat → St} {wt : St → Nat} {Mh Mr : MD} {cg n : Nat} {gcs : Nat → Prop} (gs : GS Rel hop rch wt Mh Mr cg n gcs) {σ : Mem} {R F : Nat} (hw : CW σ n R F) {g : Nat → Bool} (hcnt : σ 6 6 = (bitsN g R : Int)) (hlim : ∀ p : Int, 0 ≤ p → p < 4 → 0 ≤ σ 52 p ∧ σ 52 p ≤ 6) (hwb : ∀ k : Nat, k ≤ n → 0 ≤ σ 55 (k : Int) ∧ σ 55 (k : Int) ≤ 600) (hwb0 : σ 55 (n : Int) = 0) (hwbs : ∀ k : Nat, k < n → ∀ v : Int, v ∈ dom (σ 12) (σ 13) (σ 17) (k : Int) → σ (19 + k) v + σ 55 ((k + 1 : Nat) : Int) ≤ σ 55 (k : Int)) :
    ∀ (m k d : Nat) (pre : List Int) (τ : Mem) (s : St) (K : Mem → Prop), k + m = n → pre.length = k → (∀ j : Nat, j < k → 0 ≤ pf pre (j : Int) ∧ pf pre (j : Int) ≤ 5) → CoreS σ τ → (∀ j : Nat, j < k → τ 54 (j : Int) = pf pre (j : Int)) → (∀ w : Int, 0 ≤ w → w < 4 → τ 53 w = ccnt σ (pf pre) w k ∧ ccnt σ (pf pre) w k ≤ σ 52 w) → Rel τ s → wt s + (cEn σ k m).length ≤ 50000 → m + 6 ≤ d → (∀ υ : Mem, CoreS σ υ → (∀ j : Nat, j < k → υ 54 (j : Int) = pf pre (j : Int)) → (∀ w : Int, 0 ≤ w → w < 4 → υ 53 w = τ 53 w) → Rel υ ((List.map (fun q => pre ++ q) (cEn σ k m)).foldl (stp hop rch σ g n R) s) → K υ) → Run mX10_choose d [.inr (some 6), .inr (some cg), .inl (k : Int), .inl (ccost σ (pf pre) k), .inl (cwor σ (pf pre) k), .inl ((cbr σ g R (pf pre) k : Nat) : Int)] τ (RV K) := by
  have hw9 := hw
  obtain ⟨⟨hn, hn6, hR, hR12, hF, hF6⟩, hru, hde, hwo, hli, hcb, hwf, hbd, hbc⟩ := hw9
  obtain ⟨⟨ci, fl, T, N, hshp, hclh, hclr⟩, hCAh, hCAr, hgc, hrelk, HH, RR, mono, hwtr⟩ := gs
  intro m
  induction m with
  | zero =>
    intro k d pre τ s K hkm hlen hpb hco hval hmo hrel hwt hd hk0
    refine Run_of (ls := [.inr (some 6), .inr (some cg), .inl (k : Int), .inl (ccost σ (pf pre) k), .inl (cwor σ (pf pre) k), .inl ((cbr σ g R (pf pre) k : Nat) : Int), .inr none, .inr none, .inr none, .inr none]) (by decide) (Nat.le_of_ble_eq_true rfl) rfl ?_
    have hbl := cbr_lt hw g (pf pre) k
    have hc0 := sumI_bnd (f := cst (σ 3 1) (cbv σ) (σ 15) (σ 16) (pf pre)) (m := 200) (n := k) (fun j hj => ccst_bnd hw (by omega) (hpb j hj))
    have hw0 := sumI_bnd (f := fun d => σ (19 + d.toNat) (pf pre d)) (m := 100) (n := k) (fun j hj => hwo (j : Int) _ (by omega) (by omega) (hpb j hj).1 (by have := hpb j hj; omega))
    have hc1 : 0 ≤ ccost σ (pf pre) k ∧ ccost σ (pf pre) k ≤ 200 * (k : Int) := hc0
    have hw1 : 0 ≤ cwor σ (pf pre) k ∧ cwor σ (pf pre) k ≤ 100 * (k : Int) := hw0
    have hwk := hwb k (by omega)
    have hwt : wt s + 1 ≤ 50000 := hwt
    refine v_iload2 1 dX10_choose_0 rfl ?_
    refine v_aload0 2 dX10_choose_1 rfl ?_
    refine v_getR 5 dX10_choose_2 rfl fX10_31 rfl rfl ?_
    refine v_getIe 8 0 (n) dX10_choose_5 rfl fX10_68 rfl rfl rfl (by rw [hco 1 (nscr rfl)]; exact hn) ?_
    refine v_icmp_le 12 11 dX10_choose_8 rfl rfl (fun h8 => ?_) (fun h8 => ?_)
    · skip
      refine v_aload1 13 dX10_choose_12 rfl ?_
      refine v_iload3 14 dX10_choose_13 rfl ?_
      refine v_iload4 16 dX10_choose_14 rfl ?_
      refine v_aload0 17 dX10_choose_16 rfl ?_
      refine v_getR 20 dX10_choose_17 rfl fX10_28 rfl rfl ?_
      refine v_iload2 21 dX10_choose_20 rfl ?_
      refine v_ialde 22 (σ 55 (k : Int)) dX10_choose_21 rfl rfl (⟨by omega, by omega⟩) (by rw [hco 55 (nscr rfl)]) ?_
      refine v_iadd 23 dX10_choose_22 rfl (⟨by omega, by omega⟩) ?_
      refine v_iload5 25 dX10_choose_23 rfl ?_
      refine v_caI3 nGoalH Mh 28 (Or.inl rfl) dX10_choose_25 rfl hCAh hshp hclh (by omega) (Nat.le_of_ble_eq_true rfl) ?_
      refine HH (d - 1) τ s _ _ _ _ (by omega) hrel hbl (fun h25 => ?_) (fun h25 => ?_)
      · skip
        refine v_if_eq 32 31 dX10_choose_28 rfl rfl (fun h => absurd h (by decide)) (fun _ => ?_)
        refine v_vretV dX10_choose_31 rfl ?_
        have hall : ∀ q, q ∈ cEn σ k 0 → stp hop rch σ g n R s (pre ++ q) = s := fun q hq => stp_hop (mono τ s _ _ _ _ _ _ hrel h25 (cpl_cost hw hkm hlen hpb hq) (cpl_wor hw (by omega) hwbs 0 k pre q hkm hlen hq) (cpl_br hw hkm hlen) (cbr_lt hw _ _ _))
        refine hk0 τ hco hval (fun _ _ _ => rfl) ?_
        rw [fold_id _ (fun l hl => by obtain ⟨q, hq, rfl⟩ := List.mem_map.mp hl; exact hall q hq)]
        exact hrel
      · skip
        refine v_if_eq 32 31 dX10_choose_28 rfl rfl (fun _ => ?_) (fun h => absurd (by decide) h)
        refine v_iload2 33 dX10_choose_32 rfl ?_
        refine v_aload0 34 dX10_choose_33 rfl ?_
        refine v_getR 37 dX10_choose_34 rfl fX10_31 rfl rfl ?_
        refine v_getIe 40 0 (n) dX10_choose_37 rfl fX10_68 rfl rfl rfl (by rw [hco 1 (nscr rfl)]; exact hn) ?_
        refine v_icmp_ne 57 43 dX10_choose_40 rfl rfl (fun h40 => ?_) (fun h40 => ?_)
        · skip
          exfalso; omega
        · skip
          have h25' : ¬ hop s (ccost σ (pf pre) k) (cwor σ (pf pre) k) (cbr σ g R (pf pre) k) := fun q => h25 (by
            have e9 : cwor σ (pf pre) k + σ 55 (k : Int) = cwor σ (pf pre) k := by rw [show (k : Int) = (n : Int) by omega, hwb0]; omega
            rw [e9]; exact q)
          have ekn : k = n := by omega
          have hlst : lst (τ 54) 0 n = pre := by
            rw [← ekn, lst_congr (a := τ 54) (b := pf pre) (fun j _ b => hval j (by omega))]
            exact lst_pf hlen
          refine v_aload1 44 dX10_choose_43 rfl ?_
          refine v_aload0 45 dX10_choose_44 rfl ?_
          refine v_getR 48 dX10_choose_45 rfl fX10_25 rfl rfl ?_
          refine v_iload3 49 dX10_choose_48 rfl ?_
          refine v_iload4 51 dX10_choose_49 rfl ?_
          refine v_iload5 53 dX10_choose_51 rfl ?_
          refine v_caV4 nGoalR Mr 56 (Or.inr rfl) dX10_choose_53 rfl hCAr hshp hclr (by omega) (Nat.le_of_ble_eq_true rfl) ?_
          refine RR (d - 1) τ s _ _ _ pre _ (by omega) hrel hbl hlst (by omega) h25' (fun υ f1 f2 => ?_)
          refine v_vretV dX10_choose_56 rfl ?_
          refine hk0 υ (fun c hc => by rw [f1 c (fun q => hc (by have := hgc c q; unfold scr; omega))]; exact hco c hc) (fun j hj => by rw [f1 54 (fun q => by have := hgc 54 q; omega)]; exact hval j hj) (fun w _ _ => by rw [f1 53 (fun q => by have := hgc 53 q; omega)]) ?_
          have e8 : (List.map (fun q => pre ++ q) (cEn σ k 0)).foldl (stp hop rch σ g n R) s = stp hop rch σ g n R s pre := by
            show stp hop rch σ g n R s (pre ++ []) = _
            rw [List.append_nil]
          rw [e8]
          have hlo : LimOK σ n pre := fun w a b => by rw [← ekn]; exact (hmo w a b).2
          rw [stp_go hlo (by rw [← ekn]; exact h25'), ← ekn]
          exact f2
    · skip
      refine v_vretV dX10_choose_11 rfl ?_
      exfalso; omega
  | succ m ih =>
    intro k d pre τ s K hkm hlen hpb hco hval hmo hrel hwt hd hk0
    refine Run_of (ls := [.inr (some 6), .inr (some cg), .inl (k : Int), .inl (ccost σ (pf pre) k), .inl (cwor σ (pf pre) k), .inl ((cbr σ g R (pf pre) k : Nat) : Int), .inr none, .inr none, .inr none, .inr none]) (by decide) (Nat.le_of_ble_eq_true rfl) rfl ?_
    have hbl := cbr_lt hw g (pf pre) k
    have hc0 := sumI_bnd (f := cst (σ 3 1) (cbv σ) (σ 15) (σ 16) (pf pre)) (m := 200) (n := k) (fun j hj => ccst_bnd hw (by omega) (hpb j hj))
    have hw0 := sumI_bnd (f := fun d => σ (19 + d.toNat) (pf pre d)) (m := 100) (n := k) (fun j hj => hwo (j : Int) _ (by omega) (by omega) (hpb j hj).1 (by have := hpb j hj; omega))
    have hc1 : 0 ≤ ccost σ (pf pre) k ∧ ccost σ (pf pre) k ≤ 200 * (k : Int) := hc0
    have hw1 : 0 ≤ cwor σ (pf pre) k ∧ cwor σ (pf pre) k ≤ 100 * (k : Int) := hw0
    have hwk := hwb k (by omega)
    have hdk := hde (k : Int) (by omega) (by omega)
    have LV : ∀ (kk : Nat) (v : Int) (υ : Mem) (z8 z9 : AV), (σ 13 (k : Int) + 1 - v).toNat < kk → σ 12 (k : Int) ≤ v → v ≤ σ 13 (k : Int) + 1 → CoreS σ υ → (∀ j : Nat, j < k → υ 54 (j : Int) = pf pre (j : Int)) → (∀ w : Int, 0 ≤ w → w < 4 → υ 53 w = τ 53 w) → Rel υ ((List.map (fun q => pre ++ q) (cPr σ k m (v - σ 12 (k : Int)).toNat)).foldl (stp hop rch σ g n R) s) → V mX10_choose d (RV K) 79 [.inr (some 6), .inr (some cg), .inl (k : Int), .inl (ccost σ (pf pre) k), .inl (cwor σ (pf pre) k), .inl ((cbr σ g R (pf pre) k : Nat) : Int), .inl (σ 14 (k : Int)), .inl v, z8, z9] [] υ := by
      intro kk
      induction kk with
      | zero => intros; omega
      | succ kk ih2 =>
          intro v υ z8 z9 hkk hv0 hv1 fco fval fmo frel
          refine v_iload7 81 dX10_choose_79 rfl ?_
          refine v_aload0 82 dX10_choose_81 rfl ?_
          refine v_getR 85 dX10_choose_82 rfl fX10_31 rfl rfl ?_
          refine v_getR 88 dX10_choose_85 rfl fX10_98 rfl rfl ?_
          refine v_iload2 89 dX10_choose_88 rfl ?_
          refine v_ialde 90 (σ 13 (k : Int)) dX10_choose_89 rfl rfl (⟨by omega, by omega⟩) (by rw [fco 13 (nscr rfl)]) ?_
          refine v_icmp_gt 248 93 dX10_choose_90 rfl rfl (fun h90 => ?_) (fun h90 => ?_)
          · skip
            refine v_vretV dX10_choose_248 rfl ?_
            have ev9 : v = σ 13 (k : Int) + 1 := by omega
            refine hk0 υ fco fval fmo ?_
            rw [cPr_all hw (by omega), show (σ 13 (k : Int) - σ 12 (k : Int) + 1).toNat = (v - σ 12 (k : Int)).toNat by omega]
            exact frel
          · skip
            have hwu := hw.coreS fco
            have hcbu := hcb.coreS fco
            have hfp := fmo (σ 14 (k : Int)) (by omega) (by omega)
            have hmp := hmo (σ 14 (k : Int)) (by omega) (by omega)
            have hlp0 := hlim (σ 14 (k : Int)) (by omega) (by omega)
            have hcn0 := sumI_bnd (f := fun d => one (decide (σ 14 d = σ 14 (k : Int)) && mv (σ 3 1) (cbv σ) (pf pre) d)) (m := 1) (n := k) (fun _ _ => one_bnd _)
            have hcn1 : 0 ≤ ccnt σ (pf pre) (σ 14 (k : Int)) k ∧ ccnt σ (pf pre) (σ 14 (k : Int)) k ≤ 1 * (k : Int) := hcn0
            refine v_aload0 94 dX10_choose_93 rfl ?_
            refine v_getR 97 dX10_choose_94 rfl fX10_39 rfl rfl ?_
            refine v_iload2 98 dX10_choose_97 rfl ?_
            refine v_iload7 100 dX10_choose_98 rfl ?_
            refine v_cvI2 mX5_moves 103 dX10_choose_100 rfl kX10_101 rfl rfl (by omega) (Nat.le_of_ble_eq_true rfl) ?_
            refine X5_moves hcbu (by omega) (by omega) (fun h100 => ?_) (fun h100 => ?_)
            all_goals rw [mv_core fco hcb] at h100
            · skip
              refine v_if_eq 110 106 dX10_choose_103 rfl rfl (fun h => absurd h (by decide)) (fun _ => ?_)
              refine v_iconst 107 dX10_choose_106 rfl ⟨by decide +kernel, by decide⟩ ?_
              refine v_goto 111 dX10_choose_107 rfl ?_
              first
                | refine V_top (show (1 : Int) = one (mv (σ 3 1) (cbv σ) (fun _ => v) (k : Int)) by rw [h100]; rfl) ?_
                | refine V_top (show (0 : Int) = one (mv (σ 3 1) (cbv σ) (fun _ => v) (k : Int)) by rw [h100]; rfl) ?_
              have hmv0 := one_bnd (mv (σ 3 1) (cbv σ) (fun _ => v) (k : Int))
              refine v_istore8 113 dX10_choose_111 rfl (by decide) ?_
              refine v_aload0 114 dX10_choose_113 rfl ?_
              refine v_getR 117 dX10_choose_114 rfl fX10_31 rfl rfl ?_
              refine v_iload2 118 dX10_choose_117 rfl ?_
              refine v_iload7 120 dX10_choose_118 rfl ?_
              refine v_cvI2 mX3_pinLets 123 dX10_choose_120 rfl kX10_105 rfl rfl (by omega) (Nat.le_of_ble_eq_true rfl) ?_
              refine X3_pinLets (by omega) (fun h120 => ?_) (fun h120 => ?_)
              all_goals rw [fco 17 (nscr rfl)] at h120
              · skip
                refine v_if_eq 242 126 dX10_choose_123 rfl rfl (fun h => absurd h (by decide)) (fun _ => ?_)
                refine v_aload0 127 dX10_choose_126 rfl ?_
                refine v_getR 130 dX10_choose_127 rfl fX10_22 rfl rfl ?_
                refine v_iload6 132 dX10_choose_130 rfl ?_
                refine v_ialde 133 (υ 53 (σ 14 (k : Int))) dX10_choose_132 rfl rfl (⟨by omega, by omega⟩) (rfl) ?_
                refine v_iload8 135 dX10_choose_133 rfl ?_
                refine v_iadd 136 dX10_choose_135 rfl (⟨by omega, by omega⟩) ?_
                refine v_aload0 137 dX10_choose_136 rfl ?_
                refine v_getR 140 dX10_choose_137 rfl fX10_15 rfl rfl ?_
                refine v_iload6 142 dX10_choose_140 rfl ?_
                refine v_ialde 143 (σ 52 (σ 14 (k : Int))) dX10_choose_142 rfl rfl (⟨by omega, by omega⟩) (by rw [fco 52 (nscr rfl)]) ?_
                refine v_icmp_le 149 146 dX10_choose_143 rfl rfl (fun h143 => ?_) (fun h143 => ?_)
                · skip
                  refine v_aload0 150 dX10_choose_149 rfl ?_
                  refine v_getR 153 dX10_choose_150 rfl fX10_25 rfl rfl ?_
                  refine v_iload2 154 dX10_choose_153 rfl ?_
                  refine v_iload7 156 dX10_choose_154 rfl ?_
                  refine v_iast 157 dX10_choose_156 rfl rfl (⟨by omega, by omega⟩) ?_
                  refine v_aload0 158 dX10_choose_157 rfl ?_
                  refine v_getR 161 dX10_choose_158 rfl fX10_22 rfl rfl ?_
                  refine v_iload6 163 dX10_choose_161 rfl ?_
                  refine v_dup2 164 dX10_choose_163 rfl ?_
                  refine v_ialde 165 (υ 53 (σ 14 (k : Int))) dX10_choose_164 rfl rfl (⟨by omega, by omega⟩) (by rw [wr_ne (by decide)]) ?_
                  refine v_iload8 167 dX10_choose_165 rfl ?_
                  refine v_iadd 168 dX10_choose_167 rfl (⟨by omega, by omega⟩) ?_
                  refine v_iast 169 dX10_choose_168 rfl rfl (⟨by omega, by omega⟩) ?_
                  refine v_aload0 170 dX10_choose_169 rfl ?_
                  refine v_getR 173 dX10_choose_170 rfl fX10_35 rfl rfl ?_
                  refine v_aload0 174 dX10_choose_173 rfl ?_
                  refine v_getR 177 dX10_choose_174 rfl fX10_25 rfl rfl ?_
                  refine v_iload2 178 dX10_choose_177 rfl ?_
                  refine v_aload0 179 dX10_choose_178 rfl ?_
                  refine v_getR 182 dX10_choose_179 rfl fX10_9 rfl rfl ?_
                  refine v_cvI3 mX8_brokenAt 185 dX10_choose_182 rfl kX10_108 rfl rfl (by omega) (Nat.le_of_ble_eq_true rfl) ?_
                  have hpv : ∀ j : Nat, j < k + 1 → (wr (wr υ 54 (k : Int) v) 53 (σ 14 (k : Int)) (υ 53 (σ 14 (k : Int)) + one (mv (σ 3 1) (cbv σ) (fun _ => v) (k : Int)))) 54 (j : Int) = pf (pre ++ [v]) (j : Int) := fun j hj => by
                    rw [wr_ne (by decide), wr_at]
                    by_cases ej : (j : Int) = (k : Int)
                    · have ej2 : j = k := by omega
                      subst ej2
                      rw [if_pos rfl]
                      have := pf_app_eq (pre := pre) (v := v) (x := [])
                      rw [hlen] at this
                      exact this.symm
                    · rw [if_neg ej, pf_app_lt (by omega)]
                      exact fval j (by omega)
                  have hT2co0 : CoreS σ (wr (wr υ 54 (k : Int) v) 53 (σ 14 (k : Int)) (υ 53 (σ 14 (k : Int)) + one (mv (σ 3 1) (cbv σ) (fun _ => v) (k : Int)))) := fun c hc => by
                    have h1 : c ≠ 53 := fun e => hc (Or.inl e)
                    have h2 : c ≠ 54 := fun e => hc (Or.inr (Or.inl e))
                    rw [wr_ne h1, wr_ne h2]; exact fco c hc
                  have hwt0 := hw.coreS hT2co0
                  refine X8_brokenAt hwt0 rfl rfl (fun j a b => ?_) (by omega) (by omega) ?_
                  · have h1 := hpv j.toNat (by omega)
                    rw [Int.toNat_of_nonneg a] at h1
                    rw [h1]
                    by_cases ej : j.toNat = k
                    · have e2 : j = (pre.length : Int) := by omega
                      rw [e2, pf_app_eq]; omega
                    · have h2 := pf_app_lt (pre := pre) (x := [v]) (j := j.toNat) (by omega)
                      rw [Int.toNat_of_nonneg a] at h2
                      have h3 := hpb j.toNat (by omega)
                      rw [Int.toNat_of_nonneg a] at h3
                      rw [h2]; exact h3
                  have hbaE : bitsN (baB (wr (wr υ 54 (k : Int) v) 53 (σ 14 (k : Int)) (υ 53 (σ 14 (k : Int)) + one (mv (σ 3 1) (cbv σ) (fun _ => v) (k : Int)))) 54 51 k) R = bitsN (fun r => baF σ ((wr (wr υ 54 (k : Int) v) 53 (σ 14 (k : Int)) (υ 53 (σ 14 (k : Int)) + one (mv (σ 3 1) (cbv σ) (fun _ => v) (k : Int)))) 54) (σ 51) k r) R := bitsN_congr (fun r hr => by
                    show baF _ _ ((wr (wr υ 54 (k : Int) v) 53 (σ 14 (k : Int)) (υ 53 (σ 14 (k : Int)) + one (mv (σ 3 1) (cbv σ) (fun _ => v) (k : Int)))) 51) k r = _
                    rw [hT2co0 51 (nscr rfl), baF_core hT2co0])
                  rw [hbaE]
                  refine v_aload0 186 dX10_choose_185 rfl ?_
                  refine v_getIe 189 6 ((bitsN g R : Int)) dX10_choose_186 rfl fX10_18 rfl rfl rfl (by rw [wr_ne (by decide), wr_ne (by decide), fco 6 (nscr rfl)]; exact hcnt) ?_
                  refine v_iand 190 dX10_choose_189 rfl ?_
                  rw [band_bits _ _ hR12]
                  refine v_istore9 192 dX10_choose_190 rfl (by decide) ?_
                  refine v_aload0 193 dX10_choose_192 rfl ?_
                  refine v_aload1 194 dX10_choose_193 rfl ?_
                  refine v_iload2 195 dX10_choose_194 rfl ?_
                  refine v_iconst 196 dX10_choose_195 rfl ⟨by decide +kernel, by decide⟩ ?_
                  refine v_iadd 197 dX10_choose_196 rfl (⟨by omega, by omega⟩) ?_
                  refine v_iload3 198 dX10_choose_197 rfl ?_
                  refine v_aload0 199 dX10_choose_198 rfl ?_
                  refine v_getR 202 dX10_choose_199 rfl fX10_43 rfl rfl ?_
                  refine v_iload2 203 dX10_choose_202 rfl ?_
                  refine v_iload7 205 dX10_choose_203 rfl ?_
                  refine v_cvI2 mX9_costAt 208 dX10_choose_205 rfl kX10_112 rfl rfl (by omega) (Nat.le_of_ble_eq_true rfl) ?_
                  refine X9_costAt hwt0 (by omega) (by omega) (by omega) ?_
                  rw [ccst_core hT2co0 hcb]
                  have hcc := ccst_bnd hw (p := fun _ => v) (k := (k : Int)) (by omega) (by omega)
                  refine v_iadd 209 dX10_choose_208 rfl (⟨by omega, by omega⟩) ?_
                  refine v_iload4 211 dX10_choose_209 rfl ?_
                  refine v_aload0 212 dX10_choose_211 rfl ?_
                  refine v_getR 215 dX10_choose_212 rfl fX10_43 rfl rfl ?_
                  refine v_iload2 216 dX10_choose_215 rfl ?_
                  refine v_iload7 218 dX10_choose_216 rfl ?_
                  refine v_cvI2 mX9_worthAt 221 dX10_choose_218 rfl kX10_116 rfl rfl (by omega) (Nat.le_of_ble_eq_true rfl) ?_
                  refine X9_worthAt (by omega) (by omega) ?_
                  rw [hT2co0 (19 + ((k : Int)).toNat) (by unfold scr; omega), Int.toNat_natCast]
                  have hww := hwo (k : Int) v (by omega) (by omega) (by omega) (by omega)
                  rw [Int.toNat_natCast] at hww
                  refine v_iadd 222 dX10_choose_221 rfl (⟨by omega, by omega⟩) ?_
                  refine v_iload5 224 dX10_choose_222 rfl ?_
                  refine v_iload9 226 dX10_choose_224 rfl ?_
                  refine v_ior 227 dX10_choose_226 rfl ?_
                  refine v_cvV5 mX10_choose 230 dX10_choose_227 rfl kX10_78 rfl rfl (by omega) (Nat.le_of_ble_eq_true rfl) ?_
                  have hmvb := one_bnd (mv (σ 3 1) (cbv σ) (fun _ => v) (k : Int))
                  have hT2co : CoreS σ (wr (wr υ 54 (k : Int) v) 53 (σ 14 (k : Int)) (υ 53 (σ 14 (k : Int)) + one (mv (σ 3 1) (cbv σ) (fun _ => v) (k : Int)))) := fun c hc => by
                    have h1 : c ≠ 53 := fun e => hc (Or.inl e)
                    have h2 : c ≠ 54 := fun e => hc (Or.inr (Or.inl e))
                    rw [wr_ne h1, wr_ne h2]; exact fco c hc
                  refine Run_args (vs' := [.inr (some 6), .inr (some cg), .inl ((k + 1 : Nat) : Int), .inl (ccost σ (pf (pre ++ [v])) (k + 1)), .inl (cwor σ (pf (pre ++ [v])) (k + 1)), .inl ((cbr σ g R (pf (pre ++ [v])) (k + 1) : Nat) : Int)]) (by
                    rw [ccost_app hlen, cwor_app hlen, ← cbr_app hw hlen hpv]
                    rfl) ?_
                  have hokv : okv (σ 17) (k : Int) v = true := by
                    unfold okv
                    rcases h120 with h | h
                    · rw [decide_eq_true h]; rfl
                    · rw [decide_eq_true h, Bool.or_true]
                  have ec : (v + 1 - σ 12 (k : Int)).toNat = (v - σ 12 (k : Int)).toNat + 1 := by omega
                  have ev : σ 12 (k : Int) + (((v - σ 12 (k : Int)).toNat : Nat) : Int) = v := by omega
                  have hlp := cPr_len σ k m ((v - σ 12 (k : Int)).toNat + 1) ((σ 13 (k : Int) - σ 12 (k : Int) + 1).toNat - ((v - σ 12 (k : Int)).toNat + 1))
                  have hwt2 := stp_wt (hop := hop) hwtr σ g n R (List.map (fun q => pre ++ q) (cPr σ k m (v - σ 12 (k : Int)).toNat)) s
                  have hcs := cPr_s σ k m (v - σ 12 (k : Int)).toNat
                  rw [ev, hokv, if_pos rfl] at hcs
                  have hall9 := cPr_all hw (m := m) (k := k) (by omega)
                  refine ih (k + 1) (d - 1) (pre ++ [v]) (wr (wr υ 54 (k : Int) v) 53 (σ 14 (k : Int)) (υ 53 (σ 14 (k : Int)) + one (mv (σ 3 1) (cbv σ) (fun _ => v) (k : Int)))) _ _ (by omega) (by rw [List.length_append, hlen]; rfl) (fun j hj => ?_) hT2co (fun j hj => ?_) (fun w a b => ?_) (hrelk _ _ _ frel (fun c hc => by
                    have := hgc c hc
                    rw [wr_ne (by omega), wr_ne (by omega)])) ?_ (by omega) (fun ω p1 p2 p3 p4 => ?_)
                  · by_cases ej : j = k
                    · subst ej
                      rw [← hlen, pf_app_eq]
                      omega
                    · rw [pf_app_lt (by omega)]
                      exact hpb j (by omega)
                  · rw [wr_ne (by decide), wr_at]
                    by_cases ej : (j : Int) = (k : Int)
                    · have ej2 : j = k := by omega
                      subst ej2
                      rw [if_pos rfl]
                      have := pf_app_eq (pre := pre) (v := v) (x := [])
                      rw [hlen] at this
                      exact this.symm
                    · rw [if_neg ej, pf_app_lt (by omega)]
                      exact fval j (by omega)
                  · rw [ccnt_app hlen, wr_at]
                    have hm9 := hmo w a b
                    have hf9 := fmo w a b
                    by_cases ew : w = σ 14 (k : Int)
                    · subst ew
                      rw [if_pos rfl, decide_eq_true rfl, Bool.true_and, hf9]
                      exact ⟨by omega, by omega⟩
                    · rw [if_neg ew, decide_eq_false (fun q => ew q.symm), Bool.false_and, wr_ne (by decide), hf9]
                      exact ⟨by rw [one_f]; omega, by rw [one_f]; omega⟩
                  · rw [List.length_map] at hwt2
                    have h8 : (cPr σ k m ((v - σ 12 (k : Int)).toNat + 1)).length = (cPr σ k m (v - σ 12 (k : Int)).toNat).length + (cEn σ (k + 1) m).length := by rw [hcs, List.length_append, List.length_map]
                    have h7 : (v - σ 12 (k : Int)).toNat + 1 + ((σ 13 (k : Int) - σ 12 (k : Int) + 1).toNat - ((v - σ 12 (k : Int)).toNat + 1)) = (σ 13 (k : Int) - σ 12 (k : Int) + 1).toNat := by omega
                    rw [h7, ← hall9] at hlp
                    omega
                  refine v_aload0 231 dX10_choose_230 rfl ?_
                  refine v_getR 234 dX10_choose_231 rfl fX10_22 rfl rfl ?_
                  refine v_iload6 236 dX10_choose_234 rfl ?_
                  refine v_dup2 237 dX10_choose_236 rfl ?_
                  refine v_ialde 238 (τ 53 (σ 14 (k : Int)) + one (mv (σ 3 1) (cbv σ) (fun _ => v) (k : Int))) dX10_choose_237 rfl rfl (⟨by omega, by omega⟩) (by rw [p3 _ (by omega) (by omega), wr_eq]; have := fmo (σ 14 (k : Int)) (by omega) (by omega); omega) ?_
                  refine v_iload8 240 dX10_choose_238 rfl ?_
                  refine v_isub 241 dX10_choose_240 rfl (⟨by omega, by omega⟩) ?_
                  refine v_iast 242 dX10_choose_241 rfl rfl (⟨by omega, by omega⟩) ?_
                  refine v_iinc7 245 dX10_choose_242 rfl (by decide) rfl (⟨by omega, by omega⟩) ?_
                  refine v_goto 79 dX10_choose_245 rfl ?_
                  first
                    | (have hno : ∀ q, q ∈ (cEn σ (k + 1) m).map (fun s => v :: s) → stp hop rch σ g n R ((List.map (fun q => pre ++ q) (cPr σ k m (v - σ 12 (k : Int)).toNat)).foldl (stp hop rch σ g n R) s) (pre ++ q) = ((List.map (fun q => pre ++ q) (cPr σ k m (v - σ 12 (k : Int)).toNat)).foldl (stp hop rch σ g n R) s) := fun q hq => by
                         obtain ⟨q2, hq2, rfl⟩ := List.mem_map.mp hq
                         refine stp_lim (fun hl => ?_)
                         have h1 := hl (σ 14 (k : Int)) (by omega) (by omega)
                         have e6 : pre ++ v :: q2 = (pre ++ [v]) ++ q2 := by rw [List.append_assoc]; rfl
                         have h2 := cpl_cnt (σ := σ) (n := n) (m := m) (k := k + 1) (pre := pre ++ [v]) (s := q2) (by omega) (by rw [List.length_append, hlen]; rfl) (σ 14 (k : Int))
                         rw [ccnt_app hlen, decide_eq_true rfl, Bool.true_and, h100] at h2
                         rw [e6] at h1
                         have h3 : one true = 1 := rfl
                         have h4 : one false = 0 := rfl
                         have h5 := congrArg one h100
                         omega
                       refine ih2 (v + 1) υ _ _ (by omega) (by omega) (by omega) fco fval fmo ?_
                       have ec : (v + 1 - σ 12 (k : Int)).toNat = (v - σ 12 (k : Int)).toNat + 1 := by omega
                       have ev : σ 12 (k : Int) + (((v - σ 12 (k : Int)).toNat : Nat) : Int) = v := by omega
                       rw [ec, cPr_s, ev]
                       cases hov : okv (σ 17) (k : Int) v with
                       | false => rw [if_neg (by decide), List.append_nil]; exact frel
                       | true =>
                         rw [if_pos rfl, List.map_append, List.foldl_append, fold_id _ (fun l hl => by obtain ⟨q, hq, rfl⟩ := List.mem_map.mp hl; exact hno q hq)]
                         exact frel)
                    | (refine ih2 (v + 1) υ _ _ (by omega) (by omega) (by omega) fco fval fmo ?_
                       have ec : (v + 1 - σ 12 (k : Int)).toNat = (v - σ 12 (k : Int)).toNat + 1 := by omega
                       have ev : σ 12 (k : Int) + (((v - σ 12 (k : Int)).toNat : Nat) : Int) = v := by omega
                       rw [ec, cPr_s, ev]
                       have hov : okv (σ 17) (k : Int) v = false := by
                         unfold okv
                         rw [decide_eq_false h120.1, decide_eq_false h120.2]; rfl
                       rw [hov, if_neg (by decide), List.append_nil]; exact frel)
                    | (refine ih2 (v + 1) _ _ _ (by omega) (by omega) (by omega) (fun c hc => ?_) (fun j hj => ?_) (fun w a b => ?_) ?_
                       · have h1 : c ≠ 53 := fun e => hc (Or.inl e)
                         rw [wr_ne h1]
                         exact p1 c hc
                       · rw [wr_ne (by decide), p2 j (by omega), pf_app_lt (by omega)]
                       · have hp9 := p3 w a b
                         rw [wr_at]
                         by_cases ew : w = σ 14 (k : Int)
                         · subst ew
                           rw [if_pos rfl]
                           omega
                         · rw [if_neg ew, hp9, wr_at, if_neg ew, wr_ne (by decide)]
                           exact fmo w a b
                       · have e7 : ((List.map (fun q => pre ++ q) (cPr σ k m (v + 1 - σ 12 (k : Int)).toNat)).foldl (stp hop rch σ g n R) s) = (List.map (fun q => (pre ++ [v]) ++ q) (cEn σ (k + 1) m)).foldl (stp hop rch σ g n R) ((List.map (fun q => pre ++ q) (cPr σ k m (v - σ 12 (k : Int)).toNat)).foldl (stp hop rch σ g n R) s) := by
                           rw [ec, hcs, List.map_append, List.foldl_append]
                           congr 1
                           rw [List.map_map]
                           apply List.map_congr_left
                           intro q _
                           show pre ++ (v :: q) = pre ++ [v] ++ q
                           rw [List.append_assoc]
                           rfl
                         rw [e7]
                         exact hrelk _ _ _ p4 (fun c hc => by
                           have := hgc c hc
                           rw [wr_ne (by omega)]))
                · skip
                  refine v_goto 242 dX10_choose_146 rfl ?_
                  refine v_iinc7 245 dX10_choose_242 rfl (by decide) rfl (⟨by omega, by omega⟩) ?_
                  refine v_goto 79 dX10_choose_245 rfl ?_
                  first
                    | (have hno : ∀ q, q ∈ (cEn σ (k + 1) m).map (fun s => v :: s) → stp hop rch σ g n R ((List.map (fun q => pre ++ q) (cPr σ k m (v - σ 12 (k : Int)).toNat)).foldl (stp hop rch σ g n R) s) (pre ++ q) = ((List.map (fun q => pre ++ q) (cPr σ k m (v - σ 12 (k : Int)).toNat)).foldl (stp hop rch σ g n R) s) := fun q hq => by
                         obtain ⟨q2, hq2, rfl⟩ := List.mem_map.mp hq
                         refine stp_lim (fun hl => ?_)
                         have h1 := hl (σ 14 (k : Int)) (by omega) (by omega)
                         have e6 : pre ++ v :: q2 = (pre ++ [v]) ++ q2 := by rw [List.append_assoc]; rfl
                         have h2 := cpl_cnt (σ := σ) (n := n) (m := m) (k := k + 1) (pre := pre ++ [v]) (s := q2) (by omega) (by rw [List.length_append, hlen]; rfl) (σ 14 (k : Int))
                         rw [ccnt_app hlen, decide_eq_true rfl, Bool.true_and, h100] at h2
                         rw [e6] at h1
                         have h3 : one true = 1 := rfl
                         have h4 : one false = 0 := rfl
                         have h5 := congrArg one h100
                         omega
                       refine ih2 (v + 1) υ _ _ (by omega) (by omega) (by omega) fco fval fmo ?_
                       have ec : (v + 1 - σ 12 (k : Int)).toNat = (v - σ 12 (k : Int)).toNat + 1 := by omega
                       have ev : σ 12 (k : Int) + (((v - σ 12 (k : Int)).toNat : Nat) : Int) = v := by omega
                       rw [ec, cPr_s, ev]
                       cases hov : okv (σ 17) (k : Int) v with
                       | false => rw [if_neg (by decide), List.append_nil]; exact frel
                       | true =>
                         rw [if_pos rfl, List.map_append, List.foldl_append, fold_id _ (fun l hl => by obtain ⟨q, hq, rfl⟩ := List.mem_map.mp hl; exact hno q hq)]
                         exact frel)
                    | (refine ih2 (v + 1) υ _ _ (by omega) (by omega) (by omega) fco fval fmo ?_
                       have ec : (v + 1 - σ 12 (k : Int)).toNat = (v - σ 12 (k : Int)).toNat + 1 := by omega
                       have ev : σ 12 (k : Int) + (((v - σ 12 (k : Int)).toNat : Nat) : Int) = v := by omega
                       rw [ec, cPr_s, ev]
                       have hov : okv (σ 17) (k : Int) v = false := by
                         unfold okv
                         rw [decide_eq_false h120.1, decide_eq_false h120.2]; rfl
                       rw [hov, if_neg (by decide), List.append_nil]; exact frel)
                    | (refine ih2 (v + 1) _ _ _ (by omega) (by omega) (by omega) (fun c hc => ?_) (fun j hj => ?_) (fun w a b => ?_) ?_
                       · have h1 : c ≠ 53 := fun e => hc (Or.inl e)
                         rw [wr_ne h1]
                         exact p1 c hc
                       · rw [wr_ne (by decide), p2 j (by omega), pf_app_lt (by omega)]
                       · have hp9 := p3 w a b
                         rw [wr_at]
                         by_cases ew : w = σ 14 (k : Int)
                         · subst ew
                           rw [if_pos rfl]
                           omega
                         · rw [if_neg ew, hp9, wr_at, if_neg ew, wr_ne (by decide)]
                           exact fmo w a b
                       · have e7 : ((List.map (fun q => pre ++ q) (cPr σ k m (v + 1 - σ 12 (k : Int)).toNat)).foldl (stp hop rch σ g n R) s) = (List.map (fun q => (pre ++ [v]) ++ q) (cEn σ (k + 1) m)).foldl (stp hop rch σ g n R) ((List.map (fun q => pre ++ q) (cPr σ k m (v - σ 12 (k : Int)).toNat)).foldl (stp hop rch σ g n R) s) := by
                           rw [ec, hcs, List.map_append, List.foldl_append]
                           congr 1
                           rw [List.map_map]
                           apply List.map_congr_left
                           intro q _
                           show pre ++ (v :: q) = pre ++ [v] ++ q
                           rw [List.append_assoc]
                           rfl
                         rw [e7]
                         exact hrelk _ _ _ p4 (fun c hc => by
                           have := hgc c hc
                           rw [wr_ne (by omega)]))
              · skip
                refine v_if_eq 242 126 dX10_choose_123 rfl rfl (fun _ => ?_) (fun h => absurd (by decide) h)
                refine v_iinc7 245 dX10_choose_242 rfl (by decide) rfl (⟨by omega, by omega⟩) ?_
                refine v_goto 79 dX10_choose_245 rfl ?_
                first
                  | (have hno : ∀ q, q ∈ (cEn σ (k + 1) m).map (fun s => v :: s) → stp hop rch σ g n R ((List.map (fun q => pre ++ q) (cPr σ k m (v - σ 12 (k : Int)).toNat)).foldl (stp hop rch σ g n R) s) (pre ++ q) = ((List.map (fun q => pre ++ q) (cPr σ k m (v - σ 12 (k : Int)).toNat)).foldl (stp hop rch σ g n R) s) := fun q hq => by
                       obtain ⟨q2, hq2, rfl⟩ := List.mem_map.mp hq
                       refine stp_lim (fun hl => ?_)
                       have h1 := hl (σ 14 (k : Int)) (by omega) (by omega)
                       have e6 : pre ++ v :: q2 = (pre ++ [v]) ++ q2 := by rw [List.append_assoc]; rfl
                       have h2 := cpl_cnt (σ := σ) (n := n) (m := m) (k := k + 1) (pre := pre ++ [v]) (s := q2) (by omega) (by rw [List.length_append, hlen]; rfl) (σ 14 (k : Int))
                       rw [ccnt_app hlen, decide_eq_true rfl, Bool.true_and, h100] at h2
                       rw [e6] at h1
                       have h3 : one true = 1 := rfl
                       have h4 : one false = 0 := rfl
                       have h5 := congrArg one h100
                       omega
                     refine ih2 (v + 1) υ _ _ (by omega) (by omega) (by omega) fco fval fmo ?_
                     have ec : (v + 1 - σ 12 (k : Int)).toNat = (v - σ 12 (k : Int)).toNat + 1 := by omega
                     have ev : σ 12 (k : Int) + (((v - σ 12 (k : Int)).toNat : Nat) : Int) = v := by omega
                     rw [ec, cPr_s, ev]
                     cases hov : okv (σ 17) (k : Int) v with
                     | false => rw [if_neg (by decide), List.append_nil]; exact frel
                     | true =>
                       rw [if_pos rfl, List.map_append, List.foldl_append, fold_id _ (fun l hl => by obtain ⟨q, hq, rfl⟩ := List.mem_map.mp hl; exact hno q hq)]
                       exact frel)
                  | (refine ih2 (v + 1) υ _ _ (by omega) (by omega) (by omega) fco fval fmo ?_
                     have ec : (v + 1 - σ 12 (k : Int)).toNat = (v - σ 12 (k : Int)).toNat + 1 := by omega
                     have ev : σ 12 (k : Int) + (((v - σ 12 (k : Int)).toNat : Nat) : Int) = v := by omega
                     rw [ec, cPr_s, ev]
                     have hov : okv (σ 17) (k : Int) v = false := by
                       unfold okv
                       rw [decide_eq_false h120.1, decide_eq_false h120.2]; rfl
                     rw [hov, if_neg (by decide), List.append_nil]; exact frel)
                  | (refine ih2 (v + 1) _ _ _ (by omega) (by omega) (by omega) (fun c hc => ?_) (fun j hj => ?_) (fun w a b => ?_) ?_
                     · have h1 : c ≠ 53 := fun e => hc (Or.inl e)
                       rw [wr_ne h1]
                       exact p1 c hc
                     · rw [wr_ne (by decide), p2 j (by omega), pf_app_lt (by omega)]
                     · have hp9 := p3 w a b
                       rw [wr_at]
                       by_cases ew : w = σ 14 (k : Int)
                       · subst ew
                         rw [if_pos rfl]
                         omega
                       · rw [if_neg ew, hp9, wr_at, if_neg ew, wr_ne (by decide)]
                         exact fmo w a b
                     · have e7 : ((List.map (fun q => pre ++ q) (cPr σ k m (v + 1 - σ 12 (k : Int)).toNat)).foldl (stp hop rch σ g n R) s) = (List.map (fun q => (pre ++ [v]) ++ q) (cEn σ (k + 1) m)).foldl (stp hop rch σ g n R) ((List.map (fun q => pre ++ q) (cPr σ k m (v - σ 12 (k : Int)).toNat)).foldl (stp hop rch σ g n R) s) := by
                         rw [ec, hcs, List.map_append, List.foldl_append]
                         congr 1
                         rw [List.map_map]
                         apply List.map_congr_left
                         intro q _
                         show pre ++ (v :: q) = pre ++ [v] ++ q
                         rw [List.append_assoc]
                         rfl
                       rw [e7]
                       exact hrelk _ _ _ p4 (fun c hc => by
                         have := hgc c hc
                         rw [wr_ne (by omega)]))
            · skip
              refine v_if_eq 110 106 dX10_choose_103 rfl rfl (fun _ => ?_) (fun h => absurd (by decide) h)
              refine v_iconst 111 dX10_choose_110 rfl ⟨by decide +kernel, by decide⟩ ?_
              first
                | refine V_top (show (1 : Int) = one (mv (σ 3 1) (cbv σ) (fun _ => v) (k : Int)) by rw [h100]; rfl) ?_
                | refine V_top (show (0 : Int) = one (mv (σ 3 1) (cbv σ) (fun _ => v) (k : Int)) by rw [h100]; rfl) ?_
              have hmv0 := one_bnd (mv (σ 3 1) (cbv σ) (fun _ => v) (k : Int))
              refine v_istore8 113 dX10_choose_111 rfl (by decide) ?_
              refine v_aload0 114 dX10_choose_113 rfl ?_
              refine v_getR 117 dX10_choose_114 rfl fX10_31 rfl rfl ?_
              refine v_iload2 118 dX10_choose_117 rfl ?_
              refine v_iload7 120 dX10_choose_118 rfl ?_
              refine v_cvI2 mX3_pinLets 123 dX10_choose_120 rfl kX10_105 rfl rfl (by omega) (Nat.le_of_ble_eq_true rfl) ?_
              refine X3_pinLets (by omega) (fun h120 => ?_) (fun h120 => ?_)
              all_goals rw [fco 17 (nscr rfl)] at h120
              · skip
                refine v_if_eq 242 126 dX10_choose_123 rfl rfl (fun h => absurd h (by decide)) (fun _ => ?_)
                refine v_aload0 127 dX10_choose_126 rfl ?_
                refine v_getR 130 dX10_choose_127 rfl fX10_22 rfl rfl ?_
                refine v_iload6 132 dX10_choose_130 rfl ?_
                refine v_ialde 133 (υ 53 (σ 14 (k : Int))) dX10_choose_132 rfl rfl (⟨by omega, by omega⟩) (rfl) ?_
                refine v_iload8 135 dX10_choose_133 rfl ?_
                refine v_iadd 136 dX10_choose_135 rfl (⟨by omega, by omega⟩) ?_
                refine v_aload0 137 dX10_choose_136 rfl ?_
                refine v_getR 140 dX10_choose_137 rfl fX10_15 rfl rfl ?_
                refine v_iload6 142 dX10_choose_140 rfl ?_
                refine v_ialde 143 (σ 52 (σ 14 (k : Int))) dX10_choose_142 rfl rfl (⟨by omega, by omega⟩) (by rw [fco 52 (nscr rfl)]) ?_
                refine v_icmp_le 149 146 dX10_choose_143 rfl rfl (fun h143 => ?_) (fun h143 => ?_)
                · skip
                  refine v_aload0 150 dX10_choose_149 rfl ?_
                  refine v_getR 153 dX10_choose_150 rfl fX10_25 rfl rfl ?_
                  refine v_iload2 154 dX10_choose_153 rfl ?_
                  refine v_iload7 156 dX10_choose_154 rfl ?_
                  refine v_iast 157 dX10_choose_156 rfl rfl (⟨by omega, by omega⟩) ?_
                  refine v_aload0 158 dX10_choose_157 rfl ?_
                  refine v_getR 161 dX10_choose_158 rfl fX10_22 rfl rfl ?_
                  refine v_iload6 163 dX10_choose_161 rfl ?_
                  refine v_dup2 164 dX10_choose_163 rfl ?_
                  refine v_ialde 165 (υ 53 (σ 14 (k : Int))) dX10_choose_164 rfl rfl (⟨by omega, by omega⟩) (by rw [wr_ne (by decide)]) ?_
                  refine v_iload8 167 dX10_choose_165 rfl ?_
                  refine v_iadd 168 dX10_choose_167 rfl (⟨by omega, by omega⟩) ?_
                  refine v_iast 169 dX10_choose_168 rfl rfl (⟨by omega, by omega⟩) ?_
                  refine v_aload0 170 dX10_choose_169 rfl ?_
                  refine v_getR 173 dX10_choose_170 rfl fX10_35 rfl rfl ?_
                  refine v_aload0 174 dX10_choose_173 rfl ?_
                  refine v_getR 177 dX10_choose_174 rfl fX10_25 rfl rfl ?_
                  refine v_iload2 178 dX10_choose_177 rfl ?_
                  refine v_aload0 179 dX10_choose_178 rfl ?_
                  refine v_getR 182 dX10_choose_179 rfl fX10_9 rfl rfl ?_
                  refine v_cvI3 mX8_brokenAt 185 dX10_choose_182 rfl kX10_108 rfl rfl (by omega) (Nat.le_of_ble_eq_true rfl) ?_
                  have hpv : ∀ j : Nat, j < k + 1 → (wr (wr υ 54 (k : Int) v) 53 (σ 14 (k : Int)) (υ 53 (σ 14 (k : Int)) + one (mv (σ 3 1) (cbv σ) (fun _ => v) (k : Int)))) 54 (j : Int) = pf (pre ++ [v]) (j : Int) := fun j hj => by
                    rw [wr_ne (by decide), wr_at]
                    by_cases ej : (j : Int) = (k : Int)
                    · have ej2 : j = k := by omega
                      subst ej2
                      rw [if_pos rfl]
                      have := pf_app_eq (pre := pre) (v := v) (x := [])
                      rw [hlen] at this
                      exact this.symm
                    · rw [if_neg ej, pf_app_lt (by omega)]
                      exact fval j (by omega)
                  have hT2co0 : CoreS σ (wr (wr υ 54 (k : Int) v) 53 (σ 14 (k : Int)) (υ 53 (σ 14 (k : Int)) + one (mv (σ 3 1) (cbv σ) (fun _ => v) (k : Int)))) := fun c hc => by
                    have h1 : c ≠ 53 := fun e => hc (Or.inl e)
                    have h2 : c ≠ 54 := fun e => hc (Or.inr (Or.inl e))
                    rw [wr_ne h1, wr_ne h2]; exact fco c hc
                  have hwt0 := hw.coreS hT2co0
                  refine X8_brokenAt hwt0 rfl rfl (fun j a b => ?_) (by omega) (by omega) ?_
                  · have h1 := hpv j.toNat (by omega)
                    rw [Int.toNat_of_nonneg a] at h1
                    rw [h1]
                    by_cases ej : j.toNat = k
                    · have e2 : j = (pre.length : Int) := by omega
                      rw [e2, pf_app_eq]; omega
                    · have h2 := pf_app_lt (pre := pre) (x := [v]) (j := j.toNat) (by omega)
                      rw [Int.toNat_of_nonneg a] at h2
                      have h3 := hpb j.toNat (by omega)
                      rw [Int.toNat_of_nonneg a] at h3
                      rw [h2]; exact h3
                  have hbaE : bitsN (baB (wr (wr υ 54 (k : Int) v) 53 (σ 14 (k : Int)) (υ 53 (σ 14 (k : Int)) + one (mv (σ 3 1) (cbv σ) (fun _ => v) (k : Int)))) 54 51 k) R = bitsN (fun r => baF σ ((wr (wr υ 54 (k : Int) v) 53 (σ 14 (k : Int)) (υ 53 (σ 14 (k : Int)) + one (mv (σ 3 1) (cbv σ) (fun _ => v) (k : Int)))) 54) (σ 51) k r) R := bitsN_congr (fun r hr => by
                    show baF _ _ ((wr (wr υ 54 (k : Int) v) 53 (σ 14 (k : Int)) (υ 53 (σ 14 (k : Int)) + one (mv (σ 3 1) (cbv σ) (fun _ => v) (k : Int)))) 51) k r = _
                    rw [hT2co0 51 (nscr rfl), baF_core hT2co0])
                  rw [hbaE]
                  refine v_aload0 186 dX10_choose_185 rfl ?_
                  refine v_getIe 189 6 ((bitsN g R : Int)) dX10_choose_186 rfl fX10_18 rfl rfl rfl (by rw [wr_ne (by decide), wr_ne (by decide), fco 6 (nscr rfl)]; exact hcnt) ?_
                  refine v_iand 190 dX10_choose_189 rfl ?_
                  rw [band_bits _ _ hR12]
                  refine v_istore9 192 dX10_choose_190 rfl (by decide) ?_
                  refine v_aload0 193 dX10_choose_192 rfl ?_
                  refine v_aload1 194 dX10_choose_193 rfl ?_
                  refine v_iload2 195 dX10_choose_194 rfl ?_
                  refine v_iconst 196 dX10_choose_195 rfl ⟨by decide +kernel, by decide⟩ ?_
                  refine v_iadd 197 dX10_choose_196 rfl (⟨by omega, by omega⟩) ?_
                  refine v_iload3 198 dX10_choose_197 rfl ?_
                  refine v_aload0 199 dX10_choose_198 rfl ?_
                  refine v_getR 202 dX10_choose_199 rfl fX10_43 rfl rfl ?_
                  refine v_iload2 203 dX10_choose_202 rfl ?_
                  refine v_iload7 205 dX10_choose_203 rfl ?_
                  refine v_cvI2 mX9_costAt 208 dX10_choose_205 rfl kX10_112 rfl rfl (by omega) (Nat.le_of_ble_eq_true rfl) ?_
                  refine X9_costAt hwt0 (by omega) (by omega) (by omega) ?_
                  rw [ccst_core hT2co0 hcb]
                  have hcc := ccst_bnd hw (p := fun _ => v) (k := (k : Int)) (by omega) (by omega)
                  refine v_iadd 209 dX10_choose_208 rfl (⟨by omega, by omega⟩) ?_
                  refine v_iload4 211 dX10_choose_209 rfl ?_
                  refine v_aload0 212 dX10_choose_211 rfl ?_
                  refine v_getR 215 dX10_choose_212 rfl fX10_43 rfl rfl ?_
                  refine v_iload2 216 dX10_choose_215 rfl ?_
                  refine v_iload7 218 dX10_choose_216 rfl ?_
                  refine v_cvI2 mX9_worthAt 221 dX10_choose_218 rfl kX10_116 rfl rfl (by omega) (Nat.le_of_ble_eq_true rfl) ?_
                  refine X9_worthAt (by omega) (by omega) ?_
                  rw [hT2co0 (19 + ((k : Int)).toNat) (by unfold scr; omega), Int.toNat_natCast]
                  have hww := hwo (k : Int) v (by omega) (by omega) (by omega) (by omega)
                  rw [Int.toNat_natCast] at hww
                  refine v_iadd 222 dX10_choose_221 rfl (⟨by omega, by omega⟩) ?_
                  refine v_iload5 224 dX10_choose_222 rfl ?_
                  refine v_iload9 226 dX10_choose_224 rfl ?_
                  refine v_ior 227 dX10_choose_226 rfl ?_
                  refine v_cvV5 mX10_choose 230 dX10_choose_227 rfl kX10_78 rfl rfl (by omega) (Nat.le_of_ble_eq_true rfl) ?_
                  have hmvb := one_bnd (mv (σ 3 1) (cbv σ) (fun _ => v) (k : Int))
                  have hT2co : CoreS σ (wr (wr υ 54 (k : Int) v) 53 (σ 14 (k : Int)) (υ 53 (σ 14 (k : Int)) + one (mv (σ 3 1) (cbv σ) (fun _ => v) (k : Int)))) := fun c hc => by
                    have h1 : c ≠ 53 := fun e => hc (Or.inl e)
                    have h2 : c ≠ 54 := fun e => hc (Or.inr (Or.inl e))
                    rw [wr_ne h1, wr_ne h2]; exact fco c hc
                  refine Run_args (vs' := [.inr (some 6), .inr (some cg), .inl ((k + 1 : Nat) : Int), .inl (ccost σ (pf (pre ++ [v])) (k + 1)), .inl (cwor σ (pf (pre ++ [v])) (k + 1)), .inl ((cbr σ g R (pf (pre ++ [v])) (k + 1) : Nat) : Int)]) (by
                    rw [ccost_app hlen, cwor_app hlen, ← cbr_app hw hlen hpv]
                    rfl) ?_
                  have hokv : okv (σ 17) (k : Int) v = true := by
                    unfold okv
                    rcases h120 with h | h
                    · rw [decide_eq_true h]; rfl
                    · rw [decide_eq_true h, Bool.or_true]
                  have ec : (v + 1 - σ 12 (k : Int)).toNat = (v - σ 12 (k : Int)).toNat + 1 := by omega
                  have ev : σ 12 (k : Int) + (((v - σ 12 (k : Int)).toNat : Nat) : Int) = v := by omega
                  have hlp := cPr_len σ k m ((v - σ 12 (k : Int)).toNat + 1) ((σ 13 (k : Int) - σ 12 (k : Int) + 1).toNat - ((v - σ 12 (k : Int)).toNat + 1))
                  have hwt2 := stp_wt (hop := hop) hwtr σ g n R (List.map (fun q => pre ++ q) (cPr σ k m (v - σ 12 (k : Int)).toNat)) s
                  have hcs := cPr_s σ k m (v - σ 12 (k : Int)).toNat
                  rw [ev, hokv, if_pos rfl] at hcs
                  have hall9 := cPr_all hw (m := m) (k := k) (by omega)
                  refine ih (k + 1) (d - 1) (pre ++ [v]) (wr (wr υ 54 (k : Int) v) 53 (σ 14 (k : Int)) (υ 53 (σ 14 (k : Int)) + one (mv (σ 3 1) (cbv σ) (fun _ => v) (k : Int)))) _ _ (by omega) (by rw [List.length_append, hlen]; rfl) (fun j hj => ?_) hT2co (fun j hj => ?_) (fun w a b => ?_) (hrelk _ _ _ frel (fun c hc => by
                    have := hgc c hc
                    rw [wr_ne (by omega), wr_ne (by omega)])) ?_ (by omega) (fun ω p1 p2 p3 p4 => ?_)
                  · by_cases ej : j = k
                    · subst ej
                      rw [← hlen, pf_app_eq]
                      omega
                    · rw [pf_app_lt (by omega)]
                      exact hpb j (by omega)
                  · rw [wr_ne (by decide), wr_at]
                    by_cases ej : (j : Int) = (k : Int)
                    · have ej2 : j = k := by omega
                      subst ej2
                      rw [if_pos rfl]
                      have := pf_app_eq (pre := pre) (v := v) (x := [])
                      rw [hlen] at this
                      exact this.symm
                    · rw [if_neg ej, pf_app_lt (by omega)]
                      exact fval j (by omega)
                  · rw [ccnt_app hlen, wr_at]
                    have hm9 := hmo w a b
                    have hf9 := fmo w a b
                    by_cases ew : w = σ 14 (k : Int)
                    · subst ew
                      rw [if_pos rfl, decide_eq_true rfl, Bool.true_and, hf9]
                      exact ⟨by omega, by omega⟩
                    · rw [if_neg ew, decide_eq_false (fun q => ew q.symm), Bool.false_and, wr_ne (by decide), hf9]
                      exact ⟨by rw [one_f]; omega, by rw [one_f]; omega⟩
                  · rw [List.length_map] at hwt2
                    have h8 : (cPr σ k m ((v - σ 12 (k : Int)).toNat + 1)).length = (cPr σ k m (v - σ 12 (k : Int)).toNat).length + (cEn σ (k + 1) m).length := by rw [hcs, List.length_append, List.length_map]
                    have h7 : (v - σ 12 (k : Int)).toNat + 1 + ((σ 13 (k : Int) - σ 12 (k : Int) + 1).toNat - ((v - σ 12 (k : Int)).toNat + 1)) = (σ 13 (k : Int) - σ 12 (k : Int) + 1).toNat := by omega
                    rw [h7, ← hall9] at hlp
                    omega
                  refine v_aload0 231 dX10_choose_230 rfl ?_
                  refine v_getR 234 dX10_choose_231 rfl fX10_22 rfl rfl ?_
                  refine v_iload6 236 dX10_choose_234 rfl ?_
                  refine v_dup2 237 dX10_choose_236 rfl ?_
                  refine v_ialde 238 (τ 53 (σ 14 (k : Int)) + one (mv (σ 3 1) (cbv σ) (fun _ => v) (k : Int))) dX10_choose_237 rfl rfl (⟨by omega, by omega⟩) (by rw [p3 _ (by omega) (by omega), wr_eq]; have := fmo (σ 14 (k : Int)) (by omega) (by omega); omega) ?_
                  refine v_iload8 240 dX10_choose_238 rfl ?_
                  refine v_isub 241 dX10_choose_240 rfl (⟨by omega, by omega⟩) ?_
                  refine v_iast 242 dX10_choose_241 rfl rfl (⟨by omega, by omega⟩) ?_
                  refine v_iinc7 245 dX10_choose_242 rfl (by decide) rfl (⟨by omega, by omega⟩) ?_
                  refine v_goto 79 dX10_choose_245 rfl ?_
                  first
                    | (have hno : ∀ q, q ∈ (cEn σ (k + 1) m).map (fun s => v :: s) → stp hop rch σ g n R ((List.map (fun q => pre ++ q) (cPr σ k m (v - σ 12 (k : Int)).toNat)).foldl (stp hop rch σ g n R) s) (pre ++ q) = ((List.map (fun q => pre ++ q) (cPr σ k m (v - σ 12 (k : Int)).toNat)).foldl (stp hop rch σ g n R) s) := fun q hq => by
                         obtain ⟨q2, hq2, rfl⟩ := List.mem_map.mp hq
                         refine stp_lim (fun hl => ?_)
                         have h1 := hl (σ 14 (k : Int)) (by omega) (by omega)
                         have e6 : pre ++ v :: q2 = (pre ++ [v]) ++ q2 := by rw [List.append_assoc]; rfl
                         have h2 := cpl_cnt (σ := σ) (n := n) (m := m) (k := k + 1) (pre := pre ++ [v]) (s := q2) (by omega) (by rw [List.length_append, hlen]; rfl) (σ 14 (k : Int))
                         rw [ccnt_app hlen, decide_eq_true rfl, Bool.true_and, h100] at h2
                         rw [e6] at h1
                         have h3 : one true = 1 := rfl
                         have h4 : one false = 0 := rfl
                         have h5 := congrArg one h100
                         omega
                       refine ih2 (v + 1) υ _ _ (by omega) (by omega) (by omega) fco fval fmo ?_
                       have ec : (v + 1 - σ 12 (k : Int)).toNat = (v - σ 12 (k : Int)).toNat + 1 := by omega
                       have ev : σ 12 (k : Int) + (((v - σ 12 (k : Int)).toNat : Nat) : Int) = v := by omega
                       rw [ec, cPr_s, ev]
                       cases hov : okv (σ 17) (k : Int) v with
                       | false => rw [if_neg (by decide), List.append_nil]; exact frel
                       | true =>
                         rw [if_pos rfl, List.map_append, List.foldl_append, fold_id _ (fun l hl => by obtain ⟨q, hq, rfl⟩ := List.mem_map.mp hl; exact hno q hq)]
                         exact frel)
                    | (refine ih2 (v + 1) υ _ _ (by omega) (by omega) (by omega) fco fval fmo ?_
                       have ec : (v + 1 - σ 12 (k : Int)).toNat = (v - σ 12 (k : Int)).toNat + 1 := by omega
                       have ev : σ 12 (k : Int) + (((v - σ 12 (k : Int)).toNat : Nat) : Int) = v := by omega
                       rw [ec, cPr_s, ev]
                       have hov : okv (σ 17) (k : Int) v = false := by
                         unfold okv
                         rw [decide_eq_false h120.1, decide_eq_false h120.2]; rfl
                       rw [hov, if_neg (by decide), List.append_nil]; exact frel)
                    | (refine ih2 (v + 1) _ _ _ (by omega) (by omega) (by omega) (fun c hc => ?_) (fun j hj => ?_) (fun w a b => ?_) ?_
                       · have h1 : c ≠ 53 := fun e => hc (Or.inl e)
                         rw [wr_ne h1]
                         exact p1 c hc
                       · rw [wr_ne (by decide), p2 j (by omega), pf_app_lt (by omega)]
                       · have hp9 := p3 w a b
                         rw [wr_at]
                         by_cases ew : w = σ 14 (k : Int)
                         · subst ew
                           rw [if_pos rfl]
                           omega
                         · rw [if_neg ew, hp9, wr_at, if_neg ew, wr_ne (by decide)]
                           exact fmo w a b
                       · have e7 : ((List.map (fun q => pre ++ q) (cPr σ k m (v + 1 - σ 12 (k : Int)).toNat)).foldl (stp hop rch σ g n R) s) = (List.map (fun q => (pre ++ [v]) ++ q) (cEn σ (k + 1) m)).foldl (stp hop rch σ g n R) ((List.map (fun q => pre ++ q) (cPr σ k m (v - σ 12 (k : Int)).toNat)).foldl (stp hop rch σ g n R) s) := by
                           rw [ec, hcs, List.map_append, List.foldl_append]
                           congr 1
                           rw [List.map_map]
                           apply List.map_congr_left
                           intro q _
                           show pre ++ (v :: q) = pre ++ [v] ++ q
                           rw [List.append_assoc]
                           rfl
                         rw [e7]
                         exact hrelk _ _ _ p4 (fun c hc => by
                           have := hgc c hc
                           rw [wr_ne (by omega)]))
                · skip
                  refine v_goto 242 dX10_choose_146 rfl ?_
                  refine v_iinc7 245 dX10_choose_242 rfl (by decide) rfl (⟨by omega, by omega⟩) ?_
                  refine v_goto 79 dX10_choose_245 rfl ?_
                  first
                    | (have hno : ∀ q, q ∈ (cEn σ (k + 1) m).map (fun s => v :: s) → stp hop rch σ g n R ((List.map (fun q => pre ++ q) (cPr σ k m (v - σ 12 (k : Int)).toNat)).foldl (stp hop rch σ g n R) s) (pre ++ q) = ((List.map (fun q => pre ++ q) (cPr σ k m (v - σ 12 (k : Int)).toNat)).foldl (stp hop rch σ g n R) s) := fun q hq => by
                         obtain ⟨q2, hq2, rfl⟩ := List.mem_map.mp hq
                         refine stp_lim (fun hl => ?_)
                         have h1 := hl (σ 14 (k : Int)) (by omega) (by omega)
                         have e6 : pre ++ v :: q2 = (pre ++ [v]) ++ q2 := by rw [List.append_assoc]; rfl
                         have h2 := cpl_cnt (σ := σ) (n := n) (m := m) (k := k + 1) (pre := pre ++ [v]) (s := q2) (by omega) (by rw [List.length_append, hlen]; rfl) (σ 14 (k : Int))
                         rw [ccnt_app hlen, decide_eq_true rfl, Bool.true_and, h100] at h2
                         rw [e6] at h1
                         have h3 : one true = 1 := rfl
                         have h4 : one false = 0 := rfl
                         have h5 := congrArg one h100
                         omega
                       refine ih2 (v + 1) υ _ _ (by omega) (by omega) (by omega) fco fval fmo ?_
                       have ec : (v + 1 - σ 12 (k : Int)).toNat = (v - σ 12 (k : Int)).toNat + 1 := by omega
                       have ev : σ 12 (k : Int) + (((v - σ 12 (k : Int)).toNat : Nat) : Int) = v := by omega
                       rw [ec, cPr_s, ev]
                       cases hov : okv (σ 17) (k : Int) v with
                       | false => rw [if_neg (by decide), List.append_nil]; exact frel
                       | true =>
                         rw [if_pos rfl, List.map_append, List.foldl_append, fold_id _ (fun l hl => by obtain ⟨q, hq, rfl⟩ := List.mem_map.mp hl; exact hno q hq)]
                         exact frel)
                    | (refine ih2 (v + 1) υ _ _ (by omega) (by omega) (by omega) fco fval fmo ?_
                       have ec : (v + 1 - σ 12 (k : Int)).toNat = (v - σ 12 (k : Int)).toNat + 1 := by omega
                       have ev : σ 12 (k : Int) + (((v - σ 12 (k : Int)).toNat : Nat) : Int) = v := by omega
                       rw [ec, cPr_s, ev]
                       have hov : okv (σ 17) (k : Int) v = false := by
                         unfold okv
                         rw [decide_eq_false h120.1, decide_eq_false h120.2]; rfl
                       rw [hov, if_neg (by decide), List.append_nil]; exact frel)
                    | (refine ih2 (v + 1) _ _ _ (by omega) (by omega) (by omega) (fun c hc => ?_) (fun j hj => ?_) (fun w a b => ?_) ?_
                       · have h1 : c ≠ 53 := fun e => hc (Or.inl e)
                         rw [wr_ne h1]
                         exact p1 c hc
                       · rw [wr_ne (by decide), p2 j (by omega), pf_app_lt (by omega)]
                       · have hp9 := p3 w a b
                         rw [wr_at]
                         by_cases ew : w = σ 14 (k : Int)
                         · subst ew
                           rw [if_pos rfl]
                           omega
                         · rw [if_neg ew, hp9, wr_at, if_neg ew, wr_ne (by decide)]
                           exact fmo w a b
                       · have e7 : ((List.map (fun q => pre ++ q) (cPr σ k m (v + 1 - σ 12 (k : Int)).toNat)).foldl (stp hop rch σ g n R) s) = (List.map (fun q => (pre ++ [v]) ++ q) (cEn σ (k + 1) m)).foldl (stp hop rch σ g n R) ((List.map (fun q => pre ++ q) (cPr σ k m (v - σ 12 (k : Int)).toNat)).foldl (stp hop rch σ g n R) s) := by
                           rw [ec, hcs, List.map_append, List.foldl_append]
                           congr 1
                           rw [List.map_map]
                           apply List.map_congr_left
                           intro q _
                           show pre ++ (v :: q) = pre ++ [v] ++ q
                           rw [List.append_assoc]
                           rfl
                         rw [e7]
                         exact hrelk _ _ _ p4 (fun c hc => by
                           have := hgc c hc
                           rw [wr_ne (by omega)]))
              · skip
                refine v_if_eq 242 126 dX10_choose_123 rfl rfl (fun _ => ?_) (fun h => absurd (by decide) h)
                refine v_iinc7 245 dX10_choose_242 rfl (by decide) rfl (⟨by omega, by omega⟩) ?_
                refine v_goto 79 dX10_choose_245 rfl ?_
                first
                  | (have hno : ∀ q, q ∈ (cEn σ (k + 1) m).map (fun s => v :: s) → stp hop rch σ g n R ((List.map (fun q => pre ++ q) (cPr σ k m (v - σ 12 (k : Int)).toNat)).foldl (stp hop rch σ g n R) s) (pre ++ q) = ((List.map (fun q => pre ++ q) (cPr σ k m (v - σ 12 (k : Int)).toNat)).foldl (stp hop rch σ g n R) s) := fun q hq => by
                       obtain ⟨q2, hq2, rfl⟩ := List.mem_map.mp hq
                       refine stp_lim (fun hl => ?_)
                       have h1 := hl (σ 14 (k : Int)) (by omega) (by omega)
                       have e6 : pre ++ v :: q2 = (pre ++ [v]) ++ q2 := by rw [List.append_assoc]; rfl
                       have h2 := cpl_cnt (σ := σ) (n := n) (m := m) (k := k + 1) (pre := pre ++ [v]) (s := q2) (by omega) (by rw [List.length_append, hlen]; rfl) (σ 14 (k : Int))
                       rw [ccnt_app hlen, decide_eq_true rfl, Bool.true_and, h100] at h2
                       rw [e6] at h1
                       have h3 : one true = 1 := rfl
                       have h4 : one false = 0 := rfl
                       have h5 := congrArg one h100
                       omega
                     refine ih2 (v + 1) υ _ _ (by omega) (by omega) (by omega) fco fval fmo ?_
                     have ec : (v + 1 - σ 12 (k : Int)).toNat = (v - σ 12 (k : Int)).toNat + 1 := by omega
                     have ev : σ 12 (k : Int) + (((v - σ 12 (k : Int)).toNat : Nat) : Int) = v := by omega
                     rw [ec, cPr_s, ev]
                     cases hov : okv (σ 17) (k : Int) v with
                     | false => rw [if_neg (by decide), List.append_nil]; exact frel
                     | true =>
                       rw [if_pos rfl, List.map_append, List.foldl_append, fold_id _ (fun l hl => by obtain ⟨q, hq, rfl⟩ := List.mem_map.mp hl; exact hno q hq)]
                       exact frel)
                  | (refine ih2 (v + 1) υ _ _ (by omega) (by omega) (by omega) fco fval fmo ?_
                     have ec : (v + 1 - σ 12 (k : Int)).toNat = (v - σ 12 (k : Int)).toNat + 1 := by omega
                     have ev : σ 12 (k : Int) + (((v - σ 12 (k : Int)).toNat : Nat) : Int) = v := by omega
                     rw [ec, cPr_s, ev]
                     have hov : okv (σ 17) (k : Int) v = false := by
                       unfold okv
                       rw [decide_eq_false h120.1, decide_eq_false h120.2]; rfl
                     rw [hov, if_neg (by decide), List.append_nil]; exact frel)
                  | (refine ih2 (v + 1) _ _ _ (by omega) (by omega) (by omega) (fun c hc => ?_) (fun j hj => ?_) (fun w a b => ?_) ?_
                     · have h1 : c ≠ 53 := fun e => hc (Or.inl e)
                       rw [wr_ne h1]
                       exact p1 c hc
                     · rw [wr_ne (by decide), p2 j (by omega), pf_app_lt (by omega)]
                     · have hp9 := p3 w a b
                       rw [wr_at]
                       by_cases ew : w = σ 14 (k : Int)
                       · subst ew
                         rw [if_pos rfl]
                         omega
                       · rw [if_neg ew, hp9, wr_at, if_neg ew, wr_ne (by decide)]
                         exact fmo w a b
                     · have e7 : ((List.map (fun q => pre ++ q) (cPr σ k m (v + 1 - σ 12 (k : Int)).toNat)).foldl (stp hop rch σ g n R) s) = (List.map (fun q => (pre ++ [v]) ++ q) (cEn σ (k + 1) m)).foldl (stp hop rch σ g n R) ((List.map (fun q => pre ++ q) (cPr σ k m (v - σ 12 (k : Int)).toNat)).foldl (stp hop rch σ g n R) s) := by
                         rw [ec, hcs, List.map_append, List.foldl_append]
                         congr 1
                         rw [List.map_map]
                         apply List.map_congr_left
                         intro q _
                         show pre ++ (v :: q) = pre ++ [v] ++ q
                         rw [List.append_assoc]
                         rfl
                       rw [e7]
                       exact hrelk _ _ _ p4 (fun c hc => by
                         have := hgc c hc
                         rw [wr_ne (by omega)]))
    refine v_iload2 1 dX10_choose_0 rfl ?_
    refine v_aload0 2 dX10_choose_1 rfl ?_
    refine v_getR 5 dX10_choose_2 rfl fX10_31 rfl rfl ?_
    refine v_getIe 8 0 (n) dX10_choose_5 rfl fX10_68 rfl rfl rfl (by rw [hco 1 (nscr rfl)]; exact hn) ?_
    refine v_icmp_le 12 11 dX10_choose_8 rfl rfl (fun h8 => ?_) (fun h8 => ?_)
    · skip
      refine v_aload1 13 dX10_choose_12 rfl ?_
      refine v_iload3 14 dX10_choose_13 rfl ?_
      refine v_iload4 16 dX10_choose_14 rfl ?_
      refine v_aload0 17 dX10_choose_16 rfl ?_
      refine v_getR 20 dX10_choose_17 rfl fX10_28 rfl rfl ?_
      refine v_iload2 21 dX10_choose_20 rfl ?_
      refine v_ialde 22 (σ 55 (k : Int)) dX10_choose_21 rfl rfl (⟨by omega, by omega⟩) (by rw [hco 55 (nscr rfl)]) ?_
      refine v_iadd 23 dX10_choose_22 rfl (⟨by omega, by omega⟩) ?_
      refine v_iload5 25 dX10_choose_23 rfl ?_
      refine v_caI3 nGoalH Mh 28 (Or.inl rfl) dX10_choose_25 rfl hCAh hshp hclh (by omega) (Nat.le_of_ble_eq_true rfl) ?_
      refine HH (d - 1) τ s _ _ _ _ (by omega) hrel hbl (fun h25 => ?_) (fun h25 => ?_)
      · skip
        refine v_if_eq 32 31 dX10_choose_28 rfl rfl (fun h => absurd h (by decide)) (fun _ => ?_)
        refine v_vretV dX10_choose_31 rfl ?_
        have hall : ∀ q, q ∈ cEn σ k (m + 1) → stp hop rch σ g n R s (pre ++ q) = s := fun q hq => stp_hop (mono τ s _ _ _ _ _ _ hrel h25 (cpl_cost hw hkm hlen hpb hq) (cpl_wor hw (by omega) hwbs (m + 1) k pre q hkm hlen hq) (cpl_br hw hkm hlen) (cbr_lt hw _ _ _))
        refine hk0 τ hco hval (fun _ _ _ => rfl) ?_
        rw [fold_id _ (fun l hl => by obtain ⟨q, hq, rfl⟩ := List.mem_map.mp hl; exact hall q hq)]
        exact hrel
      · skip
        refine v_if_eq 32 31 dX10_choose_28 rfl rfl (fun _ => ?_) (fun h => absurd (by decide) h)
        refine v_iload2 33 dX10_choose_32 rfl ?_
        refine v_aload0 34 dX10_choose_33 rfl ?_
        refine v_getR 37 dX10_choose_34 rfl fX10_31 rfl rfl ?_
        refine v_getIe 40 0 (n) dX10_choose_37 rfl fX10_68 rfl rfl rfl (by rw [hco 1 (nscr rfl)]; exact hn) ?_
        refine v_icmp_ne 57 43 dX10_choose_40 rfl rfl (fun h40 => ?_) (fun h40 => ?_)
        · skip
          refine v_aload0 58 dX10_choose_57 rfl ?_
          refine v_getR 61 dX10_choose_58 rfl fX10_31 rfl rfl ?_
          refine v_getR 64 dX10_choose_61 rfl fX10_92 rfl rfl ?_
          refine v_iload2 65 dX10_choose_64 rfl ?_
          refine v_ialde 66 (σ 14 (k : Int)) dX10_choose_65 rfl rfl (⟨by omega, by omega⟩) (by rw [hco 14 (nscr rfl)]) ?_
          refine v_istore6 68 dX10_choose_66 rfl (by decide) ?_
          refine v_aload0 69 dX10_choose_68 rfl ?_
          refine v_getR 72 dX10_choose_69 rfl fX10_31 rfl rfl ?_
          refine v_getR 75 dX10_choose_72 rfl fX10_95 rfl rfl ?_
          refine v_iload2 76 dX10_choose_75 rfl ?_
          refine v_ialde 77 (σ 12 (k : Int)) dX10_choose_76 rfl rfl (⟨by omega, by omega⟩) (by rw [hco 12 (nscr rfl)]) ?_
          refine v_istore7 79 dX10_choose_77 rfl (by decide) ?_
          exact LV _ _ _ _ _ (Nat.lt_succ_self _) (Int.le_refl _) (by omega) hco hval (fun _ _ _ => rfl) (by rw [Int.sub_self]; exact hrel)
        · skip
          exfalso; omega
    · skip
      refine v_vretV dX10_choose_11 rfl ?_
      exfalso; omega
