/-- the class's cells but for those that a whole search writes -/
def scrK (c : Nat) : Prop := scr c ∨ c = 55
def CoreK (σ τ : Mem) : Prop := ∀ c : Nat, ¬ scrK c → τ c = σ c
theorem CoreK.rf (σ : Mem) : CoreK σ σ := fun _ _ => rfl
theorem CoreK.tr {σ τ υ : Mem} (h : CoreK σ τ) (h2 : CoreK τ υ) : CoreK σ υ := fun c a => (h2 c a).trans (h c a)
theorem CoreS.toK {σ τ : Mem} (h : CoreS σ τ) : CoreK σ τ := fun c hc => h c (fun q => hc (Or.inl q))
theorem nscrK {c : Nat} (h : (c == 53 || c == 54 || c == 7 || c == 8 || c == 9 || c == 56 || c == 57 || c == 55) = false) : ¬ scrK c := by
  intro q
  rcases q with (q | q | q | q | q | q | q) | q <;> subst q <;> cases h
theorem cbv_coreK {σ τ : Mem} {n : Nat} (h : CoreK σ τ) (hb : CB σ n) (hne : σ 3 1 ≠ -5) : cbv τ = cbv σ := by
  have h3 : τ 3 = σ 3 := h 3 (nscrK rfl)
  have hr := hb.resolve_left hne
  funext d
  show τ (34 + (τ 3 1).toNat) d = σ (34 + (σ 3 1).toNat) d
  rw [h3, h (34 + (σ 3 1).toNat) (by unfold scrK scr; omega)]
theorem CB.coreK {σ τ : Mem} {n : Nat} (hb : CB σ n) (h : CoreK σ τ) : CB τ n := by
  have h3 : τ 3 = σ 3 := h 3 (nscrK rfl)
  by_cases hne : σ 3 1 = -5
  · exact Or.inl (by rw [h3]; exact hne)
  · have hr := hb.resolve_left hne
    have e := cbv_coreK h hb hne
    exact Or.inr ⟨by rw [h3]; exact hr.1, by rw [h3]; exact hr.2.1, fun d a b => by rw [e]; exact hr.2.2 d a b⟩
theorem CW.coreK {σ τ : Mem} {n R F : Nat} (hw : CW σ n R F) (h : CoreK σ τ) : CW τ n R F := by
  obtain ⟨h1, h2, h3, h4, h5, h6, h7, h8, h9⟩ := hw
  refine ⟨?_, ?_, ?_, fun d v a b c e => ?_, ?_, h6.coreK h, ?_, ?_, ?_⟩
  · rw [h 1 (nscrK rfl), h 2 (nscrK rfl)]; exact h1
  · rw [h 27 (nscrK rfl), h 28 (nscrK rfl), h 29 (nscrK rfl), h 30 (nscrK rfl)]; exact h2
  · rw [h 12 (nscrK rfl), h 13 (nscrK rfl), h 14 (nscrK rfl), h 15 (nscrK rfl), h 16 (nscrK rfl), h 17 (nscrK rfl)]; exact h3
  · rw [h (19 + d.toNat) (by unfold scrK scr; omega)]; exact h4 d v a b c e
  · rw [h 25 (nscrK rfl)]; exact h5
  · rw [h 0 (nscrK rfl)]; exact h7
  · rw [h 31 (nscrK rfl), dwB_core (h 27 (nscrK rfl)) (h 28 (nscrK rfl)) (h 29 (nscrK rfl))]; exact h8
  · rw [h 32 (nscrK rfl), cvB_core (h 27 (nscrK rfl)) (h 29 (nscrK rfl))]; exact h9
theorem mv_coreK {σ τ : Mem} {n : Nat} (h : CoreK σ τ) (hb : CB σ n) (p : Int → Int) (d : Int) : mv (τ 3 1) (cbv τ) p d = mv (σ 3 1) (cbv σ) p d := by
  have h3 : τ 3 = σ 3 := h 3 (nscrK rfl)
  rw [h3]
  by_cases hne : σ 3 1 = -5
  · unfold mv
    rw [decide_eq_false (fun q => q.1 hne), decide_eq_false (fun q => q.1 hne)]
  · rw [cbv_coreK h hb hne]
theorem ccst_coreK {σ τ : Mem} {n : Nat} (h : CoreK σ τ) (hb : CB σ n) (p : Int → Int) (d : Int) : cst (τ 3 1) (cbv τ) (τ 15) (τ 16) p d = cst (σ 3 1) (cbv σ) (σ 15) (σ 16) p d := by
  unfold cst
  rw [mv_coreK h hb, h 15 (nscrK rfl), h 16 (nscrK rfl)]
  by_cases hm : mv (σ 3 1) (cbv σ) p d = true
  · have hq : σ 3 1 ≠ -5 ∧ p d ≠ cbv σ d := of_decide_eq_true hm
    rw [cbv_coreK h hb hq.1]
  · rw [if_neg hm, if_neg hm]
theorem baF_coreK {σ τ : Mem} (h : CoreK σ τ) (p ff : Int → Int) (k r : Nat) : baF τ p ff k r = baF σ p ff k r := by
  unfold baF
  rw [dwB_core (h 27 (nscrK rfl)) (h 28 (nscrK rfl)) (h 29 (nscrK rfl)), cvB_core (h 27 (nscrK rfl)) (h 29 (nscrK rfl)), h 27 (nscrK rfl), h 28 (nscrK rfl), h 29 (nscrK rfl), h 30 (nscrK rfl)]
theorem bnF_coreK {σ τ : Mem} (h : CoreK σ τ) (ff : Int → Int) (r : Nat) : bnF τ ff r = bnF σ ff r := by
  unfold bnF
  rw [h 27 (nscrK rfl), h 30 (nscrK rfl)]
theorem pBF_coreK {σ τ : Mem} (h : CoreK σ τ) (p ff : Int → Int) (r : Nat) : ∀ k : Nat, pBF τ p ff k r = pBF σ p ff k r
  | 0 => bnF_coreK h ff r
  | k + 1 => by show (pBF τ p ff k r || baF τ p ff k r) = (pBF σ p ff k r || baF σ p ff k r); rw [pBF_coreK h p ff r k, baF_coreK h]
theorem ccost_coreK {σ τ : Mem} {n : Nat} (h : CoreK σ τ) (hb : CB σ n) (p : Int → Int) (k : Nat) : ccost τ p k = ccost σ p k := sumI_congr (fun j _ => ccst_coreK h hb p _)
theorem cwor_coreK {σ τ : Mem} (h : CoreK σ τ) (p : Int → Int) {k : Nat} (hk : k ≤ 6) : cwor τ p k = cwor σ p k := sumI_congr (fun j hj => by
  show τ (19 + ((j : Int)).toNat) _ = σ (19 + ((j : Int)).toNat) _
  rw [h (19 + ((j : Int)).toNat) (by unfold scrK scr; omega)])
theorem ccnt_coreK {σ τ : Mem} {n : Nat} (h : CoreK σ τ) (hb : CB σ n) (p : Int → Int) (w : Int) (k : Nat) : ccnt τ p w k = ccnt σ p w k := sumI_congr (fun j _ => by
  show one (decide (τ 14 (j : Int) = w) && mv _ _ p (j : Int)) = one (decide (σ 14 (j : Int) = w) && mv _ _ p (j : Int))
  rw [h 14 (nscrK rfl), mv_coreK h hb])
theorem cbr_coreK {σ τ : Mem} (h : CoreK σ τ) (g : Nat → Bool) (R : Nat) (p : Int → Int) (k : Nat) : cbr τ g R p k = cbr σ g R p k := bitsN_congr (fun r _ => by rw [pBF_coreK h, h 51 (nscrK rfl)])
theorem stp_coreK {St : Type} {hop : St → Int → Int → Nat → Prop} {rch : St → List Int → Int → Int → Nat → St} {σ τ : Mem} {g : Nat → Bool} {n R : Nat} (h : CoreK σ τ) (hb : CB σ n) (hn : n ≤ 6) : stp hop rch τ g n R = stp hop rch σ g n R := by
  funext s l
  unfold stp LimOK
  rw [ccost_coreK h hb, cwor_coreK h _ hn, cbr_coreK h, h 52 (nscrK rfl)]
  have e : ∀ w, ccnt τ (pf l) w n = ccnt σ (pf l) w n := fun w => ccnt_coreK h hb _ _ _
  rw [show (∀ w : Int, 0 ≤ w → w < 4 → ccnt τ (pf l) w n ≤ σ 52 w) = (∀ w : Int, 0 ≤ w → w < 4 → ccnt σ (pf l) w n ≤ σ 52 w) from propext ⟨fun q w a b => by rw [← e]; exact q w a b, fun q w a b => by rw [e]; exact q w a b⟩]
theorem cEn_coreK {σ τ : Mem} (h : CoreK σ τ) (k m : Nat) : cEn τ k m = cEn σ k m := by
  unfold cEn
  rw [h 12 (nscrK rfl), h 13 (nscrK rfl), h 17 (nscrK rfl)]
theorem cEn_cnt {σ : Mem} {n R F : Nat} (hw : CW σ n R F) : ∀ (m k : Nat), k + m ≤ n → (cEn σ k m).length ≤ 6 ^ m
  | 0, _, _ => by simp [En]
  | m + 1, k, h => by
    have ih := cEn_cnt hw m (k + 1) (by omega)
    have hd := hw.2.2.1 (k : Int) (by omega) (by omega)
    have hl : (dom (σ 12) (σ 13) (σ 17) (k : Int)).length ≤ 6 := by
      unfold dom
      split
      · have : ∀ (c : Nat) (v : Int), (upto v c).length = c := by
          intro c
          induction c with
          | zero => intro v; rfl
          | succ c ih => intro v; show (upto (v + 1) c).length + 1 = c + 1; rw [ih]
        rw [this]
        omega
      · simp
    have key : ∀ (D : List Int) (E : List (List Int)), (D.flatMap (fun v => E.map (fun s => v :: s))).length = D.length * E.length := by
      intro D E
      induction D with
      | nil => simp
      | cons v D ih => rw [List.flatMap_cons, List.length_append, ih, List.length_map, List.length_cons, Nat.succ_mul]; omega
    show ((dom (σ 12) (σ 13) (σ 17) (k : Int)).flatMap _).length ≤ 6 ^ (m + 1)
    rw [key, Nat.pow_succ, Nat.mul_comm (6 ^ m) 6]
    exact Nat.mul_le_mul hl ih
set_option maxRecDepth 100000 in
set_option maxHeartbeats 4000000 in
theorem X10_seek {St : Type} {Rel : Mem → St → Prop} {hop : St → Int → Int → Nat → Prop} {rch : St → List Int → Int → Int → Nat → St} {wt : St → Nat} {Mh Mr : MD} {cg n : Nat} {gcs : Nat → Prop} (gs : GS Rel hop rch wt Mh Mr cg n gcs) {σ : Mem} {R F d : Nat} {s : St} {K : Mem → Prop} (hw : CW σ n R F) {g : Nat → Bool} (hcnt : σ 6 6 = (bitsN g R : Int)) (hlim : ∀ p : Int, 0 ≤ p → p < 4 → 0 ≤ σ 52 p ∧ σ 52 p ≤ 6) (hrel : Rel σ s) (hwt0 : wt s = 0) (hd : 14 ≤ d) (hk0 : ∀ υ : Mem, CoreK σ υ → Rel υ ((cEn σ 0 n).foldl (stp hop rch σ g n R) s) → K υ) : Run mX10_seek d [.inr (some 6), .inr (some cg)] σ (RV K) := by
  have hw9 := hw
  obtain ⟨⟨hn, hn6, hR, hR12, hF, hF6⟩, hru, hde, hwo, hli, hcb, hwf, hbd, hbc⟩ := hw9
  have gs0 := gs
  obtain ⟨⟨ci, fl, T, N, hshp, hclh, hclr⟩, hCAh, hCAr, hgc, hrelk, HH, RR, mono, hwtr⟩ := gs0
  refine Run_of (ls := [.inr (some 6), .inr (some cg), .inr none]) (by decide) (Nat.le_of_ble_eq_true rfl) rfl ?_
  have hmid : ∀ (τ : Mem) (z : AV), (∀ c, c ≠ 55 → τ c = σ c) → (∀ j : Nat, j ≤ n → 0 ≤ τ 55 (j : Int) ∧ τ 55 (j : Int) ≤ 100 * ((n : Int) - j)) → τ 55 (n : Int) = 0 → (∀ j : Nat, j < n → ∀ v : Int, v ∈ dom (σ 12) (σ 13) (σ 17) (j : Int) → σ (19 + j) v + τ 55 ((j + 1 : Nat) : Int) ≤ τ 55 (j : Int)) → V mX10_seek d (RV K) 56 [.inr (some 6), .inr (some cg), z] [] τ := by
    intro τ z t1 t2 t3 t4
    have hgo : ∀ (υ : Mem) (z : AV), (∀ c, c ≠ 53 → υ c = τ c) → (∀ w : Int, 0 ≤ w → w < 4 → υ 53 w = 0) → V mX10_seek d (RV K) 76 [.inr (some 6), .inr (some cg), z] [] υ := by
      intro υ z g1 g2
      have hck : CoreK σ υ := fun c hc => by rw [g1 c (fun e => hc (Or.inl (Or.inl e)))]; exact t1 c (fun e => hc (Or.inr e))
      have hwu := hw.coreK hck
      have h55 : υ 55 = τ 55 := g1 55 (by decide)
      refine v_aload0 77 dX10_seek_76 rfl ?_
      refine v_aload1 78 dX10_seek_77 rfl ?_
      refine v_iconst 79 dX10_seek_78 rfl ⟨by decide +kernel, by decide⟩ ?_
      refine v_iconst 80 dX10_seek_79 rfl ⟨by decide +kernel, by decide⟩ ?_
      refine v_iconst 81 dX10_seek_80 rfl ⟨by decide +kernel, by decide⟩ ?_
      refine v_aload0 82 dX10_seek_81 rfl ?_
      refine v_getR 85 dX10_seek_82 rfl fX10_35 rfl rfl ?_
      refine v_aload0 86 dX10_seek_85 rfl ?_
      refine v_getR 89 dX10_seek_86 rfl fX10_9 rfl rfl ?_
      refine v_cvI1 mX8_brokenByNone 92 dX10_seek_89 rfl kX10_74 rfl rfl (by omega) (Nat.le_of_ble_eq_true rfl) ?_
      refine X8_brokenByNone hwu rfl ?_
      refine v_aload0 93 dX10_seek_92 rfl ?_
      refine v_getIe 96 6 ((bitsN g R : Int)) dX10_seek_93 rfl fX10_18 rfl rfl rfl (by rw [hck 6 (nscrK rfl)]; exact hcnt) ?_
      refine v_iand 97 dX10_seek_96 rfl ?_
      refine v_cvV5 mX10_choose 100 dX10_seek_97 rfl kX10_78 rfl rfl (by omega) (Nat.le_of_ble_eq_true rfl) ?_
      rw [band_bits _ _ hR12]
      refine Run_args (vs' := [.inr (some 6), .inr (some cg), .inl ((0 : Nat) : Int), .inl (ccost υ (pf []) 0), .inl (cwor υ (pf []) 0), .inl ((cbr υ g R (pf []) 0 : Nat) : Int)]) rfl ?_
      have hs5 : (cEn υ 0 n).length ≤ 46656 := by
        have h1 : (cEn υ 0 n).length ≤ 6 ^ n := cEn_cnt hwu n 0 (by omega)
        have h3 : 6 ^ n ≤ 6 ^ 6 := Nat.pow_le_pow_right (by omega) hn6
        have h4 : (6 : Nat) ^ 6 = 46656 := by decide
        omega
      refine choose_gen gs hwu (by rw [hck 6 (nscrK rfl)]; exact hcnt) (fun p a b => by rw [hck 52 (nscrK rfl)]; exact hlim p a b) (fun k hk => by rw [h55]; have := t2 k hk; omega) (by rw [h55]; exact t3) (fun k hk v hv => by rw [hck 12 (nscrK rfl), hck 13 (nscrK rfl), hck 17 (nscrK rfl)] at hv; rw [h55, hck (19 + k) (by unfold scrK scr; omega)]; exact t4 k hk v hv) n 0 (d - 1) [] υ s _ (by omega) rfl (fun j hj => by omega) (CoreS.rf _) (fun j hj => by omega) (fun w a b => ⟨by rw [g2 w a b]; rfl, by rw [hck 52 (nscrK rfl)]; exact (hlim w a b).1⟩) (hrelk _ _ _ hrel (fun c hc => by
        have := hgc c hc
        rw [g1 c (by omega)]; exact t1 c (by omega))) (by omega) (by omega) (fun ω p1 p2 p3 p4 => ?_)
      refine v_vretV dX10_seek_100 rfl ?_
      refine hk0 ω (hck.tr p1.toK) ?_
      have e9 : (List.map (fun q => ([] : List Int) ++ q) (cEn υ 0 n)) = cEn σ 0 n := by
        have : (fun q : List Int => ([] : List Int) ++ q) = id := by funext q; rfl
        rw [this, List.map_id, cEn_coreK hck]
      rw [e9, stp_coreK hck hcb hn6] at p4
      exact p4
    have LM : ∀ (k : Nat) (i : Nat) (υ : Mem), 4 - i < k → i ≤ 4 → (∀ c, c ≠ 53 → υ c = τ c) → (∀ w : Int, 0 ≤ w → w < i → υ 53 w = 0) → V mX10_seek d (RV K) 58 [.inr (some 6), .inr (some cg), .inl (i : Int)] [] υ := by
      intro k
      induction k with
      | zero => intros; omega
      | succ k ih =>
          intro i υ hk hi g1 g2
          refine v_iload2 59 dX10_seek_58 rfl ?_
          refine v_iconst 60 dX10_seek_59 rfl ⟨by decide +kernel, by decide⟩ ?_
          refine v_icmp_ge 76 63 dX10_seek_60 rfl rfl (fun h60 => ?_) (fun h60 => ?_)
          · skip
            obtain rfl : i = 4 := by omega
            exact hgo υ _ g1 (fun w a b => g2 w a (by omega))
          · skip
            refine v_aload0 64 dX10_seek_63 rfl ?_
            refine v_getR 67 dX10_seek_64 rfl fX10_22 rfl rfl ?_
            refine v_iload2 68 dX10_seek_67 rfl ?_
            refine v_iconst 69 dX10_seek_68 rfl ⟨by decide +kernel, by decide⟩ ?_
            refine v_iast 70 dX10_seek_69 rfl rfl (⟨by omega, by omega⟩) ?_
            refine v_iinc2 73 dX10_seek_70 rfl (by decide) rfl (⟨by omega, by omega⟩) ?_
            refine v_goto 58 dX10_seek_73 rfl ?_
            exact ih (i + 1) _ (by omega) (by omega) (fun c a => by rw [wr_ne a]; exact g1 c a) (fun j a b => by
              rw [wr_at]
              by_cases ej : j = (i : Int)
              · rw [if_pos ej]
              · rw [if_neg ej]; exact g2 j a (by omega))
    refine v_iconst 57 dX10_seek_56 rfl ⟨by decide +kernel, by decide⟩ ?_
    refine v_istore2 58 dX10_seek_57 rfl (by decide) ?_
    exact LM 5 0 τ (by decide) (by decide) (fun _ _ => rfl) (fun w a b => by omega)
  have LW : ∀ (k : Nat) (i0 : Nat) (τ : Mem), i0 < k → i0 ≤ n → (∀ c, c ≠ 55 → τ c = σ c) → (∀ j : Nat, i0 ≤ j → j ≤ n → 0 ≤ τ 55 (j : Int) ∧ τ 55 (j : Int) ≤ 100 * ((n : Int) - j)) → τ 55 (n : Int) = 0 → (∀ j : Nat, i0 ≤ j → j < n → ∀ v : Int, v ∈ dom (σ 12) (σ 13) (σ 17) (j : Int) → σ (19 + j) v + τ 55 ((j + 1 : Nat) : Int) ≤ τ 55 (j : Int)) → V mX10_seek d (RV K) 23 [.inr (some 6), .inr (some cg), .inl ((i0 : Int) - 1)] [] τ := by
    intro k
    induction k with
    | zero => intros; omega
    | succ k ih =>
        intro i0 τ hk hi g1 g2 g3 g4
        refine v_iload2 24 dX10_seek_23 rfl ?_
        refine v_if_lt 56 27 dX10_seek_24 rfl rfl (fun h24 => ?_) (fun h24 => ?_)
        · skip
          obtain rfl : i0 = 0 := by omega
          exact hmid τ _ g1 (fun j a => g2 j (by omega) a) g3 (fun j a => g4 j (by omega) a)
        · skip
          obtain ⟨i, rfl⟩ : ∃ i, i0 = i + 1 := ⟨i0 - 1, by omega⟩
          have ei : ((i + 1 : Nat) : Int) - 1 = (i : Int) := by omega
          rw [ei]
          have h55 := g2 (i + 1) (Nat.le_refl _) (by omega)
          have hckt : CoreK σ τ := fun c hc => g1 c (fun e => hc (Or.inr e))
          have hwt := hw.coreK hckt
          refine v_aload0 28 dX10_seek_27 rfl ?_
          refine v_getR 31 dX10_seek_28 rfl fX10_28 rfl rfl ?_
          refine v_iload2 32 dX10_seek_31 rfl ?_
          refine v_aload0 33 dX10_seek_32 rfl ?_
          refine v_getR 36 dX10_seek_33 rfl fX10_28 rfl rfl ?_
          refine v_iload2 37 dX10_seek_36 rfl ?_
          refine v_iconst 38 dX10_seek_37 rfl ⟨by decide +kernel, by decide⟩ ?_
          refine v_iadd 39 dX10_seek_38 rfl (⟨by omega, by omega⟩) ?_
          refine v_ialde 40 (τ 55 ((i + 1 : Nat) : Int)) dX10_seek_39 rfl rfl (⟨by omega, by omega⟩) (rfl) ?_
          refine v_aload0 41 dX10_seek_40 rfl ?_
          refine v_getR 44 dX10_seek_41 rfl fX10_43 rfl rfl ?_
          refine v_iload2 45 dX10_seek_44 rfl ?_
          refine v_cvI1 mX9_mostWorthAt 48 dX10_seek_45 rfl kX10_69 rfl rfl (by omega) (Nat.le_of_ble_eq_true rfl) ?_
          refine X9_mostWorthAt hwt (by omega) (by omega) (fun Wm w1 w2 => ?_)
          rw [g1 12 (by decide), g1 13 (by decide), g1 17 (by decide), g1 (19 + ((i : Int)).toNat) (by omega), Int.toNat_natCast] at w2
          skip
          refine v_iadd 49 dX10_seek_48 rfl (⟨by omega, by omega⟩) ?_
          refine v_iast 50 dX10_seek_49 rfl rfl (⟨by omega, by omega⟩) ?_
          refine v_iinc2 53 dX10_seek_50 rfl (by decide) rfl (⟨by omega, by omega⟩) ?_
          refine v_goto 23 dX10_seek_53 rfl ?_
          refine ih i _ (by omega) (by omega) (fun c a => by rw [wr_ne a]; exact g1 c a) (fun j a b => ?_) (by rw [wr_at, if_neg (by omega)]; exact g3) (fun j a b v hv => ?_)
          · rw [wr_at]
            by_cases ej : (j : Int) = (i : Int)
            · rw [if_pos ej]
              omega
            · rw [if_neg ej]
              exact g2 j (by omega) b
          · rw [wr_at, wr_at]
            by_cases ej : (j : Int) = (i : Int)
            · have ej2 : j = i := by omega
              subst ej2
              rw [if_neg (by omega), if_pos rfl]
              have hdd := hde (j : Int) (by omega) (by omega)
              have hv2 : σ 12 (j : Int) ≤ v ∧ v ≤ σ 13 (j : Int) ∧ (σ 17 (j : Int) = -5 ∨ σ 17 (j : Int) = v) := by
                unfold dom at hv
                by_cases hp : σ 17 (j : Int) = -5
                · rw [if_pos hp] at hv
                  have := upto_mem.mp hv
                  exact ⟨by omega, by omega, Or.inl hp⟩
                · rw [if_neg hp] at hv
                  have : v = σ 17 (j : Int) := by simpa using hv
                  exact ⟨by omega, by omega, Or.inr this.symm⟩
              have := w2 v hv2.1 hv2.2.1 hv2.2.2
              omega
            · rw [if_neg (by omega), if_neg ej]
              exact g4 j (by omega) b v hv
  refine v_aload0 1 dX10_seek_0 rfl ?_
  refine v_getR 4 dX10_seek_1 rfl fX10_28 rfl rfl ?_
  refine v_aload0 5 dX10_seek_4 rfl ?_
  refine v_getR 8 dX10_seek_5 rfl fX10_31 rfl rfl ?_
  refine v_getIe 11 0 (n) dX10_seek_8 rfl fX10_68 rfl rfl rfl (hn) ?_
  refine v_iconst 12 dX10_seek_11 rfl ⟨by decide +kernel, by decide⟩ ?_
  refine v_iast 13 dX10_seek_12 rfl rfl (⟨by omega, by omega⟩) ?_
  refine v_aload0 14 dX10_seek_13 rfl ?_
  refine v_getR 17 dX10_seek_14 rfl fX10_31 rfl rfl ?_
  refine v_getIe 20 0 (n) dX10_seek_17 rfl fX10_68 rfl rfl rfl (by rw [wr_ne (by decide)]; exact hn) ?_
  refine v_iconst 21 dX10_seek_20 rfl ⟨by decide +kernel, by decide⟩ ?_
  refine v_isub 22 dX10_seek_21 rfl (⟨by omega, by omega⟩) ?_
  refine v_istore2 23 dX10_seek_22 rfl (by decide) ?_
  exact LW (n + 1) n _ (by omega) (Nat.le_refl _) (fun c a => wr_ne a) (fun j a b => by
    have : j = n := by omega
    subst this
    rw [wr_eq]; omega) wr_eq (fun j a b => by omega)
