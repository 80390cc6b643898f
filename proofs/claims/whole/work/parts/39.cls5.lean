set_option maxRecDepth 100000 in
set_option maxHeartbeats 4000000 in
/-- what run leaves of the class's cells: the plan l, one more undo -/
def RunC (σ υ : Mem) (n : Nat) (l : List Int) : Prop := (∀ c : Nat, (c < 4 ∨ c = 5 ∨ (12 ≤ c ∧ c ≤ 41) ∨ 64 ≤ c) → υ c = σ c) ∧ υ 4 0 = cu1 σ + 1 ∧ (∀ j : Int, υ 50 j = if j = cu1 σ then (n : Int) else cum σ j) ∧ (∀ (i : Nat) (q : Int), i < 8 → 0 ≤ q → q < 6 → υ (42 + i) q = if (i : Int) = cu1 σ then σ 11 q else cuv σ i q) ∧ ∀ j : Int, υ 11 j = if 0 ≤ j ∧ j < n then pf l j else σ 11 j
set_option maxRecDepth 100000 in
set_option maxHeartbeats 4000000 in
theorem X11_run {d : Nat} {n R F : Nat} {σ : Mem} {K : Int → Mem → Prop} (hw : CW σ n R F) (hu : 0 ≤ σ 4 0 ∧ σ 4 0 ≤ 8) (hd : 16 ≤ d) (o1 : n = 0 → K (-3) σ) (o2 : n ≠ 0 → ∀ σa υ : Mem, AN σ σa (σ 26) (σ 25) → cBest σa (fun _ => true) (σ 0 11) n R = none → FrC σ υ → K (-5) υ) (o3 : n ≠ 0 → ∀ (σa : Mem) (c w : Int) (l : List Int), AN σ σa (σ 26) (σ 25) → cBest σa (fun _ => true) (σ 0 11) n R = some (c, w, l) → ∀ υ : Mem, RunC σ υ n l → K c υ) : Run mX11_run d [.inr (some 0)] σ (RI K) := by
  have hw0 := hw
  obtain ⟨⟨hn, hn6, hR, hR12, hF, hF6⟩, hru, hde, hwo, hli, hcb, hwf, hbd, hbc⟩ := hw0
  refine Run_of (ls := [.inr (some 0)]) (by decide) (Nat.le_of_ble_eq_true rfl) rfl ?_
  refine v_aload0 1 dX11_run_0 rfl ?_
  refine v_getR 4 dX11_run_1 rfl fX11_12 rfl rfl ?_
  refine v_getIe 7 0 (n) dX11_run_4 rfl fX11_101 rfl rfl rfl (hn) ?_
  refine v_if_ne 13 10 dX11_run_7 rfl rfl (fun h7 => ?_) (fun h7 => ?_)
  · skip
    refine v_aload0 14 dX11_run_13 rfl ?_
    refine v_getR 17 dX11_run_14 rfl fX11_51 rfl rfl ?_
    refine v_cvV0 mX10_asNow 20 dX11_run_17 rfl kX11_157 rfl rfl (by omega) (Nat.le_of_ble_eq_true rfl) ?_
    refine X10_asNow hR hR12 (by omega) (fun σa an hcnt => ?_)
    have hwa := hw.frC an.1
    have hlim : ∀ p : Int, 0 ≤ p → p < 4 → 0 ≤ σa 52 p ∧ σa 52 p ≤ 6 := fun p a b => by rw [an.2.2 p a b]; exact hli p a b
    refine v_aload0 21 dX11_run_20 rfl ?_
    refine v_getR 24 dX11_run_21 rfl fX11_58 rfl rfl ?_
    refine v_aload0 25 dX11_run_24 rfl ?_
    refine v_getIe 28 11 (σ 0 11) dX11_run_25 rfl fX11_89 rfl rfl rfl (by rw [an.1 0 (by omega)]) ?_
    refine v_cvV1 mX0_begin 31 dX11_run_28 rfl kX11_160 rfl rfl (by omega) (Nat.le_of_ble_eq_true rfl) ?_
    refine X0_begin hwf ?_
    refine v_aload0 32 dX11_run_31 rfl ?_
    refine v_getR 35 dX11_run_32 rfl fX11_51 rfl rfl ?_
    refine v_aload0 36 dX11_run_35 rfl ?_
    refine v_getR 39 dX11_run_36 rfl fX11_58 rfl rfl ?_
    refine v_cvV1 mX10_seek 42 dX11_run_39 rfl kX11_164 rfl rfl (by omega) (Nat.le_of_ble_eq_true rfl) ?_
    have hck0 : CoreK σa (wr (wr σa 7 0 0) 7 3 (σ 0 11)) := fun c hc => by
      have h7 : c ≠ 7 := fun e => hc (by unfold scrK scr; omega)
      rw [wr_ne h7, wr_ne h7]
    have hcba : CB σa n := hwa.2.2.2.2.2.1
    refine X10_seek (GS_best (σ 0 11) hn6) (s := none) (hwa.coreK hck0) (by rw [hck0 6 (nscrK rfl)]; exact hcnt) (fun p a b => by rw [hck0 52 (nscrK rfl)]; exact hlim p a b) ⟨wr_eq, by rw [wr_at, if_neg (by decide), wr_eq]⟩ rfl (by omega) (fun υ ck hrel => ?_)
    have ebest : (cEn (wr (wr σa 7 0 0) 7 3 (σ 0 11)) 0 n).foldl (stp (hopB (σ 0 11)) rchB (wr (wr σa 7 0 0) 7 3 (σ 0 11)) (fun _ => true) n R) none = cBest σa (fun _ => true) (σ 0 11) n R := cBest_coreK hck0 hcba hn6
    rw [ebest] at hrel
    have hfr := (hck0.tr ck).frC
    refine v_aload0 43 dX11_run_42 rfl ?_
    refine v_getR 46 dX11_run_43 rfl fX11_58 rfl rfl ?_
    refine v_getI 49 0 dX11_run_46 rfl fX11_168 rfl rfl rfl ?_
    refine v_if_ne 55 52 dX11_run_49 rfl rfl (fun h49 => ?_) (fun h49 => ?_)
    · skip
      refine v_aload0 56 dX11_run_55 rfl ?_
      refine v_getR 59 dX11_run_56 rfl fX11_33 rfl rfl ?_
      refine v_aload0 60 dX11_run_59 rfl ?_
      refine v_getR 63 dX11_run_60 rfl fX11_85 rfl rfl ?_
      refine v_aload0 64 dX11_run_63 rfl ?_
      refine v_getR 67 dX11_run_64 rfl fX11_12 rfl rfl ?_
      refine v_getIe 70 0 (n) dX11_run_67 rfl fX11_101 rfl rfl rfl (by rw [hfr 1 (by omega), an.1 1 (by omega)]; exact hn) ?_
      refine v_cvV2 mX6_push 73 dX11_run_70 rfl kX11_171 rfl rfl (by omega) (Nat.le_of_ble_eq_true rfl) ?_
      have hf2 := an.1.tr hfr
      obtain ⟨c, w, l, hbe, hz⟩ : ∃ c w l, cBest σa (fun _ => true) (σ 0 11) n R = some (c, w, l) ∧ υ 7 0 = 1 ∧ υ 7 1 = c ∧ υ 7 2 = w ∧ lst (υ 56) 0 n = l := by
        cases hb : cBest σa (fun _ => true) (σ 0 11) n R with
        | none => rw [hb] at hrel; exact absurd hrel.2 h49
        | some z =>
          obtain ⟨c, w, l⟩ := z
          rw [hb] at hrel
          exact ⟨c, w, l, rfl, hrel.2⟩
      refine X6_push (by rw [hf2 4 (by omega)]; exact hu) (by omega) (fun υ2 pp => ?_)
      refine v_aload0 74 dX11_run_73 rfl ?_
      refine v_getR 77 dX11_run_74 rfl fX11_58 rfl rfl ?_
      refine v_getR 80 dX11_run_77 rfl fX11_175 rfl rfl ?_
      refine v_iconst 81 dX11_run_80 rfl ⟨by decide +kernel, by decide⟩ ?_
      refine v_aload0 82 dX11_run_81 rfl ?_
      refine v_getR 85 dX11_run_82 rfl fX11_85 rfl rfl ?_
      refine v_iconst 86 dX11_run_85 rfl ⟨by decide +kernel, by decide⟩ ?_
      refine v_aload0 87 dX11_run_86 rfl ?_
      refine v_getR 90 dX11_run_87 rfl fX11_12 rfl rfl ?_
      refine v_getIe 93 0 (n) dX11_run_90 rfl fX11_101 rfl rfl rfl (by rw [pp.1 1 (by decide) (by omega), hfr 1 (by omega), an.1 1 (by omega)]; exact hn) ?_
      refine v_copy 96 dX11_run_93 rfl kX11_178 (by omega) rfl rfl (by omega) ?_
      refine v_aload0 97 dX11_run_96 rfl ?_
      refine v_getR 100 dX11_run_97 rfl fX11_58 rfl rfl ?_
      refine v_getIe 103 1 (c) dX11_run_100 rfl fX11_184 rfl rfl rfl (by rw [cp_ne (by decide), pp.1 7 (by decide) (by omega)]; exact hz.2.1) ?_
      refine v_iretI dX11_run_103 rfl ?_
      refine o3 (by omega) σa c w l an hbe _ ⟨fun c hc => ?_, ?_, fun j => ?_, fun i q a b e => ?_, fun j => ?_⟩
      · rw [cp_ne (by omega), pp.1 c (by omega) (by omega)]; exact hf2 c (by omega)
      · rw [cp_ne (by decide), pp.2.1]
        unfold cu1
        rw [hf2 4 (by omega)]
      · rw [cp_ne (by decide), pp.2.2.1]
        unfold cu1 cum
        rw [hf2 4 (by omega), hf2 50 (by omega)]
      · rw [cp_ne (by omega), pp.2.2.2 i q a b e]
        unfold cu1 cuv
        rw [hf2 4 (by omega), hf2 11 (by omega)]
        by_cases hi : (i : Int) = if σ 4 0 = 8 then 7 else σ 4 0
        · rw [if_pos hi, if_pos hi]
        · rw [if_neg hi, if_neg hi]
          by_cases h8 : σ 4 0 = 8 ∧ i < 7
          · rw [if_pos h8, if_pos h8, hf2 (43 + i) (by omega)]
          · rw [if_neg h8, if_neg h8, hf2 (42 + i) (by omega)]
      · rw [cp_at]
        by_cases cj : 0 ≤ j ∧ j < (n : Int)
        · rw [if_pos (by omega), if_pos cj, pp.1 56 (by decide) (by omega), show (0 : Int) + (j - 0) = j by omega, ← hz.2.2.2]
          have := pf_lst (a := υ 56) (n := n) (j := j.toNat) (by omega)
          rw [Int.toNat_of_nonneg cj.1] at this
          exact this.symm
        · rw [if_neg (by omega), if_neg cj, pp.1 11 (by decide) (by omega), hf2 11 (by omega)]
    · skip
      refine v_bipush 54 dX11_run_52 rfl ⟨by decide +kernel, by decide⟩ ?_
      refine v_iretI dX11_run_54 rfl ?_
      refine o2 (by omega) σa υ an ?_ (an.1.tr hfr)
      cases hb : cBest σa (fun _ => true) (σ 0 11) n R with
      | none => rfl
      | some z =>
        obtain ⟨c, w, l⟩ := z
        rw [hb] at hrel
        have h0 : υ 7 0 = 1 := hrel.2.1
        exfalso; omega
  · skip
    refine v_bipush 12 dX11_run_10 rfl ⟨by decide +kernel, by decide⟩ ?_
    refine v_iretI dX11_run_12 rfl ?_
    exact o1 (by omega)
set_option maxRecDepth 100000 in
set_option maxHeartbeats 4000000 in
theorem X11_staysWithout {d : Nat} {n R F : Nat} {f dd : Int} {σ : Mem} {K : Int → Mem → Prop} (hw : CW σ n R F) (hf6 : 0 ≤ f ∧ f < 6) (hdd : 0 ≤ dd ∧ dd < n) (hb5 : σ 3 1 ≠ -5) (hd : 16 ≤ d) (ht : ∀ σa υ : Mem, AN σ σa (fun q => if q = f then cbf σ f else σ 26 q) (σ 25) → FrC σ υ → (∃ (c w : Int) (l : List Int), cBest σa (fun _ => true) (σ 0 11) n R = some (c, w, l) ∧ pf l dd = cbv σ dd) → K 1 υ) (hf : ∀ σa υ : Mem, AN σ σa (fun q => if q = f then cbf σ f else σ 26 q) (σ 25) → FrC σ υ → ¬ (∃ (c w : Int) (l : List Int), cBest σa (fun _ => true) (σ 0 11) n R = some (c, w, l) ∧ pf l dd = cbv σ dd) → K 0 υ) : Run mX11_staysWithout d [.inr (some 0), .inl f, .inl dd] σ (RI K) := by
  have hw0 := hw
  obtain ⟨⟨hn, hn6, hR, hR12, hF, hF6⟩, hru, hde, hwo, hli, hcb, hwf, hbd, hbc⟩ := hw0
  refine Run_of (ls := [.inr (some 0), .inl f, .inl dd]) (by decide) (Nat.le_of_ble_eq_true rfl) rfl ?_
  refine v_aload0 1 dX11_staysWithout_0 rfl ?_
  refine v_getR 4 dX11_staysWithout_1 rfl fX11_51 rfl rfl ?_
  refine v_cvV0 mX10_asNow 7 dX11_staysWithout_4 rfl kX11_157 rfl rfl (by omega) (Nat.le_of_ble_eq_true rfl) ?_
  refine X10_asNow hR hR12 (by omega) (fun σa an hcnt => ?_)
  have hwa := hw.frC an.1
  have hlim : ∀ p : Int, 0 ≤ p → p < 4 → 0 ≤ σa 52 p ∧ σa 52 p ≤ 6 := fun p a b => by rw [an.2.2 p a b]; exact hli p a b
  refine v_aload0 8 dX11_staysWithout_7 rfl ?_
  refine v_getR 11 dX11_staysWithout_8 rfl fX11_51 rfl rfl ?_
  refine v_iload1 12 dX11_staysWithout_11 rfl ?_
  refine v_cvV1 mX10_turnBack 15 dX11_staysWithout_12 rfl kX11_266 rfl rfl (by omega) (Nat.le_of_ble_eq_true rfl) ?_
  refine X10_turnBack (n := n) (hcb.frC an.1) (by omega) (by omega) ?_
  have h3a : σa 3 = σ 3 := an.1 3 (by omega)
  have hb3 := hcb.resolve_left hb5
  have hff : (if σa 3 1 = -5 then -5 else cbf σa f) = cbf σ f := by
    rw [h3a, if_neg hb5]
    show σa (38 + (σa 3 1).toNat) f = σ (38 + (σ 3 1).toNat) f
    rw [h3a, an.1 (38 + (σ 3 1).toNat) (by omega)]
  rw [hff]
  have an2 : AN σ (wr σa 51 f (cbf σ f)) (fun q => if q = f then cbf σ f else σ 26 q) (σ 25) := ⟨fun c hc => by rw [wr_ne (by omega)]; exact an.1 c hc, fun q a b => by
    rw [wr_at]
    show _ = if q = f then cbf σ f else σ 26 q
    rw [an.2.1 q a b], fun p a b => by rw [wr_ne (by decide)]; exact an.2.2 p a b⟩
  have hcnt9 := hcnt
  have hlim9 := hlim
  generalize hse : wr σa 51 f (cbf σ f) = σb at an2 ⊢
  have hcnt : σb 6 6 = (bitsN (fun _ => true) R : Int) := by rw [← hse, wr_ne (by decide)]; exact hcnt9
  have hlim : ∀ p : Int, 0 ≤ p → p < 4 → 0 ≤ σb 52 p ∧ σb 52 p ≤ 6 := fun p a b => by rw [an2.2.2 p a b]; exact hli p a b
  have hwa := hw.frC an2.1
  refine v_aload0 16 dX11_staysWithout_15 rfl ?_
  refine v_getR 19 dX11_staysWithout_16 rfl fX11_58 rfl rfl ?_
  refine v_aload0 20 dX11_staysWithout_19 rfl ?_
  refine v_getIe 23 11 (σ 0 11) dX11_staysWithout_20 rfl fX11_89 rfl rfl rfl (by rw [an2.1 0 (by omega)]) ?_
  refine v_cvV1 mX0_begin 26 dX11_staysWithout_23 rfl kX11_160 rfl rfl (by omega) (Nat.le_of_ble_eq_true rfl) ?_
  refine X0_begin hwf ?_
  refine v_aload0 27 dX11_staysWithout_26 rfl ?_
  refine v_getR 30 dX11_staysWithout_27 rfl fX11_51 rfl rfl ?_
  refine v_aload0 31 dX11_staysWithout_30 rfl ?_
  refine v_getR 34 dX11_staysWithout_31 rfl fX11_58 rfl rfl ?_
  refine v_cvV1 mX10_seek 37 dX11_staysWithout_34 rfl kX11_164 rfl rfl (by omega) (Nat.le_of_ble_eq_true rfl) ?_
  have hck0 : CoreK σb (wr (wr σb 7 0 0) 7 3 (σ 0 11)) := fun c hc => by
    have h7 : c ≠ 7 := fun e => hc (by unfold scrK scr; omega)
    rw [wr_ne h7, wr_ne h7]
  have hcba : CB σb n := hwa.2.2.2.2.2.1
  refine X10_seek (GS_best (σ 0 11) hn6) (s := none) (hwa.coreK hck0) (by rw [hck0 6 (nscrK rfl)]; exact hcnt) (fun p a b => by rw [hck0 52 (nscrK rfl)]; exact hlim p a b) ⟨wr_eq, by rw [wr_at, if_neg (by decide), wr_eq]⟩ rfl (by omega) (fun υ ck hrel => ?_)
  have ebest : (cEn (wr (wr σb 7 0 0) 7 3 (σ 0 11)) 0 n).foldl (stp (hopB (σ 0 11)) rchB (wr (wr σb 7 0 0) 7 3 (σ 0 11)) (fun _ => true) n R) none = cBest σb (fun _ => true) (σ 0 11) n R := cBest_coreK hck0 hcba hn6
  rw [ebest] at hrel
  have hfr := (hck0.tr ck).frC
  have hf2 := an2.1.tr hfr
  have hcbu : CB υ n := hcb.frC hf2
  refine v_aload0 38 dX11_staysWithout_37 rfl ?_
  refine v_getR 41 dX11_staysWithout_38 rfl fX11_58 rfl rfl ?_
  refine v_getI 44 0 dX11_staysWithout_41 rfl fX11_168 rfl rfl rfl ?_
  refine v_if_eq 71 47 dX11_staysWithout_44 rfl rfl (fun h44 => ?_) (fun h44 => ?_)
  · skip
    refine v_iconst 72 dX11_staysWithout_71 rfl ⟨by decide +kernel, by decide⟩ ?_
    refine v_zretI dX11_staysWithout_72 rfl (Or.inl rfl) ?_
    first
      | (refine hf σb υ an2 hf2 (fun ⟨c2, w2, l2, e1, e2⟩ => ?_)
         rw [hbe] at e1
         cases e1
         have h5 : σ 3 1 ≠ -5 ∧ υ 56 dd ≠ cbv σ dd := of_decide_eq_true h61
         exact h5.2 (by rw [hvd]; exact e2))
      | (refine hf σb υ an2 hf2 (fun ⟨c2, w2, l2, e1, e2⟩ => ?_)
         rw [e1] at hrel
         have h0 : υ 7 0 = 1 := hrel.2.1
         omega)
  · skip
    refine v_aload0 48 dX11_staysWithout_47 rfl ?_
    refine v_getR 51 dX11_staysWithout_48 rfl fX11_26 rfl rfl ?_
    refine v_iload2 52 dX11_staysWithout_51 rfl ?_
    refine v_aload0 53 dX11_staysWithout_52 rfl ?_
    refine v_getR 56 dX11_staysWithout_53 rfl fX11_58 rfl rfl ?_
    refine v_getR 59 dX11_staysWithout_56 rfl fX11_175 rfl rfl ?_
    refine v_iload2 60 dX11_staysWithout_59 rfl ?_
    refine v_iald 61 dX11_staysWithout_60 rfl rfl (⟨by omega, by omega⟩) ?_
    refine v_cvI2 mX5_moves 64 dX11_staysWithout_61 rfl kX11_229 rfl rfl (by omega) (Nat.le_of_ble_eq_true rfl) ?_
    obtain ⟨c, w, l, hbe, hz⟩ : ∃ c w l, cBest σb (fun _ => true) (σ 0 11) n R = some (c, w, l) ∧ υ 7 0 = 1 ∧ υ 7 1 = c ∧ υ 7 2 = w ∧ lst (υ 56) 0 n = l := by
      cases hb : cBest σb (fun _ => true) (σ 0 11) n R with
      | none => rw [hb] at hrel; exact absurd hrel.2 h44
      | some z =>
        obtain ⟨c, w, l⟩ := z
        rw [hb] at hrel
        exact ⟨c, w, l, rfl, hrel.2⟩
    have hvd : υ 56 dd = pf l dd := by
      rw [← hz.2.2.2]
      have := pf_lst (a := υ 56) (n := n) (j := dd.toNat) (by omega)
      rw [Int.toNat_of_nonneg hdd.1] at this
      exact this.symm
    refine X5_moves hcbu (by omega) (by omega) (fun h61 => ?_) (fun h61 => ?_)
    all_goals rw [hf2 3 (by omega), cbv_frC hf2 hcb hb5] at h61
    · skip
      refine v_if_ne 71 67 dX11_staysWithout_64 rfl rfl (fun _ => ?_) (fun h => absurd (by decide) h)
      refine v_iconst 72 dX11_staysWithout_71 rfl ⟨by decide +kernel, by decide⟩ ?_
      refine v_zretI dX11_staysWithout_72 rfl (Or.inl rfl) ?_
      first
        | (refine hf σb υ an2 hf2 (fun ⟨c2, w2, l2, e1, e2⟩ => ?_)
           rw [hbe] at e1
           cases e1
           have h5 : σ 3 1 ≠ -5 ∧ υ 56 dd ≠ cbv σ dd := of_decide_eq_true h61
           exact h5.2 (by rw [hvd]; exact e2))
        | (refine hf σb υ an2 hf2 (fun ⟨c2, w2, l2, e1, e2⟩ => ?_)
           rw [e1] at hrel
           have h0 : υ 7 0 = 1 := hrel.2.1
           omega)
    · skip
      refine v_if_ne 71 67 dX11_staysWithout_64 rfl rfl (fun h => absurd h (by decide)) (fun _ => ?_)
      refine v_iconst 68 dX11_staysWithout_67 rfl ⟨by decide +kernel, by decide⟩ ?_
      refine v_goto 72 dX11_staysWithout_68 rfl ?_
      refine v_zretI dX11_staysWithout_72 rfl (Or.inr rfl) ?_
      have h5 : ¬ (σ 3 1 ≠ -5 ∧ υ 56 dd ≠ cbv σ dd) := of_decide_eq_false h61
      have h9 : υ 56 dd = cbv σ dd := Classical.not_not.mp (fun q => h5 ⟨hb5, q⟩)
      exact ht σb υ an2 hf2 ⟨c, w, l, hbe, by rw [← hvd]; exact h9⟩
set_option maxRecDepth 100000 in
set_option maxHeartbeats 4000000 in
def cwhy (σ : Mem) (n R : Nat) (dd f : Int) : Prop := σ 26 f ≠ cbf σ f ∧ ∀ σa : Mem, AN σ σa (fun q => if q = f then cbf σ f else σ 26 q) (σ 25) → ∃ (c w : Int) (l : List Int), cBest σa (fun _ => true) (σ 0 11) n R = some (c, w, l) ∧ pf l dd = cbv σ dd
def cwhyN (σ : Mem) (n R : Nat) (dd f : Int) : Prop := σ 26 f = cbf σ f ∨ ∃ σa : Mem, AN σ σa (fun q => if q = f then cbf σ f else σ 26 q) (σ 25) ∧ ¬ ∃ (c w : Int) (l : List Int), cBest σa (fun _ => true) (σ 0 11) n R = some (c, w, l) ∧ pf l dd = cbv σ dd
def cwhyY (σ : Mem) (n R : Nat) (dd f : Int) : Prop := σ 26 f ≠ cbf σ f ∧ ∃ σa : Mem, AN σ σa (fun q => if q = f then cbf σ f else σ 26 q) (σ 25) ∧ ∃ (c w : Int) (l : List Int), cBest σa (fun _ => true) (σ 0 11) n R = some (c, w, l) ∧ pf l dd = cbv σ dd
set_option maxRecDepth 100000 in
set_option maxHeartbeats 4000000 in
theorem X11_why {d : Nat} {n R F : Nat} {dd : Int} {σ : Mem} {K : Int → Mem → Prop} (hw : CW σ n R F) (hd : 18 ≤ d) (o1 : dd < 0 ∨ (n : Int) ≤ dd → K (-1) σ) (o2 : (0 ≤ dd ∧ dd < n) ∧ mv (σ 3 1) (cbv σ) (σ 11) dd = false → K (-3) σ) (o3 : ∀ f : Int, 0 ≤ f → f < F → cwhyY σ n R dd f → (∀ g : Int, 0 ≤ g → g < f → cwhyN σ n R dd g) → ∀ υ : Mem, FrC σ υ → (0 ≤ dd ∧ dd < n) ∧ mv (σ 3 1) (cbv σ) (σ 11) dd = true → K f υ) (o4 : (∀ g : Int, 0 ≤ g → g < F → cwhyN σ n R dd g) → ∀ υ : Mem, FrC σ υ → (0 ≤ dd ∧ dd < n) ∧ mv (σ 3 1) (cbv σ) (σ 11) dd = true → K (-5) υ) : Run mX11_why d [.inr (some 0), .inl dd] σ (RI K) := by
  have hw0 := hw
  obtain ⟨⟨hn, hn6, hR, hR12, hF, hF6⟩, hru, hde, hwo, hli, hcb, hwf, hbd, hbc⟩ := hw0
  refine Run_of (ls := [.inr (some 0), .inl dd, .inr none]) (by decide) (Nat.le_of_ble_eq_true rfl) rfl ?_
  refine v_aload0 1 dX11_why_0 rfl ?_
  refine v_getR 4 dX11_why_1 rfl fX11_12 rfl rfl ?_
  refine v_iload1 5 dX11_why_4 rfl ?_
  refine v_cvI1 mX3_has 8 dX11_why_5 rfl kX11_106 rfl rfl (by omega) (Nat.le_of_ble_eq_true rfl) ?_
  refine X3_has (fun h5 => ?_) (fun h5 => ?_)
  · skip
    refine v_if_ne 13 11 dX11_why_8 rfl rfl (fun _ => ?_) (fun h => absurd (by decide) h)
    refine v_aload0 14 dX11_why_13 rfl ?_
    refine v_getR 17 dX11_why_14 rfl fX11_26 rfl rfl ?_
    refine v_iload1 18 dX11_why_17 rfl ?_
    refine v_aload0 19 dX11_why_18 rfl ?_
    refine v_getR 22 dX11_why_19 rfl fX11_85 rfl rfl ?_
    refine v_iload1 23 dX11_why_22 rfl ?_
    refine v_iald 24 dX11_why_23 rfl rfl (⟨by omega, by omega⟩) ?_
    refine v_cvI2 mX5_moves 27 dX11_why_24 rfl kX11_229 rfl rfl (by omega) (Nat.le_of_ble_eq_true rfl) ?_
    refine X5_moves hcb (by omega) (by omega) (fun h24 => ?_) (fun h24 => ?_)
    all_goals have h24 : mv (σ 3 1) (cbv σ) (σ 11) dd = _ := h24
    · skip
      refine v_if_ne 33 30 dX11_why_27 rfl rfl (fun _ => ?_) (fun h => absurd (by decide) h)
      have hdd : 0 ≤ dd ∧ dd < n := by omega
      have hb5 : σ 3 1 ≠ -5 := (of_decide_eq_true h24).1
      have o3 := fun f a b c e τ g => o3 f a b c e τ g ⟨hdd, h24⟩
      have o4 := fun a τ g => o4 a τ g ⟨hdd, h24⟩
      have L : ∀ (k : Nat) (i : Nat) (τ : Mem), F - i < k → i ≤ F → FrC σ τ → (∀ g : Int, 0 ≤ g → g < i → cwhyN σ n R dd g) → V mX11_why d (RI K) 35 [.inr (some 0), .inl dd, .inl (i : Int)] [] τ := by
        intro k
        induction k with
        | zero => intros; omega
        | succ k ih =>
            intro i τ hk hi f1 hno
            refine v_iload2 36 dX11_why_35 rfl ?_
            refine v_aload0 37 dX11_why_36 rfl ?_
            refine v_getR 40 dX11_why_37 rfl fX11_19 rfl rfl ?_
            refine v_getIe 43 0 (F) dX11_why_40 rfl fX11_130 rfl rfl rfl (by rw [f1 2 (by omega)]; exact hF) ?_
            refine v_icmp_ge 83 46 dX11_why_43 rfl rfl (fun h43 => ?_) (fun h43 => ?_)
            · skip
              refine v_bipush 85 dX11_why_83 rfl ⟨by decide +kernel, by decide⟩ ?_
              refine v_iretI dX11_why_85 rfl ?_
              exact o4 (fun g a b => hno g a (by omega)) τ f1
            · skip
              have hwt := hw.frC f1
              have hcbt := hcb.frC f1
              have h3t : τ 3 = σ 3 := f1 3 (by omega)
              have hb3 := hcb.resolve_left hb5
              have h26 : τ 26 = σ 26 := f1 26 (by omega)
              have h25 : τ 25 = σ 25 := f1 25 (by omega)
              have h0t : τ 0 = σ 0 := f1 0 (by omega)
              have hcf : cbf τ = cbf σ := by
                funext q
                show τ (38 + (τ 3 1).toNat) q = σ (38 + (σ 3 1).toNat) q
                rw [h3t, f1 (38 + (σ 3 1).toNat) (by omega)]
              have hcv := cbv_frC f1 hcb hb5
              refine v_aload0 47 dX11_why_46 rfl ?_
              refine v_getR 50 dX11_why_47 rfl fX11_19 rfl rfl ?_
              refine v_getR 53 dX11_why_50 rfl fX11_140 rfl rfl ?_
              refine v_iload2 54 dX11_why_53 rfl ?_
              refine v_ialde 55 (σ 26 (i : Int)) dX11_why_54 rfl rfl (⟨by omega, by omega⟩) (by rw [h26]) ?_
              refine v_aload0 56 dX11_why_55 rfl ?_
              refine v_getR 59 dX11_why_56 rfl fX11_26 rfl rfl ?_
              refine v_iload2 60 dX11_why_59 rfl ?_
              refine v_cvI1 mX5_factThen 63 dX11_why_60 rfl kX11_232 rfl rfl (by omega) (Nat.le_of_ble_eq_true rfl) ?_
              refine X5_factThen hcbt (by omega) (by omega) ?_
              rw [h3t, if_neg hb5, hcf]
              refine v_icmp_eq 77 66 dX11_why_63 rfl rfl (fun h63 => ?_) (fun h63 => ?_)
              · skip
                refine v_iinc2 80 dX11_why_77 rfl (by decide) rfl (⟨by omega, by omega⟩) ?_
                refine v_goto 35 dX11_why_80 rfl ?_
                first
                  | (refine ih (i + 1) υ (by omega) (by omega) (f1.tr q2) (fun g a b => ?_)
                     by_cases eg : g = (i : Int)
                     · subst eg
                       exact Or.inr ⟨σa, q4, q3⟩
                     · exact hno g a (by omega))
                  | (refine ih (i + 1) τ (by omega) (by omega) f1 (fun g a b => ?_)
                     by_cases eg : g = (i : Int)
                     · subst eg
                       exact Or.inl (by omega)
                     · exact hno g a (by omega))
              · skip
                refine v_aload0 67 dX11_why_66 rfl ?_
                refine v_iload2 68 dX11_why_67 rfl ?_
                refine v_iload1 69 dX11_why_68 rfl ?_
                refine v_cvI2 mX11_staysWithout 72 dX11_why_69 rfl kX11_235 rfl rfl (by omega) (Nat.le_of_ble_eq_true rfl) ?_
                refine X11_staysWithout hwt (by omega) hdd (by rw [h3t]; exact hb5) (by omega) (fun σa υ q1 q2 q3 => ?_) (fun σa υ q1 q2 q3 => ?_)
                all_goals rw [hcf, h26, h25] at q1
                all_goals rw [h0t, hcv] at q3
                all_goals have q4 : AN σ σa (fun q => if q = (i : Int) then cbf σ (i : Int) else σ 26 q) (σ 25) := ⟨f1.tr q1.1, q1.2⟩
                · skip
                  refine v_if_eq 77 75 dX11_why_72 rfl rfl (fun h => absurd h (by decide)) (fun _ => ?_)
                  refine v_iload2 76 dX11_why_75 rfl ?_
                  refine v_iretI dX11_why_76 rfl ?_
                  exact o3 (i : Int) (by omega) (by omega) ⟨h63, σa, q4, q3⟩ hno υ (f1.tr q2)
                · skip
                  refine v_if_eq 77 75 dX11_why_72 rfl rfl (fun _ => ?_) (fun h => absurd (by decide) h)
                  refine v_iinc2 80 dX11_why_77 rfl (by decide) rfl (⟨by omega, by omega⟩) ?_
                  refine v_goto 35 dX11_why_80 rfl ?_
                  first
                    | (refine ih (i + 1) υ (by omega) (by omega) (f1.tr q2) (fun g a b => ?_)
                       by_cases eg : g = (i : Int)
                       · subst eg
                         exact Or.inr ⟨σa, q4, q3⟩
                       · exact hno g a (by omega))
                    | (refine ih (i + 1) τ (by omega) (by omega) f1 (fun g a b => ?_)
                       by_cases eg : g = (i : Int)
                       · subst eg
                         exact Or.inl (by omega)
                       · exact hno g a (by omega))
      refine v_iconst 34 dX11_why_33 rfl ⟨by decide +kernel, by decide⟩ ?_
      refine v_istore2 35 dX11_why_34 rfl (by decide) ?_
      exact L (F + 1) 0 σ (by omega) (by omega) (FrC.rf σ) (fun g a b => by omega)
    · skip
      refine v_if_ne 33 30 dX11_why_27 rfl rfl (fun h => absurd h (by decide)) (fun _ => ?_)
      refine v_bipush 32 dX11_why_30 rfl ⟨by decide +kernel, by decide⟩ ?_
      refine v_iretI dX11_why_32 rfl ?_
      first | exact o1 (by omega) | exact o2 ⟨by omega, h24⟩
  · skip
    refine v_if_ne 13 11 dX11_why_8 rfl rfl (fun h => absurd h (by decide)) (fun _ => ?_)
    refine v_iconst 12 dX11_why_11 rfl ⟨by decide +kernel, by decide⟩ ?_
    refine v_iretI dX11_why_12 rfl ?_
    first | exact o1 (by omega) | exact o2 ⟨by omega, h24⟩
set_option maxRecDepth 100000 in
set_option maxHeartbeats 4000000 in
noncomputable def ctold (σ : Mem) (n R : Nat) (what : Int) : Int :=
  if what = 0 then ccost σ (σ 11) n else if what = 1 then cwor σ (σ 11) n else if what = 2 then pop (cmvb σ 11 n) 12 else if what = 3 then (cmvb σ 11 n : Int) else if what = 4 then pop (bitsN (pB σ 11 26 n) R) 12 else if what = 5 then (bitsN (pB σ 11 26 n) R : Int) else if what = 6 then one (cd (cAlw σ (σ 11) n)) else if what = 7 then σ 3 1 else -2
set_option maxRecDepth 100000 in
set_option maxHeartbeats 4000000 in
theorem X11_told {d : Nat} {n R F : Nat} {what : Int} {σ : Mem} {K : Int → Mem → Prop} (hw : CW σ n R F) (hp : ∀ i : Int, 0 ≤ i → i < n → 0 ≤ σ 11 i ∧ σ 11 i ≤ 5) (hd : 6 ≤ d) (hk0 : K (ctold σ n R what) σ) : Run mX11_told d [.inr (some 0), .inl what] σ (RI K) := by
  have hw0 := hw
  obtain ⟨⟨hn, hn6, hR, hR12, hF, hF6⟩, hru, hde, hwo, hli, hcb, hwf, hbd, hbc⟩ := hw0
  have hmb : cmvb σ 11 n < 2 ^ n := bitsN_lt _ _
  have hm2 : 2 ^ n ≤ 2 ^ 6 := Nat.pow_le_pow_right (by omega) hn6
  have hm3 : (2 : Nat) ^ 6 = 64 := by decide
  have hbb : bitsN (pB σ 11 26 n) R < 2 ^ R := bitsN_lt _ _
  have hb2 : 2 ^ R ≤ 2 ^ 12 := Nat.pow_le_pow_right (by omega) hR12
  have hb3 : (2 : Nat) ^ 12 = 4096 := by decide
  refine Run_of (ls := [.inr (some 0), .inl what]) (by decide) (Nat.le_of_ble_eq_true rfl) rfl ?_
  refine v_iload1 1 dX11_told_0 rfl ?_
  rcases (show what < 0 ∨ what = 0 ∨ what = 1 ∨ what = 2 ∨ what = 3 ∨ what = 4 ∨ what = 5 ∨ what = 6 ∨ what = 7 ∨ 7 < what by omega) with hsw | hsw | hsw | hsw | hsw | hsw | hsw | hsw | hsw | hsw
  · skip
    refine v_tabOut 140 dX11_told_1 (by omega) rfl ?_
    refine v_bipush 142 dX11_told_140 rfl ⟨by decide +kernel, by decide⟩ ?_
    refine v_iretI dX11_told_142 rfl ?_
    have e9 : ctold σ n R what = -2 := by unfold ctold; rw [if_neg (by omega), if_neg (by omega), if_neg (by omega), if_neg (by omega), if_neg (by omega), if_neg (by omega), if_neg (by omega), if_neg (by omega)]
    rw [e9] at hk0
    exact hk0
  · skip
    refine v_tabIn (off := 47) 48 dX11_told_1 (by omega) (by omega) (by rw [hsw]; rfl) rfl ?_
    refine v_aload0 49 dX11_told_48 rfl ?_
    refine v_getR 52 dX11_told_49 rfl fX11_42 rfl rfl ?_
    refine v_aload0 53 dX11_told_52 rfl ?_
    refine v_getR 56 dX11_told_53 rfl fX11_85 rfl rfl ?_
    refine v_cvI1 mX9_costOf 59 dX11_told_56 rfl kX11_192 rfl rfl (by omega) (Nat.le_of_ble_eq_true rfl) ?_
    refine X9_costOf hw rfl hp (by omega) ?_
    refine v_iretI dX11_told_59 rfl ?_
    have e9 : ctold σ n R what = ccost σ (σ 11) n := by unfold ctold; simp [hsw]
    rw [e9] at hk0
    exact hk0
  · skip
    refine v_tabIn (off := 59) 60 dX11_told_1 (by omega) (by omega) (by rw [hsw]; rfl) rfl ?_
    refine v_aload0 61 dX11_told_60 rfl ?_
    refine v_getR 64 dX11_told_61 rfl fX11_42 rfl rfl ?_
    refine v_aload0 65 dX11_told_64 rfl ?_
    refine v_getR 68 dX11_told_65 rfl fX11_85 rfl rfl ?_
    refine v_cvI1 mX9_worthOf 71 dX11_told_68 rfl kX11_196 rfl rfl (by omega) (Nat.le_of_ble_eq_true rfl) ?_
    refine X9_worthOf hw rfl hp (by omega) ?_
    refine v_iretI dX11_told_71 rfl ?_
    have e9 : ctold σ n R what = cwor σ (σ 11) n := by unfold ctold; simp [hsw]
    rw [e9] at hk0
    exact hk0
  · skip
    refine v_tabIn (off := 71) 72 dX11_told_1 (by omega) (by omega) (by rw [hsw]; rfl) rfl ?_
    refine v_aload0 73 dX11_told_72 rfl ?_
    refine v_getR 76 dX11_told_73 rfl fX11_42 rfl rfl ?_
    refine v_aload0 77 dX11_told_76 rfl ?_
    refine v_getR 80 dX11_told_77 rfl fX11_85 rfl rfl ?_
    refine v_cvI1 mX9_movedBits 83 dX11_told_80 rfl kX11_199 rfl rfl (by omega) (Nat.le_of_ble_eq_true rfl) ?_
    refine X9_movedBits hw rfl (by omega) ?_
    refine v_csI1 mJ6_bitCount_0f7a4 86 dX11_told_83 rfl kX11_202 (by omega) (Nat.le_of_ble_eq_true rfl) ?_
    refine J6_bitCount_0f7a4 (by omega) ?_
    refine v_iretI dX11_told_86 rfl ?_
    have e9 : ctold σ n R what = pop (cmvb σ 11 n) 12 := by unfold ctold; simp [hsw]
    rw [e9] at hk0
    exact hk0
  · skip
    refine v_tabIn (off := 86) 87 dX11_told_1 (by omega) (by omega) (by rw [hsw]; rfl) rfl ?_
    refine v_aload0 88 dX11_told_87 rfl ?_
    refine v_getR 91 dX11_told_88 rfl fX11_42 rfl rfl ?_
    refine v_aload0 92 dX11_told_91 rfl ?_
    refine v_getR 95 dX11_told_92 rfl fX11_85 rfl rfl ?_
    refine v_cvI1 mX9_movedBits 98 dX11_told_95 rfl kX11_199 rfl rfl (by omega) (Nat.le_of_ble_eq_true rfl) ?_
    refine X9_movedBits hw rfl (by omega) ?_
    refine v_iretI dX11_told_98 rfl ?_
    have e9 : ctold σ n R what = (cmvb σ 11 n : Int) := by unfold ctold; simp [hsw]
    rw [e9] at hk0
    exact hk0
  · skip
    refine v_tabIn (off := 98) 99 dX11_told_1 (by omega) (by omega) (by rw [hsw]; rfl) rfl ?_
    refine v_aload0 100 dX11_told_99 rfl ?_
    refine v_cvI0 mX11_brokenNow 103 dX11_told_100 rfl kX11_207 rfl rfl (by omega) (Nat.le_of_ble_eq_true rfl) ?_
    refine X11_brokenNow hw hp (by omega) ?_
    refine v_csI1 mJ6_bitCount_0f7a4 106 dX11_told_103 rfl kX11_202 (by omega) (Nat.le_of_ble_eq_true rfl) ?_
    refine J6_bitCount_0f7a4 (by omega) ?_
    refine v_iretI dX11_told_106 rfl ?_
    have e9 : ctold σ n R what = pop (bitsN (pB σ 11 26 n) R) 12 := by unfold ctold; simp [hsw]
    rw [e9] at hk0
    exact hk0
  · skip
    refine v_tabIn (off := 106) 107 dX11_told_1 (by omega) (by omega) (by rw [hsw]; rfl) rfl ?_
    refine v_aload0 108 dX11_told_107 rfl ?_
    refine v_cvI0 mX11_brokenNow 111 dX11_told_108 rfl kX11_207 rfl rfl (by omega) (Nat.le_of_ble_eq_true rfl) ?_
    refine X11_brokenNow hw hp (by omega) ?_
    refine v_iretI dX11_told_111 rfl ?_
    have e9 : ctold σ n R what = (bitsN (pB σ 11 26 n) R : Int) := by unfold ctold; simp [hsw]
    rw [e9] at hk0
    exact hk0
  · skip
    refine v_tabIn (off := 111) 112 dX11_told_1 (by omega) (by omega) (by rw [hsw]; rfl) rfl ?_
    refine v_aload0 113 dX11_told_112 rfl ?_
    refine v_getR 116 dX11_told_113 rfl fX11_42 rfl rfl ?_
    refine v_aload0 117 dX11_told_116 rfl ?_
    refine v_getR 120 dX11_told_117 rfl fX11_85 rfl rfl ?_
    refine v_cvI1 mX9_isAllowed 123 dX11_told_120 rfl kX11_211 rfl rfl (by omega) (Nat.le_of_ble_eq_true rfl) ?_
    refine X9_isAllowed hw rfl (by omega) (fun h120 => ?_) (fun h120 => ?_)
    · skip
      refine v_if_eq 130 126 dX11_told_123 rfl rfl (fun h => absurd h (by decide)) (fun _ => ?_)
      refine v_iconst 127 dX11_told_126 rfl ⟨by decide +kernel, by decide⟩ ?_
      refine v_goto 131 dX11_told_127 rfl ?_
      refine v_iretI dX11_told_131 rfl ?_
      have e9 : ctold σ n R what = one (cd (cAlw σ (σ 11) n)) := by unfold ctold; simp [hsw]
      rw [e9] at hk0
      rw [cd_t h120] at hk0
      exact hk0
    · skip
      refine v_if_eq 130 126 dX11_told_123 rfl rfl (fun _ => ?_) (fun h => absurd (by decide) h)
      refine v_iconst 131 dX11_told_130 rfl ⟨by decide +kernel, by decide⟩ ?_
      refine v_iretI dX11_told_131 rfl ?_
      have e9 : ctold σ n R what = one (cd (cAlw σ (σ 11) n)) := by unfold ctold; simp [hsw]
      rw [e9] at hk0
      rw [cd_f h120] at hk0
      exact hk0
  · skip
    refine v_tabIn (off := 131) 132 dX11_told_1 (by omega) (by omega) (by rw [hsw]; rfl) rfl ?_
    refine v_aload0 133 dX11_told_132 rfl ?_
    refine v_getR 136 dX11_told_133 rfl fX11_26 rfl rfl ?_
    refine v_getI 139 1 dX11_told_136 rfl fX11_151 rfl rfl rfl ?_
    refine v_iretI dX11_told_139 rfl ?_
    have e9 : ctold σ n R what = σ 3 1 := by unfold ctold; simp [hsw]
    rw [e9] at hk0
    exact hk0
  · skip
    refine v_tabOut 140 dX11_told_1 (by omega) rfl ?_
    refine v_bipush 142 dX11_told_140 rfl ⟨by decide +kernel, by decide⟩ ?_
    refine v_iretI dX11_told_142 rfl ?_
    have e9 : ctold σ n R what = -2 := by unfold ctold; rw [if_neg (by omega), if_neg (by omega), if_neg (by omega), if_neg (by omega), if_neg (by omega), if_neg (by omega), if_neg (by omega), if_neg (by omega)]
    rw [e9] at hk0
    exact hk0
