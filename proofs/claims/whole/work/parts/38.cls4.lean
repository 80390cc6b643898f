set_option maxRecDepth 100000 in
set_option maxHeartbeats 4000000 in
def FrC (σ υ : Mem) : Prop := ∀ c : Nat, (c < 6 ∨ (11 ≤ c ∧ c ≤ 50) ∨ 64 ≤ c) → υ c = σ c
theorem FrC.rf (σ : Mem) : FrC σ σ := fun _ _ => rfl
theorem FrC.tr {σ τ υ : Mem} (h : FrC σ τ) (h2 : FrC τ υ) : FrC σ υ := fun c a => (h2 c a).trans (h c a)
theorem CoreK.frC {σ τ : Mem} (h : CoreK σ τ) : FrC σ τ := fun c hc => h c (by unfold scrK scr; omega)
theorem cbv_frC {σ τ : Mem} {n : Nat} (h : FrC σ τ) (hb : CB σ n) (hne : σ 3 1 ≠ -5) : cbv τ = cbv σ := by
  have h3 : τ 3 = σ 3 := h 3 (by omega)
  have hr := hb.resolve_left hne
  funext d
  show τ (34 + (τ 3 1).toNat) d = σ (34 + (σ 3 1).toNat) d
  rw [h3, h (34 + (σ 3 1).toNat) (by omega)]
theorem CB.frC {σ τ : Mem} {n : Nat} (hb : CB σ n) (h : FrC σ τ) : CB τ n := by
  have h3 : τ 3 = σ 3 := h 3 (by omega)
  by_cases hne : σ 3 1 = -5
  · exact Or.inl (by rw [h3]; exact hne)
  · have hr := hb.resolve_left hne
    have e := cbv_frC h hb hne
    exact Or.inr ⟨by rw [h3]; exact hr.1, by rw [h3]; exact hr.2.1, fun d a b => by rw [e]; exact hr.2.2 d a b⟩
theorem CW.frC {σ τ : Mem} {n R F : Nat} (hw : CW σ n R F) (h : FrC σ τ) : CW τ n R F := by
  obtain ⟨h1, h2, h3, h4, h5, h6, h7, h8, h9⟩ := hw
  refine ⟨?_, ?_, ?_, fun d v a b c e => ?_, ?_, h6.frC h, ?_, ?_, ?_⟩
  · rw [h 1 (by omega), h 2 (by omega)]; exact h1
  · rw [h 27 (by omega), h 28 (by omega), h 29 (by omega), h 30 (by omega)]; exact h2
  · rw [h 12 (by omega), h 13 (by omega), h 14 (by omega), h 15 (by omega), h 16 (by omega), h 17 (by omega)]; exact h3
  · rw [h (19 + d.toNat) (by omega)]; exact h4 d v a b c e
  · rw [h 25 (by omega)]; exact h5
  · rw [h 0 (by omega)]; exact h7
  · rw [h 31 (by omega), dwB_core (h 27 (by omega)) (h 28 (by omega)) (h 29 (by omega))]; exact h8
  · rw [h 32 (by omega), cvB_core (h 27 (by omega)) (h 29 (by omega))]; exact h9
/-- a memory as the search begins: the facts ff, the limits lm -/
def AN (σ σa : Mem) (ff lm : Int → Int) : Prop := FrC σ σa ∧ (∀ f : Int, 0 ≤ f → f < 6 → σa 51 f = ff f) ∧ ∀ p : Int, 0 ≤ p → p < 4 → σa 52 p = lm p
noncomputable def cBest (σ : Mem) (g : Nat → Bool) (bw : Int) (n R : Nat) : Option (Int × Int × List Int) := (cEn σ 0 n).foldl (stp (hopB bw) rchB σ g n R) none
theorem cBest_coreK {σ τ : Mem} {g : Nat → Bool} {bw : Int} {n R : Nat} (h : CoreK σ τ) (hb : CB σ n) (hn : n ≤ 6) : cBest τ g bw n R = cBest σ g bw n R := by
  unfold cBest
  rw [cEn_coreK h, stp_coreK h hb hn]
def lc (s : Option (Int × Int × List Int)) : Int := match s with
  | none => -5
  | some (c, _, _) => c
theorem bits_all (R : Nat) : bitsN (fun _ => true) R = 2 ^ R - 1 := by
  induction R with
  | zero => rfl
  | succ R ih =>
    show bitsN _ R + 2 ^ R = 2 ^ (R + 1) - 1
    have : 0 < 2 ^ R := Nat.pow_pos (by omega)
    rw [ih, Nat.pow_succ]
    omega
theorem bits_clr (R r : Nat) : clr (bitsN (fun _ => true) R) r = bitsN (fun q => !decide (q = r)) R := by
  apply Nat.eq_of_testBit_eq
  intro i
  rw [clr_test, bitsN_test, bitsN_test]
  by_cases e : r = i
  · subst e; simp
  · have : ¬ i = r := fun q => e q.symm
    simp [e, this]
set_option maxRecDepth 100000 in
set_option maxHeartbeats 4000000 in
theorem X10_asNow {d : Nat} {R : Nat} {σ : Mem} {K : Mem → Prop} (hR : σ 2 2 = R) (hR12 : R ≤ 12) (hd : 1 ≤ d) (hk0 : ∀ σa : Mem, AN σ σa (σ 26) (σ 25) → σa 6 6 = (bitsN (fun _ => true) R : Int) → K σa) : Run mX10_asNow d [.inr (some 6)] σ (RV K) := by
  have hp1 : 0 < 2 ^ R := Nat.pow_pos (by omega)
  have hp2 : 2 ^ R ≤ 2 ^ 12 := Nat.pow_le_pow_right (by omega) hR12
  have hp3 : (2 : Nat) ^ 12 = 4096 := by decide
  refine Run_of (ls := [.inr (some 6)]) (by decide) (Nat.le_of_ble_eq_true rfl) rfl ?_
  refine v_aload0 1 dX10_asNow_0 rfl ?_
  refine v_getR 4 dX10_asNow_1 rfl fX10_35 rfl rfl ?_
  refine v_getR 7 dX10_asNow_4 rfl fX10_47 rfl rfl ?_
  refine v_iconst 8 dX10_asNow_7 rfl ⟨by decide +kernel, by decide⟩ ?_
  refine v_aload0 9 dX10_asNow_8 rfl ?_
  refine v_getR 12 dX10_asNow_9 rfl fX10_9 rfl rfl ?_
  refine v_iconst 13 dX10_asNow_12 rfl ⟨by decide +kernel, by decide⟩ ?_
  refine v_bipush 15 dX10_asNow_13 rfl ⟨by decide +kernel, by decide⟩ ?_
  refine v_copy 18 dX10_asNow_15 rfl kX10_50 (by omega) rfl rfl (by omega) ?_
  refine v_aload0 19 dX10_asNow_18 rfl ?_
  refine v_getR 22 dX10_asNow_19 rfl fX10_31 rfl rfl ?_
  refine v_getR 25 dX10_asNow_22 rfl fX10_56 rfl rfl ?_
  refine v_iconst 26 dX10_asNow_25 rfl ⟨by decide +kernel, by decide⟩ ?_
  refine v_aload0 27 dX10_asNow_26 rfl ?_
  refine v_getR 30 dX10_asNow_27 rfl fX10_15 rfl rfl ?_
  refine v_iconst 31 dX10_asNow_30 rfl ⟨by decide +kernel, by decide⟩ ?_
  refine v_iconst 32 dX10_asNow_31 rfl ⟨by decide +kernel, by decide⟩ ?_
  refine v_copy 35 dX10_asNow_32 rfl kX10_50 (by omega) rfl rfl (by omega) ?_
  refine v_aload0 36 dX10_asNow_35 rfl ?_
  refine v_iconst 37 dX10_asNow_36 rfl ⟨by decide +kernel, by decide⟩ ?_
  refine v_aload0 38 dX10_asNow_37 rfl ?_
  refine v_getR 41 dX10_asNow_38 rfl fX10_35 rfl rfl ?_
  refine v_getIe 44 2 (R) dX10_asNow_41 rfl fX10_59 rfl rfl rfl (hR) ?_
  refine v_ishl 45 dX10_asNow_44 rfl ?_
  rw [bshl_one (by omega : R < 31)]
  refine v_iconst 46 dX10_asNow_45 rfl ⟨by decide +kernel, by decide⟩ ?_
  refine v_isub 47 dX10_asNow_46 rfl (⟨by omega, by omega⟩) ?_
  refine V_top (show ((2 ^ R : Nat) : Int) - 1 = (bitsN (fun _ => true) R : Int) by rw [bits_all]; omega) ?_
  refine v_putI 50 6 dX10_asNow_47 rfl pX10_18 rfl rfl rfl ?_
  refine v_vretV dX10_asNow_50 rfl ?_
  refine hk0 _ ⟨fun c hc => ?_, fun f a b => ?_, fun p a b => ?_⟩ wr_eq
  · rw [wr_ne (by omega), cp_ne (by omega), cp_ne (by omega)]
  · rw [wr_ne (by decide), cp_ne (by decide), cp_at, if_pos (by omega), show (0 : Int) + (f - 0) = f by omega]
  · rw [wr_ne (by decide), cp_at, if_pos (by omega), cp_ne (by decide), show (0 : Int) + (p - 0) = p by omega]
set_option maxRecDepth 100000 in
set_option maxHeartbeats 4000000 in
theorem X10_leaveOut {d : Nat} {R r : Nat} {σ : Mem} {K : Mem → Prop} (hc : σ 6 6 = (bitsN (fun _ => true) R : Int)) (hR12 : R ≤ 12) (hr : r < 12) (hk0 : K (wr σ 6 6 (bitsN (fun q => !decide (q = r)) R : Int))) : Run mX10_leaveOut d [.inr (some 6), .inl (r : Int)] σ (RV K) := by
  have hp2 : 2 ^ R ≤ 2 ^ 12 := Nat.pow_le_pow_right (by omega) hR12
  have hp3 : (2 : Nat) ^ 12 = 4096 := by decide
  have hbl := bitsN_lt (fun _ => true) R
  refine Run_of (ls := [.inr (some 6), .inl (r : Int)]) (by decide) (Nat.le_of_ble_eq_true rfl) rfl ?_
  refine v_aload0 1 dX10_leaveOut_0 rfl ?_
  refine v_dup 2 dX10_leaveOut_1 rfl ?_
  refine v_getIe 5 6 ((bitsN (fun _ => true) R : Int)) dX10_leaveOut_2 rfl fX10_18 rfl rfl rfl (hc) ?_
  refine v_iconst 6 dX10_leaveOut_5 rfl ⟨by decide +kernel, by decide⟩ ?_
  refine v_iload1 7 dX10_leaveOut_6 rfl ?_
  refine v_ishl 8 dX10_leaveOut_7 rfl ?_
  refine v_iconst 9 dX10_leaveOut_8 rfl ⟨by decide +kernel, by decide⟩ ?_
  refine v_ixor 10 dX10_leaveOut_9 rfl ?_
  refine v_iand 11 dX10_leaveOut_10 rfl ?_
  rw [band_clr (by omega) (by omega), bits_clr]
  refine v_putI 14 6 dX10_leaveOut_11 rfl pX10_18 rfl rfl rfl ?_
  refine v_vretV dX10_leaveOut_14 rfl ?_
  exact hk0
set_option maxRecDepth 100000 in
set_option maxHeartbeats 4000000 in
theorem X10_hold {d : Nat} {p : Int} {σ : Mem} {K : Mem → Prop} (hp : 0 ≤ p ∧ p < 4) (hk0 : K (wr σ 52 p 0)) : Run mX10_hold d [.inr (some 6), .inl p] σ (RV K) := by
  refine Run_of (ls := [.inr (some 6), .inl p]) (by decide) (Nat.le_of_ble_eq_true rfl) rfl ?_
  refine v_aload0 1 dX10_hold_0 rfl ?_
  refine v_getR 4 dX10_hold_1 rfl fX10_15 rfl rfl ?_
  refine v_iload1 5 dX10_hold_4 rfl ?_
  refine v_iconst 6 dX10_hold_5 rfl ⟨by decide +kernel, by decide⟩ ?_
  refine v_iast 7 dX10_hold_6 rfl rfl (⟨by omega, by omega⟩) ?_
  refine v_vretV dX10_hold_7 rfl ?_
  exact hk0
set_option maxRecDepth 100000 in
set_option maxHeartbeats 4000000 in
theorem X10_turnBack {d : Nat} {n : Nat} {f : Int} {σ : Mem} {K : Mem → Prop} (hcb : CB σ n) (hf : 0 ≤ f ∧ f < 6) (hd : 2 ≤ d) (hk0 : K (wr σ 51 f (if σ 3 1 = -5 then -5 else cbf σ f))) : Run mX10_turnBack d [.inr (some 6), .inl f] σ (RV K) := by
  refine Run_of (ls := [.inr (some 6), .inl f]) (by decide) (Nat.le_of_ble_eq_true rfl) rfl ?_
  refine v_aload0 1 dX10_turnBack_0 rfl ?_
  refine v_getR 4 dX10_turnBack_1 rfl fX10_9 rfl rfl ?_
  refine v_iload1 5 dX10_turnBack_4 rfl ?_
  refine v_aload0 6 dX10_turnBack_5 rfl ?_
  refine v_getR 9 dX10_turnBack_6 rfl fX10_39 rfl rfl ?_
  refine v_iload1 10 dX10_turnBack_9 rfl ?_
  refine v_cvI1 mX5_factThen 13 dX10_turnBack_10 rfl kX10_62 rfl rfl (by omega) (Nat.le_of_ble_eq_true rfl) ?_
  refine X5_factThen hcb (by omega) (by omega) ?_
  refine v_iast 14 dX10_turnBack_13 rfl rfl (⟨by omega, by omega⟩) ?_
  refine v_vretV dX10_turnBack_14 rfl ?_
  exact hk0
set_option maxRecDepth 100000 in
set_option maxHeartbeats 4000000 in
theorem X11_leastCost {d : Nat} {n R F : Nat} {g : Nat → Bool} {σ : Mem} {K : Int → Mem → Prop} (hwa : CW σ n R F) (hcnt : σ 6 6 = (bitsN g R : Int)) (hlim : ∀ p : Int, 0 ≤ p → p < 4 → 0 ≤ σ 52 p ∧ σ 52 p ≤ 6) (hd : 16 ≤ d) (hk0 : ∀ υ : Mem, FrC σ υ → K (lc (cBest σ g 0 n R)) υ) : Run mX11_leastCost d [.inr (some 0)] σ (RI K) := by
  have hn6 : n ≤ 6 := hwa.1.2.1
  have hcba : CB σ n := hwa.2.2.2.2.2.1
  refine Run_of (ls := [.inr (some 0)]) (by decide) (Nat.le_of_ble_eq_true rfl) rfl ?_
  refine v_aload0 1 dX11_leastCost_0 rfl ?_
  refine v_getR 4 dX11_leastCost_1 rfl fX11_58 rfl rfl ?_
  refine v_iconst 5 dX11_leastCost_4 rfl ⟨by decide +kernel, by decide⟩ ?_
  refine v_cvV1 mX0_begin 8 dX11_leastCost_5 rfl kX11_160 rfl rfl (by omega) (Nat.le_of_ble_eq_true rfl) ?_
  refine X0_begin (Or.inl rfl) ?_
  refine v_aload0 9 dX11_leastCost_8 rfl ?_
  refine v_getR 12 dX11_leastCost_9 rfl fX11_51 rfl rfl ?_
  refine v_aload0 13 dX11_leastCost_12 rfl ?_
  refine v_getR 16 dX11_leastCost_13 rfl fX11_58 rfl rfl ?_
  refine v_cvV1 mX10_seek 19 dX11_leastCost_16 rfl kX11_164 rfl rfl (by omega) (Nat.le_of_ble_eq_true rfl) ?_
  have hck0 : CoreK σ (wr (wr σ 7 0 0) 7 3 0) := fun c hc => by
    have h7 : c ≠ 7 := fun e => hc (by unfold scrK scr; omega)
    rw [wr_ne h7, wr_ne h7]
  refine X10_seek (GS_best 0 hn6) (s := none) (hwa.coreK hck0) (by rw [hck0 6 (nscrK rfl)]; exact hcnt) (fun p a b => by rw [hck0 52 (nscrK rfl)]; exact hlim p a b) ⟨wr_eq, by rw [wr_at, if_neg (by decide), wr_eq]⟩ rfl (by omega) (fun υ ck hrel => ?_)
  have ebest : (cEn (wr (wr σ 7 0 0) 7 3 0) 0 n).foldl (stp (hopB 0) rchB (wr (wr σ 7 0 0) 7 3 0) g n R) none = cBest σ g 0 n R := cBest_coreK hck0 hcba hn6
  rw [ebest] at hrel
  have hfr := (hck0.tr ck).frC
  have h7 : (υ 7 0 ≠ 0 → K (υ 7 1) υ) ∧ (υ 7 0 = 0 → K (-5) υ) := by
    have hk1 := hk0 υ hfr
    cases hb : cBest σ g 0 n R with
    | none =>
      rw [hb] at hrel hk1
      have h0 : υ 7 0 = 0 := hrel.2
      exact ⟨fun q => absurd h0 q, fun _ => hk1⟩
    | some z =>
      obtain ⟨c, w, l⟩ := z
      rw [hb] at hrel hk1
      have h0 : υ 7 0 = 1 ∧ υ 7 1 = c ∧ υ 7 2 = w ∧ lst (υ 56) 0 n = l := hrel.2
      exact ⟨fun _ => by rw [h0.2.1]; exact hk1, fun q => by omega⟩
  refine v_aload0 20 dX11_leastCost_19 rfl ?_
  refine v_getR 23 dX11_leastCost_20 rfl fX11_58 rfl rfl ?_
  refine v_getI 26 0 dX11_leastCost_23 rfl fX11_168 rfl rfl rfl ?_
  refine v_if_eq 39 29 dX11_leastCost_26 rfl rfl (fun h26 => ?_) (fun h26 => ?_)
  · skip
    refine v_bipush 41 dX11_leastCost_39 rfl ⟨by decide +kernel, by decide⟩ ?_
    refine v_iretI dX11_leastCost_41 rfl ?_
    first | exact h7.1 h26 | exact h7.2 h26
  · skip
    refine v_aload0 30 dX11_leastCost_29 rfl ?_
    refine v_getR 33 dX11_leastCost_30 rfl fX11_58 rfl rfl ?_
    refine v_getI 36 1 dX11_leastCost_33 rfl fX11_184 rfl rfl rfl ?_
    refine v_goto 41 dX11_leastCost_36 rfl ?_
    refine v_iretI dX11_leastCost_41 rfl ?_
    first | exact h7.1 h26 | exact h7.2 h26
set_option maxRecDepth 100000 in
set_option maxHeartbeats 4000000 in
theorem X11_least {d : Nat} {n R F : Nat} {σ : Mem} {K : Int → Mem → Prop} (hw : CW σ n R F) (hd : 18 ≤ d) (o1 : n = 0 → K (-3) σ) (o2 : n ≠ 0 → ∀ σa υ : Mem, AN σ σa (σ 26) (σ 25) → FrC σ υ → K (lc (cBest σa (fun _ => true) 0 n R)) υ) : Run mX11_least d [.inr (some 0)] σ (RI K) := by
  have hw0 := hw
  obtain ⟨⟨hn, hn6, hR, hR12, hF, hF6⟩, hru, hde, hwo, hli, hcb, hwf, hbd, hbc⟩ := hw0
  refine Run_of (ls := [.inr (some 0)]) (by decide) (Nat.le_of_ble_eq_true rfl) rfl ?_
  refine v_aload0 1 dX11_least_0 rfl ?_
  refine v_getR 4 dX11_least_1 rfl fX11_12 rfl rfl ?_
  refine v_getIe 7 0 (n) dX11_least_4 rfl fX11_101 rfl rfl rfl (hn) ?_
  refine v_if_ne 13 10 dX11_least_7 rfl rfl (fun h7 => ?_) (fun h7 => ?_)
  · skip
    refine v_aload0 14 dX11_least_13 rfl ?_
    refine v_getR 17 dX11_least_14 rfl fX11_51 rfl rfl ?_
    refine v_cvV0 mX10_asNow 20 dX11_least_17 rfl kX11_157 rfl rfl (by omega) (Nat.le_of_ble_eq_true rfl) ?_
    refine X10_asNow hR hR12 (by omega) (fun σa an hcnt => ?_)
    have hwa := hw.frC an.1
    have hlim : ∀ p : Int, 0 ≤ p → p < 4 → 0 ≤ σa 52 p ∧ σa 52 p ≤ 6 := fun p a b => by rw [an.2.2 p a b]; exact hli p a b
    refine v_aload0 21 dX11_least_20 rfl ?_
    refine v_cvI0 mX11_leastCost 24 dX11_least_21 rfl kX11_219 rfl rfl (by omega) (Nat.le_of_ble_eq_true rfl) ?_
    refine X11_leastCost hwa hcnt hlim (by omega) (fun υ hfr => ?_)
    refine v_iretI dX11_least_24 rfl ?_
    first | exact o1 (by omega) | exact o2 (by omega) σa υ an (an.1.tr hfr)
  · skip
    refine v_bipush 12 dX11_least_10 rfl ⟨by decide +kernel, by decide⟩ ?_
    refine v_iretI dX11_least_12 rfl ?_
    first | exact o1 (by omega) | exact o2 (by omega) σa υ an (an.1.tr hfr)
set_option maxRecDepth 100000 in
set_option maxHeartbeats 4000000 in
theorem X11_without {d : Nat} {n R F : Nat} {r : Int} {σ : Mem} {K : Int → Mem → Prop} (hw : CW σ n R F) (hd : 18 ≤ d) (o1 : r < 0 ∨ (R : Int) ≤ r → K (-1) σ) (o2 : (0 ≤ r ∧ r < R) ∧ n = 0 → K (-3) σ) (o3 : (0 ≤ r ∧ r < R) ∧ n ≠ 0 → ∀ σa υ : Mem, AN σ σa (σ 26) (σ 25) → FrC σ υ → K (lc (cBest σa (fun q => !decide (q = r.toNat)) 0 n R)) υ) : Run mX11_without d [.inr (some 0), .inl r] σ (RI K) := by
  have hw0 := hw
  obtain ⟨⟨hn, hn6, hR, hR12, hF, hF6⟩, hru, hde, hwo, hli, hcb, hwf, hbd, hbc⟩ := hw0
  refine Run_of (ls := [.inr (some 0), .inl r]) (by decide) (Nat.le_of_ble_eq_true rfl) rfl ?_
  refine v_aload0 1 dX11_without_0 rfl ?_
  refine v_getR 4 dX11_without_1 rfl fX11_19 rfl rfl ?_
  refine v_iload1 5 dX11_without_4 rfl ?_
  refine v_cvI1 mX8_has 8 dX11_without_5 rfl kX11_222 rfl rfl (by omega) (Nat.le_of_ble_eq_true rfl) ?_
  refine X8_has (fun h5 => ?_) (fun h5 => ?_)
  · skip
    refine v_if_ne 13 11 dX11_without_8 rfl rfl (fun _ => ?_) (fun h => absurd (by decide) h)
    refine v_aload0 14 dX11_without_13 rfl ?_
    refine v_getR 17 dX11_without_14 rfl fX11_12 rfl rfl ?_
    refine v_getIe 20 0 (n) dX11_without_17 rfl fX11_101 rfl rfl rfl (hn) ?_
    refine v_if_ne 26 23 dX11_without_20 rfl rfl (fun h20 => ?_) (fun h20 => ?_)
    · skip
      refine v_aload0 27 dX11_without_26 rfl ?_
      refine v_getR 30 dX11_without_27 rfl fX11_51 rfl rfl ?_
      refine v_cvV0 mX10_asNow 33 dX11_without_30 rfl kX11_157 rfl rfl (by omega) (Nat.le_of_ble_eq_true rfl) ?_
      refine X10_asNow hR hR12 (by omega) (fun σa an hcnt => ?_)
      have hwa := hw.frC an.1
      have hlim : ∀ p : Int, 0 ≤ p → p < 4 → 0 ≤ σa 52 p ∧ σa 52 p ≤ 6 := fun p a b => by rw [an.2.2 p a b]; exact hli p a b
      refine v_aload0 34 dX11_without_33 rfl ?_
      refine v_getR 37 dX11_without_34 rfl fX11_51 rfl rfl ?_
      refine v_iload1 38 dX11_without_37 rfl ?_
      refine v_cvV1 mX10_leaveOut 41 dX11_without_38 rfl kX11_223 rfl rfl (by omega) (Nat.le_of_ble_eq_true rfl) ?_
      refine Run_args (vs' := [.inr (some 6), .inl (r.toNat : Int)]) (by rw [Int.toNat_of_nonneg (by omega)]) ?_
      refine X10_leaveOut (R := R) hcnt hR12 (by omega) ?_
      have an2 : AN σ (wr σa 6 6 (bitsN (fun q => !decide (q = r.toNat)) R : Int)) (σ 26) (σ 25) := ⟨fun c hc => by rw [wr_ne (by omega)]; exact an.1 c hc, fun f a b => by rw [wr_ne (by decide)]; exact an.2.1 f a b, fun p a b => by rw [wr_ne (by decide)]; exact an.2.2 p a b⟩
      generalize hse : wr σa 6 6 (bitsN (fun q => !decide (q = r.toNat)) R : Int) = σb at an2 ⊢
      have hcnt2 : σb 6 6 = (bitsN (fun q => !decide (q = r.toNat)) R : Int) := by rw [← hse, wr_eq]
      have hwb := hw.frC an2.1
      refine v_aload0 42 dX11_without_41 rfl ?_
      refine v_cvI0 mX11_leastCost 45 dX11_without_42 rfl kX11_219 rfl rfl (by omega) (Nat.le_of_ble_eq_true rfl) ?_
      refine X11_leastCost hwb hcnt2 (fun p a b => by rw [an2.2.2 p a b]; exact hli p a b) (by omega) (fun υ hfr => ?_)
      refine v_iretI dX11_without_45 rfl ?_
      first | exact o1 (by omega) | exact o2 (by omega) | exact o3 (by omega) σb υ an2 (an2.1.tr hfr)
    · skip
      refine v_bipush 25 dX11_without_23 rfl ⟨by decide +kernel, by decide⟩ ?_
      refine v_iretI dX11_without_25 rfl ?_
      first | exact o1 (by omega) | exact o2 (by omega) | exact o3 (by omega) σb υ an2 (an2.1.tr hfr)
  · skip
    refine v_if_ne 13 11 dX11_without_8 rfl rfl (fun h => absurd h (by decide)) (fun _ => ?_)
    refine v_iconst 12 dX11_without_11 rfl ⟨by decide +kernel, by decide⟩ ?_
    refine v_iretI dX11_without_12 rfl ?_
    first | exact o1 (by omega) | exact o2 (by omega) | exact o3 (by omega) σb υ an2 (an2.1.tr hfr)
set_option maxRecDepth 100000 in
set_option maxHeartbeats 4000000 in
theorem X11_spare {d : Nat} {n R F : Nat} {p : Int} {σ : Mem} {K : Int → Mem → Prop} (hw : CW σ n R F) (hd : 18 ≤ d) (o1 : p < 0 ∨ 3 < p → K (-2) σ) (o2 : ¬ (p < 0 ∨ 3 < p) ∧ n = 0 → K (-3) σ) (o3 : ¬ (p < 0 ∨ 3 < p) ∧ n ≠ 0 → ∀ σa υ : Mem, AN σ σa (σ 26) (fun q => if q = p then 0 else σ 25 q) → FrC σ υ → K (lc (cBest σa (fun _ => true) 0 n R)) υ) : Run mX11_spare d [.inr (some 0), .inl p] σ (RI K) := by
  have hw0 := hw
  obtain ⟨⟨hn, hn6, hR, hR12, hF, hF6⟩, hru, hde, hwo, hli, hcb, hwf, hbd, hbc⟩ := hw0
  refine Run_of (ls := [.inr (some 0), .inl p]) (by decide) (Nat.le_of_ble_eq_true rfl) rfl ?_
  refine v_iload1 1 dX11_spare_0 rfl ?_
  refine v_iconst 2 dX11_spare_1 rfl ⟨by decide +kernel, by decide⟩ ?_
  refine v_iconst 3 dX11_spare_2 rfl ⟨by decide +kernel, by decide⟩ ?_
  refine v_csI3 mX11_within 6 dX11_spare_3 rfl kX11_93 (by omega) (Nat.le_of_ble_eq_true rfl) ?_
  refine X11_within (fun h3 => ?_) (fun h3 => ?_)
  · skip
    refine v_if_ne 12 9 dX11_spare_6 rfl rfl (fun _ => ?_) (fun h => absurd (by decide) h)
    refine v_aload0 13 dX11_spare_12 rfl ?_
    refine v_getR 16 dX11_spare_13 rfl fX11_12 rfl rfl ?_
    refine v_getIe 19 0 (n) dX11_spare_16 rfl fX11_101 rfl rfl rfl (hn) ?_
    refine v_if_ne 25 22 dX11_spare_19 rfl rfl (fun h19 => ?_) (fun h19 => ?_)
    · skip
      refine v_aload0 26 dX11_spare_25 rfl ?_
      refine v_getR 29 dX11_spare_26 rfl fX11_51 rfl rfl ?_
      refine v_cvV0 mX10_asNow 32 dX11_spare_29 rfl kX11_157 rfl rfl (by omega) (Nat.le_of_ble_eq_true rfl) ?_
      refine X10_asNow hR hR12 (by omega) (fun σa an hcnt => ?_)
      have hwa := hw.frC an.1
      have hlim : ∀ p : Int, 0 ≤ p → p < 4 → 0 ≤ σa 52 p ∧ σa 52 p ≤ 6 := fun p a b => by rw [an.2.2 p a b]; exact hli p a b
      refine v_aload0 33 dX11_spare_32 rfl ?_
      refine v_getR 36 dX11_spare_33 rfl fX11_51 rfl rfl ?_
      refine v_iload1 37 dX11_spare_36 rfl ?_
      refine v_cvV1 mX10_hold 40 dX11_spare_37 rfl kX11_226 rfl rfl (by omega) (Nat.le_of_ble_eq_true rfl) ?_
      refine X10_hold (by omega) ?_
      have an2 : AN σ (wr σa 52 p 0) (σ 26) (fun q => if q = p then 0 else σ 25 q) := ⟨fun c hc => by rw [wr_ne (by omega)]; exact an.1 c hc, fun f a b => by rw [wr_ne (by decide)]; exact an.2.1 f a b, fun q a b => by
        rw [wr_at]
        show _ = if q = p then 0 else σ 25 q
        rw [an.2.2 q a b]⟩
      generalize hse : wr σa 52 p 0 = σb at an2 ⊢
      have hcnt2 : σb 6 6 = (bitsN (fun _ => true) R : Int) := by rw [← hse, wr_ne (by decide)]; exact hcnt
      have hwb := hw.frC an2.1
      refine v_aload0 41 dX11_spare_40 rfl ?_
      refine v_cvI0 mX11_leastCost 44 dX11_spare_41 rfl kX11_219 rfl rfl (by omega) (Nat.le_of_ble_eq_true rfl) ?_
      refine X11_leastCost hwb hcnt2 (fun q a b => by
        rw [an2.2.2 q a b]
        show 0 ≤ (if q = p then 0 else σ 25 q) ∧ (if q = p then 0 else σ 25 q) ≤ 6
        have := hli q a b
        split <;> omega) (by omega) (fun υ hfr => ?_)
      refine v_iretI dX11_spare_44 rfl ?_
      first | exact o1 (by omega) | exact o2 (by omega) | exact o3 (by omega) σb υ an2 (an2.1.tr hfr)
    · skip
      refine v_bipush 24 dX11_spare_22 rfl ⟨by decide +kernel, by decide⟩ ?_
      refine v_iretI dX11_spare_24 rfl ?_
      first | exact o1 (by omega) | exact o2 (by omega) | exact o3 (by omega) σb υ an2 (an2.1.tr hfr)
  · skip
    refine v_if_ne 12 9 dX11_spare_6 rfl rfl (fun h => absurd h (by decide)) (fun _ => ?_)
    refine v_bipush 11 dX11_spare_9 rfl ⟨by decide +kernel, by decide⟩ ?_
    refine v_iretI dX11_spare_11 rfl ?_
    first | exact o1 (by omega) | exact o2 (by omega) | exact o3 (by omega) σb υ an2 (an2.1.tr hfr)
set_option maxRecDepth 100000 in
set_option maxHeartbeats 4000000 in
noncomputable def cNear (σ : Mem) (n R : Nat) (q : Int) : Int := (cEn σ 0 n).foldl (stp (fun _ c _ b => b ≠ 0 ∨ q < c) (fun s _ _ _ _ => s + 1) σ (fun _ => true) n R) 0
noncomputable def cCov (σ : Mem) (n R : Nat) : Nat → Prop := (cEn σ 0 n).foldl (stp (fun (s : Nat → Prop) _ _ b => s (b &&& (2 ^ R - 1))) (fun s _ _ _ b => fun j => s j ∨ (b &&& (2 ^ R - 1)) &&& j = (b &&& (2 ^ R - 1))) σ (fun _ => true) n R) (fun _ => False)
set_option maxRecDepth 100000 in
set_option maxHeartbeats 4000000 in
theorem X11_near {d : Nat} {n R F : Nat} {q : Int} {σ : Mem} {K : Int → Mem → Prop} (hw : CW σ n R F) (hd : 16 ≤ d) (o1 : q < 0 ∨ 2000 < q → K (-2) σ) (o2 : ¬ (q < 0 ∨ 2000 < q) ∧ n = 0 → K (-3) σ) (o3 : ¬ (q < 0 ∨ 2000 < q) ∧ n ≠ 0 → ∀ σa υ : Mem, AN σ σa (σ 26) (σ 25) → FrC σ υ → K (cNear σa n R q) υ) : Run mX11_near d [.inr (some 0), .inl q] σ (RI K) := by
  have hw0 := hw
  obtain ⟨⟨hn, hn6, hR, hR12, hF, hF6⟩, hru, hde, hwo, hli, hcb, hwf, hbd, hbc⟩ := hw0
  refine Run_of (ls := [.inr (some 0), .inl q]) (by decide) (Nat.le_of_ble_eq_true rfl) rfl ?_
  refine v_iload1 1 dX11_near_0 rfl ?_
  refine v_iconst 2 dX11_near_1 rfl ⟨by decide +kernel, by decide⟩ ?_
  refine v_sipush 5 dX11_near_2 rfl ⟨by decide +kernel, by decide⟩ ?_
  refine v_csI3 mX11_within 8 dX11_near_5 rfl kX11_93 (by omega) (Nat.le_of_ble_eq_true rfl) ?_
  refine X11_within (fun h5 => ?_) (fun h5 => ?_)
  · skip
    refine v_if_ne 14 11 dX11_near_8 rfl rfl (fun _ => ?_) (fun h => absurd (by decide) h)
    refine v_aload0 15 dX11_near_14 rfl ?_
    refine v_getR 18 dX11_near_15 rfl fX11_12 rfl rfl ?_
    refine v_getIe 21 0 (n) dX11_near_18 rfl fX11_101 rfl rfl rfl (hn) ?_
    refine v_if_ne 27 24 dX11_near_21 rfl rfl (fun h21 => ?_) (fun h21 => ?_)
    · skip
      refine v_aload0 28 dX11_near_27 rfl ?_
      refine v_getR 31 dX11_near_28 rfl fX11_51 rfl rfl ?_
      refine v_cvV0 mX10_asNow 34 dX11_near_31 rfl kX11_157 rfl rfl (by omega) (Nat.le_of_ble_eq_true rfl) ?_
      refine X10_asNow hR hR12 (by omega) (fun σa an hcnt => ?_)
      have hwa := hw.frC an.1
      have hlim : ∀ p : Int, 0 ≤ p → p < 4 → 0 ≤ σa 52 p ∧ σa 52 p ≤ 6 := fun p a b => by rw [an.2.2 p a b]; exact hli p a b
      refine v_aload0 35 dX11_near_34 rfl ?_
      refine v_getR 38 dX11_near_35 rfl fX11_65 rfl rfl ?_
      refine v_iload1 39 dX11_near_38 rfl ?_
      refine v_cvV1 mX2_begin 42 dX11_near_39 rfl kX11_215 rfl rfl (by omega) (Nat.le_of_ble_eq_true rfl) ?_
      refine X2_begin ?_
      refine v_aload0 43 dX11_near_42 rfl ?_
      refine v_getR 46 dX11_near_43 rfl fX11_51 rfl rfl ?_
      refine v_aload0 47 dX11_near_46 rfl ?_
      refine v_getR 50 dX11_near_47 rfl fX11_65 rfl rfl ?_
      refine v_cvV1 mX10_seek 53 dX11_near_50 rfl kX11_164 rfl rfl (by omega) (Nat.le_of_ble_eq_true rfl) ?_
      have hck0 : CoreK σa (wr (wr σa 8 0 0) 8 1 q) := fun c hc => by
        have h7 : c ≠ 8 := fun e => hc (by unfold scrK scr; omega)
        rw [wr_ne h7, wr_ne h7]
      have hcba : CB σa n := hwa.2.2.2.2.2.1
      refine X10_seek (GS_count q) (s := 0) (hwa.coreK hck0) (by rw [hck0 6 (nscrK rfl)]; exact hcnt) (fun p a b => by rw [hck0 52 (nscrK rfl)]; exact hlim p a b) ⟨by rw [wr_at, if_neg (by decide), wr_eq], wr_eq, by decide⟩ rfl (by omega) (fun υ ck hrel => ?_)
      have ebest : (cEn (wr (wr σa 8 0 0) 8 1 q) 0 n).foldl (stp (fun _ c _ b => b ≠ 0 ∨ q < c) (fun s _ _ _ _ => s + 1) (wr (wr σa 8 0 0) 8 1 q) (fun _ => true) n R) 0 = cNear σa n R q := by
        unfold cNear
        rw [cEn_coreK hck0, stp_coreK hck0 hcba hn6]
      rw [ebest] at hrel
      have hfr := (hck0.tr ck).frC
      refine v_aload0 54 dX11_near_53 rfl ?_
      refine v_getR 57 dX11_near_54 rfl fX11_65 rfl rfl ?_
      refine v_getIe 60 0 (cNear σa n R q) dX11_near_57 rfl fX11_218 rfl rfl rfl (hrel.1) ?_
      refine v_iretI dX11_near_60 rfl ?_
      first | exact o1 (by omega) | exact o2 (by omega) | exact o3 (by omega) σa υ an (an.1.tr hfr)
    · skip
      refine v_bipush 26 dX11_near_24 rfl ⟨by decide +kernel, by decide⟩ ?_
      refine v_iretI dX11_near_26 rfl ?_
      first | exact o1 (by omega) | exact o2 (by omega) | exact o3 (by omega) σa υ an (an.1.tr hfr)
  · skip
    refine v_if_ne 14 11 dX11_near_8 rfl rfl (fun h => absurd h (by decide)) (fun _ => ?_)
    refine v_bipush 13 dX11_near_11 rfl ⟨by decide +kernel, by decide⟩ ?_
    refine v_iretI dX11_near_13 rfl ?_
    first | exact o1 (by omega) | exact o2 (by omega) | exact o3 (by omega) σa υ an (an.1.tr hfr)
set_option maxRecDepth 100000 in
set_option maxHeartbeats 4000000 in
theorem X11_clash {d : Nat} {n R F : Nat} {ii : Int} {σ : Mem} {K : Int → Mem → Prop} (hw : CW σ n R F) (hd : 16 ≤ d) (o1 : n = 0 → K (-3) σ) (o2 : n ≠ 0 → ∀ σa υ : Mem, AN σ σa (σ 26) (σ 25) → FrC σ υ → (∀ t, t < 2 ^ R → cCov σa n R (cmp9 R t)) → K (-5) υ) (o3 : n ≠ 0 → ∀ σa υ : Mem, AN σ σa (σ 26) (σ 25) → FrC σ υ → ∀ s, CMin (fun t => ¬ cCov σa n R (cmp9 R t)) R s → K (if ii = -1 then pop s 12 else nbF s ii 12 0 0) υ) : Run mX11_clash d [.inr (some 0), .inl ii] σ (RI K) := by
  have hw0 := hw
  obtain ⟨⟨hn, hn6, hR, hR12, hF, hF6⟩, hru, hde, hwo, hli, hcb, hwf, hbd, hbc⟩ := hw0
  have hp2 : 2 ^ R ≤ 2 ^ 12 := Nat.pow_le_pow_right (by omega) hR12
  have hp3 : (2 : Nat) ^ 12 = 4096 := by decide
  refine Run_of (ls := [.inr (some 0), .inl ii, .inr none]) (by decide) (Nat.le_of_ble_eq_true rfl) rfl ?_
  refine v_aload0 1 dX11_clash_0 rfl ?_
  refine v_getR 4 dX11_clash_1 rfl fX11_12 rfl rfl ?_
  refine v_getIe 7 0 (n) dX11_clash_4 rfl fX11_101 rfl rfl rfl (hn) ?_
  refine v_if_ne 13 10 dX11_clash_7 rfl rfl (fun h7 => ?_) (fun h7 => ?_)
  · skip
    refine v_aload0 14 dX11_clash_13 rfl ?_
    refine v_getR 17 dX11_clash_14 rfl fX11_51 rfl rfl ?_
    refine v_cvV0 mX10_asNow 20 dX11_clash_17 rfl kX11_157 rfl rfl (by omega) (Nat.le_of_ble_eq_true rfl) ?_
    refine X10_asNow hR hR12 (by omega) (fun σa an hcnt => ?_)
    have hwa := hw.frC an.1
    have hlim : ∀ p : Int, 0 ≤ p → p < 4 → 0 ≤ σa 52 p ∧ σa 52 p ≤ 6 := fun p a b => by rw [an.2.2 p a b]; exact hli p a b
    refine v_aload0 21 dX11_clash_20 rfl ?_
    refine v_getR 24 dX11_clash_21 rfl fX11_72 rfl rfl ?_
    refine v_aload0 25 dX11_clash_24 rfl ?_
    refine v_getR 28 dX11_clash_25 rfl fX11_19 rfl rfl ?_
    refine v_getIe 31 2 (R) dX11_clash_28 rfl fX11_143 rfl rfl rfl (by rw [an.1 2 (by omega)]; exact hR) ?_
    refine v_cvV1 mX1_begin 34 dX11_clash_31 rfl kX11_254 rfl rfl (by omega) (Nat.le_of_ble_eq_true rfl) ?_
    refine X1_begin hR12 (fun σb t1 t2 => ?_)
    refine v_aload0 35 dX11_clash_34 rfl ?_
    refine v_getR 38 dX11_clash_35 rfl fX11_51 rfl rfl ?_
    refine v_aload0 39 dX11_clash_38 rfl ?_
    refine v_getR 42 dX11_clash_39 rfl fX11_72 rfl rfl ?_
    refine v_cvV1 mX10_seek 45 dX11_clash_42 rfl kX11_164 rfl rfl (by omega) (Nat.le_of_ble_eq_true rfl) ?_
    have hck0 : CoreK σa σb := fun c hc => t1 c (fun e => hc (by unfold scrK scr; omega)) (fun e => hc (by unfold scrK scr; omega))
    have hcba : CB σa n := hwa.2.2.2.2.2.1
    refine X10_seek (GS_clash hR12) (s := fun _ => False) (hwa.coreK hck0) (by rw [hck0 6 (nscrK rfl)]; exact hcnt) (fun p a b => by rw [hck0 52 (nscrK rfl)]; exact hlim p a b) t2 rfl (by omega) (fun υ ck hrel => ?_)
    have ebest : (cEn σb 0 n).foldl (stp (fun (s : Nat → Prop) _ _ b => s (b &&& (2 ^ R - 1))) (fun s _ _ _ b => fun j => s j ∨ (b &&& (2 ^ R - 1)) &&& j = (b &&& (2 ^ R - 1))) σb (fun _ => true) n R) (fun _ => False) = cCov σa n R := by
      unfold cCov
      rw [cEn_coreK hck0, stp_coreK hck0 hcba hn6]
    rw [ebest] at hrel
    have hfr := an.1.tr (hck0.tr ck).frC
    refine v_aload0 46 dX11_clash_45 rfl ?_
    refine v_getR 49 dX11_clash_46 rfl fX11_72 rfl rfl ?_
    refine v_cvI0 mX1_leastSet 52 dX11_clash_49 rfl kX11_255 rfl rfl (by omega) (Nat.le_of_ble_eq_true rfl) ?_
    refine X1_leastSet hR12 hrel (by omega) (fun h49 => ?_) (fun s h49 => ?_)
    · refine v_istore2 53 dX11_clash_52 rfl (by decide) ?_
      refine v_iload2 54 dX11_clash_53 rfl ?_
      refine v_bipush 56 dX11_clash_54 rfl ⟨by decide +kernel, by decide⟩ ?_
      refine v_icmp_ne 62 59 dX11_clash_56 rfl rfl (fun h => absurd rfl h) (fun _ => ?_)
      refine v_bipush 61 dX11_clash_59 rfl ⟨by decide +kernel, by decide⟩ ?_
      exact v_iretI dX11_clash_61 rfl (o2 (by omega) σa υ an hfr h49)
    have hs4 : s < 4096 := by have := h49.1; omega
    have hk9 := o3 (by omega) σa υ an hfr s h49
    refine v_istore2 53 dX11_clash_52 rfl (by decide) ?_
    refine v_iload2 54 dX11_clash_53 rfl ?_
    refine v_bipush 56 dX11_clash_54 rfl ⟨by decide +kernel, by decide⟩ ?_
    refine v_icmp_ne 62 59 dX11_clash_56 rfl rfl (fun h56 => ?_) (fun h56 => ?_)
    · skip
      refine v_iload1 63 dX11_clash_62 rfl ?_
      refine v_iconst 64 dX11_clash_63 rfl ⟨by decide +kernel, by decide⟩ ?_
      refine v_icmp_ne 74 67 dX11_clash_64 rfl rfl (fun h64 => ?_) (fun h64 => ?_)
      · skip
        refine v_iload2 75 dX11_clash_74 rfl ?_
        refine v_iload1 76 dX11_clash_75 rfl ?_
        refine v_csI2 mX11_bitAt 79 dX11_clash_76 rfl kX11_258 (by omega) (Nat.le_of_ble_eq_true rfl) ?_
        refine X11_bitAt hs4 ?_
        refine v_iretI dX11_clash_79 rfl ?_
        first | (rw [if_pos (by omega)] at hk9; exact hk9) | (rw [if_neg (by omega)] at hk9; exact hk9)
      · skip
        refine v_iload2 68 dX11_clash_67 rfl ?_
        refine v_csI1 mJ6_bitCount_0f7a4 71 dX11_clash_68 rfl kX11_202 (by omega) (Nat.le_of_ble_eq_true rfl) ?_
        refine J6_bitCount_0f7a4 hs4 ?_
        refine v_goto 79 dX11_clash_71 rfl ?_
        refine v_iretI dX11_clash_79 rfl ?_
        first | (rw [if_pos (by omega)] at hk9; exact hk9) | (rw [if_neg (by omega)] at hk9; exact hk9)
    · skip
      exfalso; omega
  · skip
    refine v_bipush 12 dX11_clash_10 rfl ⟨by decide +kernel, by decide⟩ ?_
    refine v_iretI dX11_clash_12 rfl ?_
    exact o1 (by omega)
