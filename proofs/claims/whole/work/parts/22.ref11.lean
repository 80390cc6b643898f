set_option maxRecDepth 100000 in
set_option maxHeartbeats 4000000 in
theorem rmvb_coreW {σ τ : Mem} (h : CoreW σ τ) (n : Nat) : rmvb τ n = rmvb σ n := by
  unfold rmvb rbv
  rw [h.1 21 (by decide) (by decide), h.2 72 (by decide) (by decide), h.2 79 (by decide) (by decide)]
def wres (σ : Mem) (n R : Nat) : Int × Int × List (Int × Int) := (cm (bbr σ n R) n (pop (rmvb σ n) n).toNat (rmvb σ n)).foldl wup (100, 0, [])
theorem bl_mem {left n d : Nat} : d ∈ bl left n ↔ d < n ∧ left.testBit d = true := by
  unfold bl
  rw [List.mem_filter, List.mem_range]
theorem cm_len {b : Nat → Int} {n : Nat} : ∀ (m left : Nat), pop left n = m → ∀ r, r ∈ cm b n m left → r.length = m
  | 0, _, _, r, hr => by
    have : r = [] := by simpa [cm] using hr
    rw [this]; rfl
  | m + 1, left, hp, r, hr => by
    obtain ⟨d, hd, h2⟩ := List.mem_flatMap.mp hr
    obtain ⟨s, h3, rfl⟩ := List.mem_map.mp h2
    have hb := bl_mem.mp hd
    have hc := pop_clr hb.1 hb.2
    rw [List.length_cons, cm_len m (clr left d) (by omega) s h3]
theorem cm_ne {b : Nat → Int} {n : Nat} : ∀ (m left : Nat), pop left n = m → cm b n m left ≠ []
  | 0, _, _ => by simp [cm]
  | m + 1, left, hp => by
    have hex : ∃ d, d < n ∧ left.testBit d = true := by
      refine Classical.byContradiction fun hno => ?_
      have h0 : pop left n = 0 := by
        unfold pop
        have h := sumI_congr (f := fun i => one (left.testBit i.toNat)) (g := fun _ => 0) (n := n) (fun k hk => by
          show one (left.testBit ((k : Int).toNat)) = 0
          rw [Int.toNat_natCast]
          cases hb : left.testBit k with
          | false => rfl
          | true => exact absurd ⟨k, hk, hb⟩ hno)
        rw [h]
        have : ∀ n, sumI (fun _ => 0) n = 0 := by
          intro n
          induction n with
          | zero => rfl
          | succ n ih => show sumI _ n + 0 = 0; rw [ih]; rfl
        exact this n
      omega
    obtain ⟨d, h1, h2⟩ := hex
    have hc := pop_clr h1 h2
    have ih := cm_ne (b := b) (n := n) m (clr left d) (by omega)
    obtain ⟨r, hr⟩ := List.exists_mem_of_ne_nil _ ih
    intro q
    have : ((d : Int), b (clr left d)) :: r ∈ cm b n (m + 1) left := List.mem_flatMap.mpr ⟨d, bl_mem.mpr ⟨h1, h2⟩, List.mem_map.mpr ⟨r, hr, rfl⟩⟩
    rw [q] at this
    cases this
theorem wst_le {B : Int} (hB : 0 ≤ B) : ∀ (r : List (Int × Int)) (m0 : Int), 0 ≤ m0 → m0 ≤ B → (∀ x ∈ r, x.2 ≤ B) → 0 ≤ r.foldl (fun m x => if m < x.2 then x.2 else m) m0 ∧ r.foldl (fun m x => if m < x.2 then x.2 else m) m0 ≤ B
  | [], m0, h0, h1, _ => ⟨h0, h1⟩
  | x :: r, m0, h0, h1, h => by
    have hx := h x List.mem_cons_self
    show 0 ≤ r.foldl _ (if m0 < x.2 then x.2 else m0) ∧ r.foldl _ (if m0 < x.2 then x.2 else m0) ≤ B
    exact wst_le hB r _ (by split <;> omega) (by split <;> omega) (fun y hy => h y (List.mem_cons_of_mem _ hy))
theorem cm_b {b : Nat → Int} {n : Nat} {B : Int} (hb : ∀ s, b s ≤ B) : ∀ (m left : Nat) (r : List (Int × Int)), r ∈ cm b n m left → ∀ x ∈ r, x.2 ≤ B
  | 0, _, r, hr, x, hx => by
    have : r = [] := by simpa [cm] using hr
    rw [this] at hx
    cases hx
  | m + 1, left, r, hr, x, hx => by
    obtain ⟨d, hd, h2⟩ := List.mem_flatMap.mp hr
    obtain ⟨s, h3, rfl⟩ := List.mem_map.mp h2
    rcases List.mem_cons.mp hx with h | h
    · rw [h]; exact hb _
    · exact cm_b hb m _ s h3 x h
/-- what the fold leaves: the start, or one of the rows -/
theorem wup_mem (L : List (List (Int × Int))) : ∀ s, (L.foldl wup s = s ∧ ∀ r ∈ L, ¬ wst r < s.1) ∨ ∃ r ∈ L, L.foldl wup s = (wst r, smm r, r) := by
  induction L with
  | nil => intro s; exact Or.inl ⟨rfl, fun r h => by cases h⟩
  | cons x L ih =>
    intro s
    show ((L.foldl wup (wup s x)) = s ∧ _) ∨ ∃ r ∈ x :: L, L.foldl wup (wup s x) = _
    by_cases h : wst x < s.1 ∨ (wst x = s.1 ∧ smm x < s.2.1)
    · have e : wup s x = (wst x, smm x, x) := if_pos h
      rw [e]
      rcases ih (wst x, smm x, x) with ⟨h1, -⟩ | ⟨r, h1, h2⟩
      · exact Or.inr ⟨x, List.mem_cons_self, h1⟩
      · exact Or.inr ⟨r, List.mem_cons_of_mem _ h1, h2⟩
    · have e : wup s x = s := if_neg h
      rw [e]
      rcases ih s with ⟨h1, h3⟩ | ⟨r, h1, h2⟩
      · refine Or.inl ⟨h1, fun r hr => ?_⟩
        rcases List.mem_cons.mp hr with q | q
        · rw [q]; exact fun q2 => h (Or.inl q2)
        · exact h3 r q
      · exact Or.inr ⟨r, List.mem_cons_of_mem _ h1, h2⟩
theorem wres_len {σ : Mem} {n R : Nat} : (wres σ n R).2.2.length = (pop (rmvb σ n) n).toNat := by
  have hp : pop (rmvb σ n) n = ((pop (rmvb σ n) n).toNat : Int) := by have := (pop_bnd (rmvb σ n) n).1; omega
  unfold wres
  rcases wup_mem (cm (bbr σ n R) n (pop (rmvb σ n) n).toNat (rmvb σ n)) (100, 0, []) with ⟨-, h⟩ | ⟨r, h1, h2⟩
  · obtain ⟨r, hr⟩ := List.exists_mem_of_ne_nil _ (cm_ne (b := bbr σ n R) _ _ hp)
    have h3 := wst_le (B := 12) (by decide) r 0 (by decide) (by decide) (cm_b (fun s => (bbr_bnd σ n R s).2) _ _ r hr)
    exact absurd (show wst r < 100 by unfold wst; omega) (h r hr)
  · rw [h2]
    exact cm_len _ _ hp r h1
def WayFr (σ υ : Mem) : Prop := (∀ j : Int, j ≠ 32 → j ≠ 33 → υ 64 j = σ 64 j) ∧ ∀ c : Nat, c ≠ 64 → (c < 85 ∨ 89 < c) → υ c = σ c
set_option maxRecDepth 100000 in
set_option maxHeartbeats 4000000 in
theorem X12_findWay {d : Nat} {n R F : Nat} {σ : Mem} {K : Int → Mem → Prop} (hw : RW σ n R F) (hb5 : σ 64 21 ≠ -5) (hp : RP σ 72 n) (hd : 9 ≤ d) (hk0 : ∀ υ : Mem, WayFr σ υ → WSt υ (wres σ n R) → K (pop (rmvb σ n) 12) υ) : Run mX12_findWay d [.inr (some 64)] σ (RI K) := by
  have hw0 := hw
  obtain ⟨⟨hn, hn6, hR, hR12, hF, hF6⟩, hru, hde, hwo, hli, hba, hwf⟩ := hw0
  refine Run_of (ls := [.inr (some 64), .inr none]) (by decide) (Nat.le_of_ble_eq_true rfl) rfl ?_
  have L : ∀ (k : Nat) (i : Nat) (τ : Mem), n - i < k → i ≤ n → (∀ c, c ≠ 85 → τ c = σ c) → (∀ j : Int, 0 ≤ j → j < i → τ 85 j = rbv σ j) → V mX12_findWay d (RI K) 2 [.inr (some 64), .inl (i : Int)] [] τ := by
    intro k
    induction k with
    | zero => intros; omega
    | succ k ih =>
        intro i τ hk hi g1 g2
        have g64 := g1 64 (by decide)
        refine v_iload1 3 dX12_findWay_2 rfl ?_
        refine v_aload0 4 dX12_findWay_3 rfl ?_
        refine v_getIe 7 0 (n) dX12_findWay_4 rfl fX12_93 rfl rfl rfl (by rw [g64]; exact hn) ?_
        refine v_icmp_ge 36 10 dX12_findWay_7 rfl rfl (fun h7 => ?_) (fun h7 => ?_)
        · skip
          refine v_aload0 37 dX12_findWay_36 rfl ?_
          refine v_bipush 39 dX12_findWay_37 rfl ⟨by decide +kernel, by decide⟩ ?_
          refine v_putI 42 32 dX12_findWay_39 rfl pX12_165 rfl rfl rfl ?_
          refine v_aload0 43 dX12_findWay_42 rfl ?_
          refine v_iconst 44 dX12_findWay_43 rfl ⟨by decide +kernel, by decide⟩ ?_
          refine v_putI 47 33 dX12_findWay_44 rfl pX12_168 rfl rfl rfl ?_
          refine v_aload0 48 dX12_findWay_47 rfl ?_
          refine v_cvI0 mX12_movedBits 51 dX12_findWay_48 rfl kX12_154 rfl rfl (by omega) (Nat.le_of_ble_eq_true rfl) ?_
          have hcw : CoreW σ (wr (wr τ 64 32 100) 64 33 0) := ⟨fun j a b => by rw [wr_at, if_neg b, wr_at, if_neg a, g64], fun c a b => by rw [wr_ne (by omega), wr_ne (by omega)]; exact g1 c (by omega)⟩
          refine X12_movedBits (hw.coreW hcw) (fun j a b => by rw [hcw.2 72 (by decide) (by decide)]; exact hp j a b) (by omega) ?_
          rw [rmvb_coreW hcw]
          have hpz : pop (rmvb σ n) n = ((pop (rmvb σ n) n).toNat : Int) := by have := (pop_bnd (rmvb σ n) n).1; omega
          have hm2 : rmvb σ n < 2 ^ n := bitsN_lt _ _
          have hm64 := rmvb_lt hw
          refine v_istore1 52 dX12_findWay_51 rfl (by decide) ?_
          refine v_aload0 53 dX12_findWay_52 rfl ?_
          refine v_iload1 54 dX12_findWay_53 rfl ?_
          refine v_iconst 55 dX12_findWay_54 rfl ⟨by decide +kernel, by decide⟩ ?_
          refine v_iconst 56 dX12_findWay_55 rfl ⟨by decide +kernel, by decide⟩ ?_
          refine v_iconst 57 dX12_findWay_56 rfl ⟨by decide +kernel, by decide⟩ ?_
          refine v_cvV4 mX12_goOn 60 dX12_findWay_57 rfl kX12_171 rfl rfl (by omega) (Nat.le_of_ble_eq_true rfl) ?_
          refine Run_args (vs' := [.inr (some 64), .inl ((rmvb σ n : Nat) : Int), .inl (([] : List (Int × Int)).length : Int), .inl (wst []), .inl (smm [])]) rfl ?_
          refine X12_goOn hw hb5 hp (pop (rmvb σ n) n).toNat (d - 1) (rmvb σ n) [] _ (100, 0, []) _ (by have := (pop_bnd (rmvb σ n) n).2; omega) hpz hm2 (by have := (pop_bnd (rmvb σ n) n).2; show 0 + _ ≤ 6; omega) ⟨by decide, by decide⟩ ⟨by decide, by decide⟩ hcw (fun j a b => ?_) (fun i x h => by cases h) ⟨rfl, rfl, fun i x h => by cases h⟩ (fun υ hfin => ?_)
          · rw [wr_ne (by decide), wr_ne (by decide), g2 j a (by omega)]
            unfold gv
            split
            · rfl
            · rename_i hnb
              have h1 : mv (σ 64 21) (rbv σ) (σ 72) j = false := by
                have h2 := bitsN_test (fun d => mv (σ 64 21) (rbv σ) (σ 72) (d : Int)) n j.toNat
                have h3 : (rmvb σ n).testBit j.toNat = false := by simpa using hnb
                unfold rmvb at h3
                rw [h3, Int.toNat_of_nonneg a] at h2
                have h4 : decide (j.toNat < n) = true := decide_eq_true (by omega)
                rw [h4] at h2
                simpa using h2.symm
              have h5 : ¬ (σ 64 21 ≠ -5 ∧ σ 72 j ≠ rbv σ j) := of_decide_eq_false h1
              exact (Classical.not_not.mp (fun q => h5 ⟨hb5, fun e => q e.symm⟩))
          obtain ⟨e1, e2, e3, e4, e5⟩ := hfin
          refine v_iload1 61 dX12_findWay_60 rfl ?_
          refine v_csI1 mX12_ones 64 dX12_findWay_61 rfl kX12_158 (by omega) (Nat.le_of_ble_eq_true rfl) ?_
          refine X12_ones (by omega) ?_
          refine v_iretI dX12_findWay_64 rfl ?_
          refine hk0 υ ⟨fun j a b => ?_, fun c a b => ?_⟩ ?_
          · rw [e1.1 j a b]; exact hcw.1 j a b
          · rw [e2 c a (by omega) (by omega) (by omega) (by omega) (by omega), wr_ne a, wr_ne a]; exact g1 c (by omega)
          · have e9 : (List.map (fun q => ([] : List (Int × Int)) ++ q) (cm (bbr σ n R) n (pop (rmvb σ n) n).toNat (rmvb σ n))) = cm (bbr σ n R) n (pop (rmvb σ n) n).toNat (rmvb σ n) := by
              have : (fun q : List (Int × Int) => ([] : List (Int × Int)) ++ q) = id := by funext q; rfl
              rw [this, List.map_id]
            rw [e9] at e5
            exact e5
        · skip
          have hb0 := (hba.resolve_left hb5)
          refine v_aload0 11 dX12_findWay_10 rfl ?_
          refine v_getR 14 dX12_findWay_11 rfl fX12_74 rfl rfl ?_
          refine v_iload1 15 dX12_findWay_14 rfl ?_
          refine v_aload0 16 dX12_findWay_15 rfl ?_
          refine v_getR 19 dX12_findWay_16 rfl fX12_52 rfl rfl ?_
          refine v_bipush 21 dX12_findWay_19 rfl ⟨by decide +kernel, by decide⟩ ?_
          refine v_aload0 22 dX12_findWay_21 rfl ?_
          refine v_getIe 25 21 (σ 64 21) dX12_findWay_22 rfl fX12_58 rfl rfl rfl (by rw [g64]) ?_
          refine v_imul 26 dX12_findWay_25 rfl (⟨by omega, by omega⟩) ?_
          refine v_iload1 27 dX12_findWay_26 rfl ?_
          refine v_iadd 28 dX12_findWay_27 rfl (⟨by omega, by omega⟩) ?_
          refine v_ialde 29 (rbv σ (i : Int)) dX12_findWay_28 rfl rfl (⟨by omega, by omega⟩) (by rw [g1 79 (by decide)]) ?_
          refine v_iast 30 dX12_findWay_29 rfl rfl (⟨by omega, by omega⟩) ?_
          refine v_iinc1 33 dX12_findWay_30 rfl (by decide) rfl (⟨by omega, by omega⟩) ?_
          refine v_goto 2 dX12_findWay_33 rfl ?_
          exact ih (i + 1) _ (by omega) (by omega) (fun c a => by rw [wr_ne a]; exact g1 c a) (fun j a b => by
            rw [wr_at]
            by_cases ej : j = (i : Int)
            · rw [if_pos ej, ej]
            · rw [if_neg ej]; exact g2 j a (by omega))
  refine v_iconst 1 dX12_findWay_0 rfl ⟨by decide +kernel, by decide⟩ ?_
  refine v_istore1 2 dX12_findWay_1 rfl (by decide) ?_
  exact L (n + 1) 0 σ (by omega) (by omega) (fun _ _ => rfl) (fun j a b => by omega)
set_option maxRecDepth 100000 in
set_option maxHeartbeats 4000000 in
theorem X12_way {d : Nat} {n R F : Nat} {ii : Int} {σ : Mem} {K : Int → Mem → Prop} (hw : RW σ n R F) (hp : RP σ 72 n) (hd : 10 ≤ d) (o1 : σ 64 21 = -5 → K (-3) σ) (o2 : σ 64 21 ≠ -5 → ∀ υ : Mem, WayFr σ υ → K (if 0 ≤ ii ∧ ii < ((wres σ n R).2.2.length : Int) then ((wres σ n R).2.2.getD ii.toNat (0, 0)).1 else -5) υ) : Run mX12_way d [.inr (some 64), .inl ii] σ (RI K) := by
  have hw0 := hw
  obtain ⟨⟨hn, hn6, hR, hR12, hF, hF6⟩, hru, hde, hwo, hli, hba, hwf⟩ := hw0
  refine Run_of (ls := [.inr (some 64), .inl ii, .inr none]) (by decide) (Nat.le_of_ble_eq_true rfl) rfl ?_
  refine v_aload0 1 dX12_way_0 rfl ?_
  refine v_getI 4 21 dX12_way_1 rfl fX12_58 rfl rfl rfl ?_
  refine v_bipush 6 dX12_way_4 rfl ⟨by decide +kernel, by decide⟩ ?_
  refine v_icmp_ne 12 9 dX12_way_6 rfl rfl (fun h6 => ?_) (fun h6 => ?_)
  · skip
    refine v_aload0 13 dX12_way_12 rfl ?_
    refine v_cvI0 mX12_findWay 16 dX12_way_13 rfl kX12_175 rfl rfl (by omega) (Nat.le_of_ble_eq_true rfl) ?_
    refine X12_findWay hw h6 hp (by omega) (fun υ f1 f2 => ?_)
    have hm2 : rmvb σ n < 2 ^ n := bitsN_lt _ _
    have hpe : pop (rmvb σ n) 12 = ((wres σ n R).2.2.length : Int) := by
      rw [wres_len]
      have h1 := pop_ext hm2 (12 - n)
      rw [show n + (12 - n) = 12 by omega] at h1
      have := (pop_bnd (rmvb σ n) n).1
      omega
    have hpb := (pop_bnd (rmvb σ n) n)
    have hlb : (wres σ n R).2.2.length ≤ 6 := by rw [wres_len]; omega
    rw [hpe]
    refine v_istore2 17 dX12_way_16 rfl (by decide) ?_
    refine v_iload1 18 dX12_way_17 rfl ?_
    refine v_iconst 19 dX12_way_18 rfl ⟨by decide +kernel, by decide⟩ ?_
    refine v_iload2 20 dX12_way_19 rfl ?_
    refine v_iconst 21 dX12_way_20 rfl ⟨by decide +kernel, by decide⟩ ?_
    refine v_isub 22 dX12_way_21 rfl (⟨by omega, by omega⟩) ?_
    refine v_csI3 mX12_out 25 dX12_way_22 rfl kX12_96 (by omega) (Nat.le_of_ble_eq_true rfl) ?_
    refine X12_out (fun h22 => ?_) (fun h22 => ?_)
    · skip
      refine v_if_eq 33 28 dX12_way_25 rfl rfl (fun h => absurd h (by decide)) (fun _ => ?_)
      refine v_bipush 30 dX12_way_28 rfl ⟨by decide +kernel, by decide⟩ ?_
      refine v_goto 39 dX12_way_30 rfl ?_
      refine v_iretI dX12_way_39 rfl ?_
      have := o2 h6 υ f1
      first
        | (rw [if_pos (by omega)] at this; exact this)
        | (rw [if_neg (by omega)] at this; exact this)
    · skip
      refine v_if_eq 33 28 dX12_way_25 rfl rfl (fun _ => ?_) (fun h => absurd (by decide) h)
      refine v_aload0 34 dX12_way_33 rfl ?_
      refine v_getR 37 dX12_way_34 rfl fX12_80 rfl rfl ?_
      refine v_iload1 38 dX12_way_37 rfl ?_
      refine v_ialde 39 (((wres σ n R).2.2.getD ii.toNat (0, 0)).1) dX12_way_38 rfl rfl (⟨by omega, by omega⟩) (by
  have hg : (wres σ n R).2.2[ii.toNat]? = some ((wres σ n R).2.2.getD ii.toNat (0, 0)) := by
    rw [List.getD_eq_getElem?_getD, List.getElem?_eq_getElem (by omega)]; rfl
  have := (f2.2.2 ii.toNat _ hg).1
  rw [Int.toNat_of_nonneg (by omega)] at this
  exact this) ?_
      refine v_iretI dX12_way_39 rfl ?_
      have := o2 h6 υ f1
      first
        | (rw [if_pos (by omega)] at this; exact this)
        | (rw [if_neg (by omega)] at this; exact this)
  · skip
    refine v_bipush 11 dX12_way_9 rfl ⟨by decide +kernel, by decide⟩ ?_
    refine v_iretI dX12_way_11 rfl ?_
    exact o1 (by omega)
set_option maxRecDepth 100000 in
set_option maxHeartbeats 4000000 in
theorem X12_broken {d : Nat} {n R F : Nat} {ii : Int} {σ : Mem} {K : Int → Mem → Prop} (hw : RW σ n R F) (hp : RP σ 72 n) (hd : 10 ≤ d) (o1 : σ 64 21 = -5 → K (-3) σ) (o2 : σ 64 21 ≠ -5 → ∀ υ : Mem, WayFr σ υ → K (if 0 ≤ ii ∧ ii < ((wres σ n R).2.2.length : Int) then ((wres σ n R).2.2.getD ii.toNat (0, 0)).2 else -5) υ) : Run mX12_broken d [.inr (some 64), .inl ii] σ (RI K) := by
  have hw0 := hw
  obtain ⟨⟨hn, hn6, hR, hR12, hF, hF6⟩, hru, hde, hwo, hli, hba, hwf⟩ := hw0
  refine Run_of (ls := [.inr (some 64), .inl ii, .inr none]) (by decide) (Nat.le_of_ble_eq_true rfl) rfl ?_
  refine v_aload0 1 dX12_broken_0 rfl ?_
  refine v_getI 4 21 dX12_broken_1 rfl fX12_58 rfl rfl rfl ?_
  refine v_bipush 6 dX12_broken_4 rfl ⟨by decide +kernel, by decide⟩ ?_
  refine v_icmp_ne 12 9 dX12_broken_6 rfl rfl (fun h6 => ?_) (fun h6 => ?_)
  · skip
    refine v_aload0 13 dX12_broken_12 rfl ?_
    refine v_cvI0 mX12_findWay 16 dX12_broken_13 rfl kX12_175 rfl rfl (by omega) (Nat.le_of_ble_eq_true rfl) ?_
    refine X12_findWay hw h6 hp (by omega) (fun υ f1 f2 => ?_)
    have hm2 : rmvb σ n < 2 ^ n := bitsN_lt _ _
    have hpe : pop (rmvb σ n) 12 = ((wres σ n R).2.2.length : Int) := by
      rw [wres_len]
      have h1 := pop_ext hm2 (12 - n)
      rw [show n + (12 - n) = 12 by omega] at h1
      have := (pop_bnd (rmvb σ n) n).1
      omega
    have hpb := (pop_bnd (rmvb σ n) n)
    have hlb : (wres σ n R).2.2.length ≤ 6 := by rw [wres_len]; omega
    rw [hpe]
    refine v_istore2 17 dX12_broken_16 rfl (by decide) ?_
    refine v_iload1 18 dX12_broken_17 rfl ?_
    refine v_iconst 19 dX12_broken_18 rfl ⟨by decide +kernel, by decide⟩ ?_
    refine v_iload2 20 dX12_broken_19 rfl ?_
    refine v_iconst 21 dX12_broken_20 rfl ⟨by decide +kernel, by decide⟩ ?_
    refine v_isub 22 dX12_broken_21 rfl (⟨by omega, by omega⟩) ?_
    refine v_csI3 mX12_out 25 dX12_broken_22 rfl kX12_96 (by omega) (Nat.le_of_ble_eq_true rfl) ?_
    refine X12_out (fun h22 => ?_) (fun h22 => ?_)
    · skip
      refine v_if_eq 33 28 dX12_broken_25 rfl rfl (fun h => absurd h (by decide)) (fun _ => ?_)
      refine v_bipush 30 dX12_broken_28 rfl ⟨by decide +kernel, by decide⟩ ?_
      refine v_goto 39 dX12_broken_30 rfl ?_
      refine v_iretI dX12_broken_39 rfl ?_
      have := o2 h6 υ f1
      first
        | (rw [if_pos (by omega)] at this; exact this)
        | (rw [if_neg (by omega)] at this; exact this)
    · skip
      refine v_if_eq 33 28 dX12_broken_25 rfl rfl (fun _ => ?_) (fun h => absurd (by decide) h)
      refine v_aload0 34 dX12_broken_33 rfl ?_
      refine v_getR 37 dX12_broken_34 rfl fX12_83 rfl rfl ?_
      refine v_iload1 38 dX12_broken_37 rfl ?_
      refine v_ialde 39 (((wres σ n R).2.2.getD ii.toNat (0, 0)).2) dX12_broken_38 rfl rfl (⟨by omega, by omega⟩) (by
  have hg : (wres σ n R).2.2[ii.toNat]? = some ((wres σ n R).2.2.getD ii.toNat (0, 0)) := by
    rw [List.getD_eq_getElem?_getD, List.getElem?_eq_getElem (by omega)]; rfl
  have := (f2.2.2 ii.toNat _ hg).2
  rw [Int.toNat_of_nonneg (by omega)] at this
  exact this) ?_
      refine v_iretI dX12_broken_39 rfl ?_
      have := o2 h6 υ f1
      first
        | (rw [if_pos (by omega)] at this; exact this)
        | (rw [if_neg (by omega)] at this; exact this)
  · skip
    refine v_bipush 11 dX12_broken_9 rfl ⟨by decide +kernel, by decide⟩ ?_
    refine v_iretI dX12_broken_11 rfl ?_
    exact o1 (by omega)
