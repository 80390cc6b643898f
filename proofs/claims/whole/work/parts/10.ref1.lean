set_option maxRecDepth 100000 in
set_option maxHeartbeats 4000000 in
theorem mul_bnd {a b A B : Int} (ha : 0 ≤ a ∧ a ≤ A) (hb : 0 ≤ b ∧ b ≤ B) : 0 ≤ a * b ∧ a * b ≤ A * B := ⟨Int.mul_nonneg ha.1 hb.1, Int.mul_le_mul ha.2 hb.2 hb.1 (by omega)⟩
theorem one_dt {p : Prop} [Decidable p] (h : p) : one (decide p) = 1 := by rw [decide_eq_true h]; rfl
theorem one_df {p : Prop} [Decidable p] (h : ¬ p) : one (decide p) = 0 := by rw [decide_eq_false h]; rfl
theorem sum_s {f : Int → Int} {i : Nat} {acc x : Int} (ha : acc = sumI f i) (hx : f (i : Int) = x) : acc + x = sumI f (i + 1) := by rw [sumI, ha, hx]
/-- the reference's memory is as its calls leave it: n decisions, R rules, F facts -/
def RW (σ : Mem) (n R F : Nat) : Prop := (σ 64 0 = n ∧ n ≤ 6 ∧ σ 64 12 = R ∧ R ≤ 12 ∧ σ 64 10 = F ∧ F ≤ 6) ∧
  (∀ r : Int, 0 ≤ r → r < R → 0 ≤ σ 75 r ∧ σ 75 r ≤ 5 ∧ 0 ≤ σ 78 r ∧ σ 78 r < F ∧ (σ 75 r = 5 → 0 ≤ σ 77 r ∧ σ 77 r ≤ 5) ∧ (σ 75 r ≠ 5 → 0 ≤ σ 76 r ∧ σ 76 r < n ∧ 0 ≤ σ 77 r ∧ σ 77 r < n)) ∧
  (∀ d : Int, 0 ≤ d → d < n → 0 ≤ σ 65 d ∧ σ 65 d ≤ σ 66 d ∧ σ 66 d ≤ 5 ∧ 0 ≤ σ 67 d ∧ σ 67 d ≤ 3 ∧ 0 ≤ σ 68 d ∧ σ 68 d ≤ 100 ∧ 0 ≤ σ 69 d ∧ σ 69 d ≤ 20 ∧ (σ 70 d = -5 ∨ (σ 65 d ≤ σ 70 d ∧ σ 70 d ≤ σ 66 d))) ∧
  (∀ i : Int, 0 ≤ i → i < 36 → 0 ≤ σ 71 i ∧ σ 71 i ≤ 100) ∧ (∀ p : Int, 0 ≤ p → p < 4 → 0 ≤ σ 73 p ∧ σ 73 p ≤ 6) ∧
  (σ 64 21 = -5 ∨ (0 ≤ σ 64 21 ∧ σ 64 21 < 3 ∧ ∀ d : Int, 0 ≤ d → d < n → 0 ≤ σ 79 (6 * σ 64 21 + d) ∧ σ 79 (6 * σ 64 21 + d) ≤ 5)) ∧ (σ 64 17 = 0 ∨ σ 64 17 = 1)
/-- a plan in a row -/
def RP (σ : Mem) (pp n : Nat) : Prop := ∀ i : Int, 0 ≤ i → i < n → 0 ≤ σ pp i ∧ σ pp i ≤ 5
abbrev rbv (σ : Mem) : Int → Int := fun d => σ 79 (6 * σ 64 21 + d)
abbrev rrk (σ : Mem) (p : Int → Int) (n : Nat) (r : Int) : Bool := rk (σ 75 r) (σ 76 r) (σ 77 r) (σ 74 (σ 78 r)) p n
/-- the rules that a plan breaks, as bits -/
def rbrk (σ : Mem) (p : Int → Int) (n R : Nat) : Nat := bitsN (fun r => !rrk σ p n (r : Int)) R
def rAlw (σ : Mem) (p : Int → Int) (n : Nat) : Prop := (∀ w : Int, 0 ≤ w → w < 4 → sumI (fun d => one (decide (σ 67 d = w) && mv (σ 64 21) (rbv σ) p d)) n ≤ σ 73 w) ∧ ∀ d : Int, 0 ≤ d → d < n → σ 65 d ≤ p d ∧ p d ≤ σ 66 d ∧ (σ 70 d = -5 ∨ σ 70 d = p d)
theorem rw_n {σ : Mem} {n R F : Nat} (h : RW σ n R F) : 0 ≤ σ 64 0 ∧ σ 64 0 ≤ 6 := by obtain ⟨⟨h1, h2, -⟩, -⟩ := h; omega
set_option maxRecDepth 100000 in
set_option maxHeartbeats 4000000 in
theorem X12_out {d : Nat} {a b c : Int} {σ : Mem} {K : Int → Mem → Prop} (ht : a < b ∨ c < a → K 1 σ) (hf : b ≤ a ∧ a ≤ c → K 0 σ) : Run mX12_out d [.inl a, .inl b, .inl c] σ (RI K) := by
  refine Run_of (ls := [.inl a, .inl b, .inl c]) (by decide) (Nat.le_of_ble_eq_true rfl) rfl ?_
  refine v_iload0 1 dX12_out_0 rfl ?_
  refine v_iload1 2 dX12_out_1 rfl ?_
  refine v_icmp_lt 10 5 dX12_out_2 rfl rfl (fun h2 => ?_) (fun h2 => ?_)
  · skip
    refine v_iconst 11 dX12_out_10 rfl ⟨by decide +kernel, by decide⟩ ?_
    refine v_goto 15 dX12_out_11 rfl ?_
    refine v_zretI dX12_out_15 rfl (Or.inr rfl) ?_
    first | exact ht (by omega) | exact hf (by omega)
  · skip
    refine v_iload0 6 dX12_out_5 rfl ?_
    refine v_iload2 7 dX12_out_6 rfl ?_
    refine v_icmp_le 14 10 dX12_out_7 rfl rfl (fun h7 => ?_) (fun h7 => ?_)
    · skip
      refine v_iconst 15 dX12_out_14 rfl ⟨by decide +kernel, by decide⟩ ?_
      refine v_zretI dX12_out_15 rfl (Or.inl rfl) ?_
      first | exact ht (by omega) | exact hf (by omega)
    · skip
      refine v_iconst 11 dX12_out_10 rfl ⟨by decide +kernel, by decide⟩ ?_
      refine v_goto 15 dX12_out_11 rfl ?_
      refine v_zretI dX12_out_15 rfl (Or.inr rfl) ?_
      first | exact ht (by omega) | exact hf (by omega)
set_option maxRecDepth 100000 in
set_option maxHeartbeats 4000000 in
theorem X12_noDecision {d : Nat} {k : Int} {σ : Mem} {K : Int → Mem → Prop} (hn : 0 ≤ σ 64 0 ∧ σ 64 0 ≤ 6) (hd : 1 ≤ d) (ht : k < 0 ∨ σ 64 0 ≤ k → K 1 σ) (hf : 0 ≤ k ∧ k < σ 64 0 → K 0 σ) : Run mX12_noDecision d [.inr (some 64), .inl k] σ (RI K) := by
  refine Run_of (ls := [.inr (some 64), .inl k]) (by decide) (Nat.le_of_ble_eq_true rfl) rfl ?_
  refine v_iload1 1 dX12_noDecision_0 rfl ?_
  refine v_iconst 2 dX12_noDecision_1 rfl ⟨by decide +kernel, by decide⟩ ?_
  refine v_aload0 3 dX12_noDecision_2 rfl ?_
  refine v_getI 6 0 dX12_noDecision_3 rfl fX12_93 rfl rfl rfl ?_
  refine v_iconst 7 dX12_noDecision_6 rfl ⟨by decide +kernel, by decide⟩ ?_
  refine v_isub 8 dX12_noDecision_7 rfl (⟨by omega, by omega⟩) ?_
  refine v_csI3 mX12_out 11 dX12_noDecision_8 rfl kX12_96 (by omega) (Nat.le_of_ble_eq_true rfl) ?_
  refine X12_out (fun h8 => ?_) (fun h8 => ?_)
  · skip
    refine v_zretI dX12_noDecision_11 rfl (Or.inr rfl) ?_
    first | exact ht (by omega) | exact hf (by omega)
  · skip
    refine v_zretI dX12_noDecision_11 rfl (Or.inl rfl) ?_
    first | exact ht (by omega) | exact hf (by omega)
set_option maxRecDepth 100000 in
set_option maxHeartbeats 4000000 in
theorem X12_mayHave {d : Nat} {k v : Int} {σ : Mem} {K : Int → Mem → Prop} (hk : 0 ≤ k ∧ k < 6) (hd : 1 ≤ d) (ht : σ 65 k ≤ v ∧ v ≤ σ 66 k → K 1 σ) (hf : v < σ 65 k ∨ σ 66 k < v → K 0 σ) : Run mX12_mayHave d [.inr (some 64), .inl k, .inl v] σ (RI K) := by
  refine Run_of (ls := [.inr (some 64), .inl k, .inl v]) (by decide) (Nat.le_of_ble_eq_true rfl) rfl ?_
  refine v_iload2 1 dX12_mayHave_0 rfl ?_
  refine v_aload0 2 dX12_mayHave_1 rfl ?_
  refine v_getR 5 dX12_mayHave_2 rfl fX12_7 rfl rfl ?_
  refine v_iload1 6 dX12_mayHave_5 rfl ?_
  refine v_iald 7 dX12_mayHave_6 rfl rfl (⟨by omega, by omega⟩) ?_
  refine v_aload0 8 dX12_mayHave_7 rfl ?_
  refine v_getR 11 dX12_mayHave_8 rfl fX12_13 rfl rfl ?_
  refine v_iload1 12 dX12_mayHave_11 rfl ?_
  refine v_iald 13 dX12_mayHave_12 rfl rfl (⟨by omega, by omega⟩) ?_
  refine v_csI3 mX12_out 16 dX12_mayHave_13 rfl kX12_96 (by omega) (Nat.le_of_ble_eq_true rfl) ?_
  refine X12_out (fun h13 => ?_) (fun h13 => ?_)
  · skip
    refine v_if_ne 23 19 dX12_mayHave_16 rfl rfl (fun _ => ?_) (fun h => absurd (by decide) h)
    refine v_iconst 24 dX12_mayHave_23 rfl ⟨by decide +kernel, by decide⟩ ?_
    refine v_zretI dX12_mayHave_24 rfl (Or.inl rfl) ?_
    first | exact ht (by omega) | exact hf (by omega)
  · skip
    refine v_if_ne 23 19 dX12_mayHave_16 rfl rfl (fun h => absurd h (by decide)) (fun _ => ?_)
    refine v_iconst 20 dX12_mayHave_19 rfl ⟨by decide +kernel, by decide⟩ ?_
    refine v_goto 24 dX12_mayHave_20 rfl ?_
    refine v_zretI dX12_mayHave_24 rfl (Or.inr rfl) ?_
    first | exact ht (by omega) | exact hf (by omega)
set_option maxRecDepth 100000 in
set_option maxHeartbeats 4000000 in
theorem X12_keeps {d : Nat} {pp n R F : Nat} {r : Int} {σ : Mem} {K : Int → Mem → Prop} (hw : RW σ n R F) (hpp : shapes[pp]? = some (0, 6, [])) (hp : RP σ pp n) (hr : 0 ≤ r ∧ r < R) (ht : rrk σ (σ pp) n r = true → K 1 σ) (hf : rrk σ (σ pp) n r = false → K 0 σ) : Run mX12_keeps d [.inr (some 64), .inr (some pp), .inl r] σ (RI K) := by
  have hw0 := hw
  obtain ⟨⟨hn, hn6, hR, hR12, hF, hF6⟩, hru, hde, hwo, hli, hba, hwf⟩ := hw0
  have hr1 := hru r hr.1 hr.2
  
  refine Run_of (ls := [.inr (some 64), .inr (some pp), .inl r, .inr none, .inr none, .inr none, .inr none]) (by decide) (Nat.le_of_ble_eq_true rfl) rfl ?_
  refine v_aload0 1 dX12_keeps_0 rfl ?_
  refine v_getR 4 dX12_keeps_1 rfl fX12_37 rfl rfl ?_
  refine v_aload0 5 dX12_keeps_4 rfl ?_
  refine v_getR 8 dX12_keeps_5 rfl fX12_49 rfl rfl ?_
  refine v_iload2 9 dX12_keeps_8 rfl ?_
  refine v_iald 10 dX12_keeps_9 rfl rfl (⟨by omega, by omega⟩) ?_
  refine v_iald 11 dX12_keeps_10 rfl rfl (⟨by omega, by omega⟩) ?_
  refine v_istore3 12 dX12_keeps_11 rfl (by decide) ?_
  refine v_aload0 13 dX12_keeps_12 rfl ?_
  refine v_getR 16 dX12_keeps_13 rfl fX12_40 rfl rfl ?_
  refine v_iload2 17 dX12_keeps_16 rfl ?_
  refine v_iald 18 dX12_keeps_17 rfl rfl (⟨by omega, by omega⟩) ?_
  refine v_iconst 19 dX12_keeps_18 rfl ⟨by decide +kernel, by decide⟩ ?_
  refine v_icmp_ne 78 22 dX12_keeps_19 rfl rfl (fun h19 => ?_) (fun h19 => ?_)
  · skip
    have hq := hr1.2.2.2.2.2 h19
    have hpa := hp _ hq.1 hq.2.1
    have hpb := hp _ hq.2.2.1 hq.2.2.2
    refine v_aload1 79 dX12_keeps_78 rfl ?_
    refine v_aload0 80 dX12_keeps_79 rfl ?_
    refine v_getR 83 dX12_keeps_80 rfl fX12_43 rfl rfl ?_
    refine v_iload2 84 dX12_keeps_83 rfl ?_
    refine v_iald 85 dX12_keeps_84 rfl rfl (⟨by omega, by omega⟩) ?_
    refine v_iald 86 dX12_keeps_85 rfl hpp (⟨by omega, by omega⟩) ?_
    refine v_istore4 88 dX12_keeps_86 rfl (by decide) ?_
    refine v_aload1 89 dX12_keeps_88 rfl ?_
    refine v_aload0 90 dX12_keeps_89 rfl ?_
    refine v_getR 93 dX12_keeps_90 rfl fX12_46 rfl rfl ?_
    refine v_iload2 94 dX12_keeps_93 rfl ?_
    refine v_iald 95 dX12_keeps_94 rfl rfl (⟨by omega, by omega⟩) ?_
    refine v_iald 96 dX12_keeps_95 rfl hpp (⟨by omega, by omega⟩) ?_
    refine v_istore5 98 dX12_keeps_96 rfl (by decide) ?_
    refine v_iload4 100 dX12_keeps_98 rfl ?_
    refine v_iload5 102 dX12_keeps_100 rfl ?_
    refine v_icmp_le 113 105 dX12_keeps_102 rfl rfl (fun h102 => ?_) (fun h102 => ?_)
    · skip
      refine v_iload5 115 dX12_keeps_113 rfl ?_
      refine v_iload4 117 dX12_keeps_115 rfl ?_
      refine v_isub 118 dX12_keeps_117 rfl (⟨by omega, by omega⟩) ?_
      refine v_istore6 120 dX12_keeps_118 rfl (by decide) ?_
      refine v_aload0 121 dX12_keeps_120 rfl ?_
      refine v_getR 124 dX12_keeps_121 rfl fX12_40 rfl rfl ?_
      refine v_iload2 125 dX12_keeps_124 rfl ?_
      refine v_iald 126 dX12_keeps_125 rfl rfl (⟨by omega, by omega⟩) ?_
      rcases (show σ 75 r = 0 ∨ σ 75 r = 1 ∨ σ 75 r = 2 ∨ σ 75 r = 3 ∨ σ 75 r = 4 by omega) with hsw | hsw | hsw | hsw | hsw
      · skip
        refine v_tabIn (off := 30) 156 dX12_keeps_126 (by omega) (by omega) (by rw [hsw]; rfl) rfl ?_
        refine v_iload4 158 dX12_keeps_156 rfl ?_
        refine v_iload5 160 dX12_keeps_158 rfl ?_
        refine v_isub 161 dX12_keeps_160 rfl (⟨by omega, by omega⟩) ?_
        refine v_iload3 162 dX12_keeps_161 rfl ?_
        refine v_icmp_gt 169 165 dX12_keeps_162 rfl rfl (fun h162 => ?_) (fun h162 => ?_)
        · skip
          refine v_iconst 170 dX12_keeps_169 rfl ⟨by decide +kernel, by decide⟩ ?_
          refine v_zretI dX12_keeps_170 rfl (Or.inl rfl) ?_
          exact hf (by simp only [rrk, rk, hsw]; exact decide_eq_false (by omega))
        · skip
          refine v_iconst 166 dX12_keeps_165 rfl ⟨by decide +kernel, by decide⟩ ?_
          refine v_goto 170 dX12_keeps_166 rfl ?_
          refine v_zretI dX12_keeps_170 rfl (Or.inr rfl) ?_
          exact ht (by simp only [rrk, rk, hsw]; exact decide_eq_true (by omega))
      · skip
        refine v_tabIn (off := 45) 171 dX12_keeps_126 (by omega) (by omega) (by rw [hsw]; rfl) rfl ?_
        refine v_iload4 173 dX12_keeps_171 rfl ?_
        refine v_iload5 175 dX12_keeps_173 rfl ?_
        refine v_iadd 176 dX12_keeps_175 rfl (⟨by omega, by omega⟩) ?_
        refine v_iload3 177 dX12_keeps_176 rfl ?_
        refine v_icmp_gt 184 180 dX12_keeps_177 rfl rfl (fun h177 => ?_) (fun h177 => ?_)
        · skip
          refine v_iconst 185 dX12_keeps_184 rfl ⟨by decide +kernel, by decide⟩ ?_
          refine v_zretI dX12_keeps_185 rfl (Or.inl rfl) ?_
          exact hf (by simp only [rrk, rk, hsw]; exact decide_eq_false (by omega))
        · skip
          refine v_iconst 181 dX12_keeps_180 rfl ⟨by decide +kernel, by decide⟩ ?_
          refine v_goto 185 dX12_keeps_181 rfl ?_
          refine v_zretI dX12_keeps_185 rfl (Or.inr rfl) ?_
          exact ht (by simp only [rrk, rk, hsw]; exact decide_eq_true (by omega))
      · skip
        refine v_tabIn (off := 60) 186 dX12_keeps_126 (by omega) (by omega) (by rw [hsw]; rfl) rfl ?_
        refine v_iload4 188 dX12_keeps_186 rfl ?_
        refine v_iload5 190 dX12_keeps_188 rfl ?_
        refine v_iadd 191 dX12_keeps_190 rfl (⟨by omega, by omega⟩) ?_
        refine v_iload3 192 dX12_keeps_191 rfl ?_
        refine v_icmp_lt 199 195 dX12_keeps_192 rfl rfl (fun h192 => ?_) (fun h192 => ?_)
        · skip
          refine v_iconst 200 dX12_keeps_199 rfl ⟨by decide +kernel, by decide⟩ ?_
          refine v_zretI dX12_keeps_200 rfl (Or.inl rfl) ?_
          exact hf (by simp only [rrk, rk, hsw]; exact decide_eq_false (by omega))
        · skip
          refine v_iconst 196 dX12_keeps_195 rfl ⟨by decide +kernel, by decide⟩ ?_
          refine v_goto 200 dX12_keeps_196 rfl ?_
          refine v_zretI dX12_keeps_200 rfl (Or.inr rfl) ?_
          exact ht (by simp only [rrk, rk, hsw]; exact decide_eq_true (by omega))
      · skip
        refine v_tabIn (off := 75) 201 dX12_keeps_126 (by omega) (by omega) (by rw [hsw]; rfl) rfl ?_
        refine v_iload6 203 dX12_keeps_201 rfl ?_
        refine v_iload3 204 dX12_keeps_203 rfl ?_
        refine v_icmp_lt 211 207 dX12_keeps_204 rfl rfl (fun h204 => ?_) (fun h204 => ?_)
        · skip
          refine v_iconst 212 dX12_keeps_211 rfl ⟨by decide +kernel, by decide⟩ ?_
          refine v_zretI dX12_keeps_212 rfl (Or.inl rfl) ?_
          exact hf (by simp only [rrk, rk, hsw]; exact decide_eq_false (by unfold dist; split <;> omega))
        · skip
          refine v_iconst 208 dX12_keeps_207 rfl ⟨by decide +kernel, by decide⟩ ?_
          refine v_goto 212 dX12_keeps_208 rfl ?_
          refine v_zretI dX12_keeps_212 rfl (Or.inr rfl) ?_
          exact ht (by simp only [rrk, rk, hsw]; exact decide_eq_true (by unfold dist; split <;> omega))
      · skip
        refine v_tabOut 213 dX12_keeps_126 (by omega) rfl ?_
        refine v_iload6 215 dX12_keeps_213 rfl ?_
        refine v_iload3 216 dX12_keeps_215 rfl ?_
        refine v_icmp_gt 223 219 dX12_keeps_216 rfl rfl (fun h216 => ?_) (fun h216 => ?_)
        · skip
          refine v_iconst 224 dX12_keeps_223 rfl ⟨by decide +kernel, by decide⟩ ?_
          refine v_zretI dX12_keeps_224 rfl (Or.inl rfl) ?_
          exact hf (by simp only [rrk, rk, hsw]; exact decide_eq_false (by unfold dist; split <;> omega))
        · skip
          refine v_iconst 220 dX12_keeps_219 rfl ⟨by decide +kernel, by decide⟩ ?_
          refine v_goto 224 dX12_keeps_220 rfl ?_
          refine v_zretI dX12_keeps_224 rfl (Or.inr rfl) ?_
          exact ht (by simp only [rrk, rk, hsw]; exact decide_eq_true (by unfold dist; split <;> omega))
    · skip
      refine v_iload4 107 dX12_keeps_105 rfl ?_
      refine v_iload5 109 dX12_keeps_107 rfl ?_
      refine v_isub 110 dX12_keeps_109 rfl (⟨by omega, by omega⟩) ?_
      refine v_goto 118 dX12_keeps_110 rfl ?_
      refine v_istore6 120 dX12_keeps_118 rfl (by decide) ?_
      refine v_aload0 121 dX12_keeps_120 rfl ?_
      refine v_getR 124 dX12_keeps_121 rfl fX12_40 rfl rfl ?_
      refine v_iload2 125 dX12_keeps_124 rfl ?_
      refine v_iald 126 dX12_keeps_125 rfl rfl (⟨by omega, by omega⟩) ?_
      rcases (show σ 75 r = 0 ∨ σ 75 r = 1 ∨ σ 75 r = 2 ∨ σ 75 r = 3 ∨ σ 75 r = 4 by omega) with hsw | hsw | hsw | hsw | hsw
      · skip
        refine v_tabIn (off := 30) 156 dX12_keeps_126 (by omega) (by omega) (by rw [hsw]; rfl) rfl ?_
        refine v_iload4 158 dX12_keeps_156 rfl ?_
        refine v_iload5 160 dX12_keeps_158 rfl ?_
        refine v_isub 161 dX12_keeps_160 rfl (⟨by omega, by omega⟩) ?_
        refine v_iload3 162 dX12_keeps_161 rfl ?_
        refine v_icmp_gt 169 165 dX12_keeps_162 rfl rfl (fun h162 => ?_) (fun h162 => ?_)
        · skip
          refine v_iconst 170 dX12_keeps_169 rfl ⟨by decide +kernel, by decide⟩ ?_
          refine v_zretI dX12_keeps_170 rfl (Or.inl rfl) ?_
          exact hf (by simp only [rrk, rk, hsw]; exact decide_eq_false (by omega))
        · skip
          refine v_iconst 166 dX12_keeps_165 rfl ⟨by decide +kernel, by decide⟩ ?_
          refine v_goto 170 dX12_keeps_166 rfl ?_
          refine v_zretI dX12_keeps_170 rfl (Or.inr rfl) ?_
          exact ht (by simp only [rrk, rk, hsw]; exact decide_eq_true (by omega))
      · skip
        refine v_tabIn (off := 45) 171 dX12_keeps_126 (by omega) (by omega) (by rw [hsw]; rfl) rfl ?_
        refine v_iload4 173 dX12_keeps_171 rfl ?_
        refine v_iload5 175 dX12_keeps_173 rfl ?_
        refine v_iadd 176 dX12_keeps_175 rfl (⟨by omega, by omega⟩) ?_
        refine v_iload3 177 dX12_keeps_176 rfl ?_
        refine v_icmp_gt 184 180 dX12_keeps_177 rfl rfl (fun h177 => ?_) (fun h177 => ?_)
        · skip
          refine v_iconst 185 dX12_keeps_184 rfl ⟨by decide +kernel, by decide⟩ ?_
          refine v_zretI dX12_keeps_185 rfl (Or.inl rfl) ?_
          exact hf (by simp only [rrk, rk, hsw]; exact decide_eq_false (by omega))
        · skip
          refine v_iconst 181 dX12_keeps_180 rfl ⟨by decide +kernel, by decide⟩ ?_
          refine v_goto 185 dX12_keeps_181 rfl ?_
          refine v_zretI dX12_keeps_185 rfl (Or.inr rfl) ?_
          exact ht (by simp only [rrk, rk, hsw]; exact decide_eq_true (by omega))
      · skip
        refine v_tabIn (off := 60) 186 dX12_keeps_126 (by omega) (by omega) (by rw [hsw]; rfl) rfl ?_
        refine v_iload4 188 dX12_keeps_186 rfl ?_
        refine v_iload5 190 dX12_keeps_188 rfl ?_
        refine v_iadd 191 dX12_keeps_190 rfl (⟨by omega, by omega⟩) ?_
        refine v_iload3 192 dX12_keeps_191 rfl ?_
        refine v_icmp_lt 199 195 dX12_keeps_192 rfl rfl (fun h192 => ?_) (fun h192 => ?_)
        · skip
          refine v_iconst 200 dX12_keeps_199 rfl ⟨by decide +kernel, by decide⟩ ?_
          refine v_zretI dX12_keeps_200 rfl (Or.inl rfl) ?_
          exact hf (by simp only [rrk, rk, hsw]; exact decide_eq_false (by omega))
        · skip
          refine v_iconst 196 dX12_keeps_195 rfl ⟨by decide +kernel, by decide⟩ ?_
          refine v_goto 200 dX12_keeps_196 rfl ?_
          refine v_zretI dX12_keeps_200 rfl (Or.inr rfl) ?_
          exact ht (by simp only [rrk, rk, hsw]; exact decide_eq_true (by omega))
      · skip
        refine v_tabIn (off := 75) 201 dX12_keeps_126 (by omega) (by omega) (by rw [hsw]; rfl) rfl ?_
        refine v_iload6 203 dX12_keeps_201 rfl ?_
        refine v_iload3 204 dX12_keeps_203 rfl ?_
        refine v_icmp_lt 211 207 dX12_keeps_204 rfl rfl (fun h204 => ?_) (fun h204 => ?_)
        · skip
          refine v_iconst 212 dX12_keeps_211 rfl ⟨by decide +kernel, by decide⟩ ?_
          refine v_zretI dX12_keeps_212 rfl (Or.inl rfl) ?_
          exact hf (by simp only [rrk, rk, hsw]; exact decide_eq_false (by unfold dist; split <;> omega))
        · skip
          refine v_iconst 208 dX12_keeps_207 rfl ⟨by decide +kernel, by decide⟩ ?_
          refine v_goto 212 dX12_keeps_208 rfl ?_
          refine v_zretI dX12_keeps_212 rfl (Or.inr rfl) ?_
          exact ht (by simp only [rrk, rk, hsw]; exact decide_eq_true (by unfold dist; split <;> omega))
      · skip
        refine v_tabOut 213 dX12_keeps_126 (by omega) rfl ?_
        refine v_iload6 215 dX12_keeps_213 rfl ?_
        refine v_iload3 216 dX12_keeps_215 rfl ?_
        refine v_icmp_gt 223 219 dX12_keeps_216 rfl rfl (fun h216 => ?_) (fun h216 => ?_)
        · skip
          refine v_iconst 224 dX12_keeps_223 rfl ⟨by decide +kernel, by decide⟩ ?_
          refine v_zretI dX12_keeps_224 rfl (Or.inl rfl) ?_
          exact hf (by simp only [rrk, rk, hsw]; exact decide_eq_false (by unfold dist; split <;> omega))
        · skip
          refine v_iconst 220 dX12_keeps_219 rfl ⟨by decide +kernel, by decide⟩ ?_
          refine v_goto 224 dX12_keeps_220 rfl ?_
          refine v_zretI dX12_keeps_224 rfl (Or.inr rfl) ?_
          exact ht (by simp only [rrk, rk, hsw]; exact decide_eq_true (by unfold dist; split <;> omega))
  · skip
    have h19 : σ 75 r = 5 := by omega
    have L : ∀ (k : Nat) (i : Nat) (acc : Int), n - i < k → i ≤ n → acc = sumI (fun d => one (decide (σ pp d = σ 77 r))) i → V mX12_keeps d (RI K) 28 [.inr (some 64), .inr (some pp), .inl r, .inl (σ 74 (σ 78 r)), .inl acc, .inl (i : Int), .inr none] [] σ := by
      intro k
      induction k with
      | zero => intros; omega
      | succ k ih =>
          intro i acc hk hi ha
          have hb1 := sumI_bnd (f := fun d => one (decide (σ pp d = σ 77 r))) (m := 1) (n := i) (fun _ _ => one_bnd _)
          refine v_iload5 30 dX12_keeps_28 rfl ?_
          refine v_aload0 31 dX12_keeps_30 rfl ?_
          refine v_getI 34 0 dX12_keeps_31 rfl fX12_93 rfl rfl rfl ?_
          refine v_icmp_ge 66 37 dX12_keeps_34 rfl rfl (fun h34 => ?_) (fun h34 => ?_)
          · skip
            obtain rfl : i = n := by omega
            refine v_iload4 68 dX12_keeps_66 rfl ?_
            refine v_iload3 69 dX12_keeps_68 rfl ?_
            refine v_icmp_gt 76 72 dX12_keeps_69 rfl rfl (fun h69 => ?_) (fun h69 => ?_)
            · skip
              refine v_iconst 77 dX12_keeps_76 rfl ⟨by decide +kernel, by decide⟩ ?_
              refine v_zretI dX12_keeps_77 rfl (Or.inl rfl) ?_
              exact hf (by rw [rrk, rk, if_pos h19, ← ha]; exact decide_eq_false (by omega))
            · skip
              refine v_iconst 73 dX12_keeps_72 rfl ⟨by decide +kernel, by decide⟩ ?_
              refine v_goto 77 dX12_keeps_73 rfl ?_
              refine v_zretI dX12_keeps_77 rfl (Or.inr rfl) ?_
              exact ht (by rw [rrk, rk, if_pos h19, ← ha]; exact decide_eq_true (by omega))
          · skip
            refine v_iload4 39 dX12_keeps_37 rfl ?_
            refine v_aload1 40 dX12_keeps_39 rfl ?_
            refine v_iload5 42 dX12_keeps_40 rfl ?_
            refine v_iald 43 dX12_keeps_42 rfl hpp (⟨by omega, by omega⟩) ?_
            refine v_aload0 44 dX12_keeps_43 rfl ?_
            refine v_getR 47 dX12_keeps_44 rfl fX12_46 rfl rfl ?_
            refine v_iload2 48 dX12_keeps_47 rfl ?_
            refine v_iald 49 dX12_keeps_48 rfl rfl (⟨by omega, by omega⟩) ?_
            refine v_icmp_ne 56 52 dX12_keeps_49 rfl rfl (fun h49 => ?_) (fun h49 => ?_)
            · skip
              refine v_iconst 57 dX12_keeps_56 rfl ⟨by decide +kernel, by decide⟩ ?_
              refine v_iadd 58 dX12_keeps_57 rfl (⟨by omega, by omega⟩) ?_
              refine v_istore4 60 dX12_keeps_58 rfl (by decide) ?_
              refine v_iinc5 63 dX12_keeps_60 rfl (by decide) rfl (⟨by omega, by omega⟩) ?_
              refine v_goto 28 dX12_keeps_63 rfl ?_
              exact ih (i + 1) _ (by omega) (by omega) (sum_s ha (by first | exact one_dt (by omega) | exact one_df (by omega)))
            · skip
              refine v_iconst 53 dX12_keeps_52 rfl ⟨by decide +kernel, by decide⟩ ?_
              refine v_goto 57 dX12_keeps_53 rfl ?_
              refine v_iadd 58 dX12_keeps_57 rfl (⟨by omega, by omega⟩) ?_
              refine v_istore4 60 dX12_keeps_58 rfl (by decide) ?_
              refine v_iinc5 63 dX12_keeps_60 rfl (by decide) rfl (⟨by omega, by omega⟩) ?_
              refine v_goto 28 dX12_keeps_63 rfl ?_
              exact ih (i + 1) _ (by omega) (by omega) (sum_s ha (by first | exact one_dt (by omega) | exact one_df (by omega)))
    refine v_iconst 23 dX12_keeps_22 rfl ⟨by decide +kernel, by decide⟩ ?_
    refine v_istore4 25 dX12_keeps_23 rfl (by decide) ?_
    refine v_iconst 26 dX12_keeps_25 rfl ⟨by decide +kernel, by decide⟩ ?_
    refine v_istore5 28 dX12_keeps_26 rfl (by decide) ?_
    exact L (n + 1) 0 _ (by omega) (by omega) rfl
set_option maxRecDepth 100000 in
set_option maxHeartbeats 4000000 in
theorem X12_brokenOf {d : Nat} {pp n R F : Nat} {σ : Mem} {K : Int → Mem → Prop} (hw : RW σ n R F) (hpp : shapes[pp]? = some (0, 6, [])) (hp : RP σ pp n) (hd : 1 ≤ d) (hk0 : K (rbrk σ (σ pp) n R : Int) σ) : Run mX12_brokenOf d [.inr (some 64), .inr (some pp)] σ (RI K) := by
  have hw0 := hw
  obtain ⟨⟨hn, hn6, hR, hR12, hF, hF6⟩, hru, hde, hwo, hli, hba, hwf⟩ := hw0
  refine Run_of (ls := [.inr (some 64), .inr (some pp), .inr none, .inr none]) (by decide) (Nat.le_of_ble_eq_true rfl) rfl ?_
  have L : ∀ (k : Nat) (i acc : Nat), R - i < k → i ≤ R → acc = bitsN (fun r => !rrk σ (σ pp) n (r : Int)) i → V mX12_brokenOf d (RI K) 4 [.inr (some 64), .inr (some pp), .inl (acc : Int), .inl (i : Int)] [] σ := by
    intro k
    induction k with
    | zero => intros; omega
    | succ k ih =>
        intro i acc hk hi ha
        have hb1 : acc < 2 ^ i := by rw [ha]; exact bitsN_lt _ _
        have hb2 : 2 ^ i ≤ 2 ^ 12 := Nat.pow_le_pow_right (by omega) (by omega)
        have hb3 : (2 : Nat) ^ 12 = 4096 := by decide
        refine v_iload3 5 dX12_brokenOf_4 rfl ?_
        refine v_aload0 6 dX12_brokenOf_5 rfl ?_
        refine v_getI 9 12 dX12_brokenOf_6 rfl fX12_114 rfl rfl rfl ?_
        refine v_icmp_ge 37 12 dX12_brokenOf_9 rfl rfl (fun h9 => ?_) (fun h9 => ?_)
        · skip
          refine v_iload2 38 dX12_brokenOf_37 rfl ?_
          refine v_iretI dX12_brokenOf_38 rfl ?_
          obtain rfl : i = R := by omega
          rw [ha]
          exact hk0
        · skip
          refine v_iload2 13 dX12_brokenOf_12 rfl ?_
          refine v_aload0 14 dX12_brokenOf_13 rfl ?_
          refine v_aload1 15 dX12_brokenOf_14 rfl ?_
          refine v_iload3 16 dX12_brokenOf_15 rfl ?_
          refine v_cvI2 mX12_keeps 19 dX12_brokenOf_16 rfl kX12_120 rfl rfl (by omega) (Nat.le_of_ble_eq_true rfl) ?_
          refine X12_keeps hw hpp hp (by omega) (fun h16 => ?_) (fun h16 => ?_)
          · skip
            refine v_if_eq 26 22 dX12_brokenOf_19 rfl rfl (fun h => absurd h (by decide)) (fun _ => ?_)
            refine v_iconst 23 dX12_brokenOf_22 rfl ⟨by decide +kernel, by decide⟩ ?_
            refine v_goto 29 dX12_brokenOf_23 rfl ?_
            first | rw [bshl_one (by omega : i < 31), bor_pow hb1 (by omega)] | skip
            refine v_ior 30 dX12_brokenOf_29 rfl ?_
            refine v_istore2 31 dX12_brokenOf_30 rfl (by decide) ?_
            refine v_iinc3 34 dX12_brokenOf_31 rfl (by decide) rfl (⟨by omega, by omega⟩) ?_
            refine v_goto 4 dX12_brokenOf_34 rfl ?_
            have e9 : ((i : Int) + 1) = ((i + 1 : Nat) : Int) := by omega
            first | rw [bor_zero (by omega : acc < 2 ^ 31)] | rw [bshl_one (by omega : i < 31), bor_pow hb1 (by omega)]
            exact ih (i + 1) _ (by omega) (by omega) (by simp only [bitsN, h16, ← ha, Bool.not_true, Bool.not_false, if_true, if_false, Bool.false_eq_true, reduceIte, Nat.add_zero])
          · skip
            refine v_if_eq 26 22 dX12_brokenOf_19 rfl rfl (fun _ => ?_) (fun h => absurd (by decide) h)
            refine v_iconst 27 dX12_brokenOf_26 rfl ⟨by decide +kernel, by decide⟩ ?_
            refine v_iload3 28 dX12_brokenOf_27 rfl ?_
            refine v_ishl 29 dX12_brokenOf_28 rfl ?_
            first | rw [bshl_one (by omega : i < 31), bor_pow hb1 (by omega)] | skip
            refine v_ior 30 dX12_brokenOf_29 rfl ?_
            refine v_istore2 31 dX12_brokenOf_30 rfl (by decide) ?_
            refine v_iinc3 34 dX12_brokenOf_31 rfl (by decide) rfl (⟨by omega, by omega⟩) ?_
            refine v_goto 4 dX12_brokenOf_34 rfl ?_
            have e9 : ((i : Int) + 1) = ((i + 1 : Nat) : Int) := by omega
            first | rw [bor_zero (by omega : acc < 2 ^ 31)] | rw [bshl_one (by omega : i < 31), bor_pow hb1 (by omega)]
            exact ih (i + 1) _ (by omega) (by omega) (by simp only [bitsN, h16, ← ha, Bool.not_true, Bool.not_false, if_true, if_false, Bool.false_eq_true, reduceIte, Nat.add_zero])
  refine v_iconst 1 dX12_brokenOf_0 rfl ⟨by decide +kernel, by decide⟩ ?_
  refine v_istore2 2 dX12_brokenOf_1 rfl (by decide) ?_
  refine v_iconst 3 dX12_brokenOf_2 rfl ⟨by decide +kernel, by decide⟩ ?_
  refine v_istore3 4 dX12_brokenOf_3 rfl (by decide) ?_
  exact L (R + 1) 0 0 (by omega) (by omega) rfl
set_option maxRecDepth 100000 in
set_option maxHeartbeats 4000000 in
theorem X12_isMoved {d : Nat} {pp n R F : Nat} {k : Int} {σ : Mem} {K : Int → Mem → Prop} (hw : RW σ n R F) (hpp : shapes[pp]? = some (0, 6, [])) (hp : RP σ pp n) (hk : 0 ≤ k ∧ k < n) (ht : mv (σ 64 21) (rbv σ) (σ pp) k = true → K 1 σ) (hf : mv (σ 64 21) (rbv σ) (σ pp) k = false → K 0 σ) : Run mX12_isMoved d [.inr (some 64), .inr (some pp), .inl k] σ (RI K) := by
  have hw0 := hw
  obtain ⟨⟨hn, hn6, hR, hR12, hF, hF6⟩, hru, hde, hwo, hli, hba, hwf⟩ := hw0
  refine Run_of (ls := [.inr (some 64), .inr (some pp), .inl k]) (by decide) (Nat.le_of_ble_eq_true rfl) rfl ?_
  refine v_aload0 1 dX12_isMoved_0 rfl ?_
  refine v_getI 4 21 dX12_isMoved_1 rfl fX12_58 rfl rfl rfl ?_
  refine v_bipush 6 dX12_isMoved_4 rfl ⟨by decide +kernel, by decide⟩ ?_
  refine v_icmp_eq 33 9 dX12_isMoved_6 rfl rfl (fun h6 => ?_) (fun h6 => ?_)
  · skip
    refine v_iconst 34 dX12_isMoved_33 rfl ⟨by decide +kernel, by decide⟩ ?_
    refine v_zretI dX12_isMoved_34 rfl (Or.inl rfl) ?_
    exact hf (by unfold mv rbv; exact decide_eq_false (fun q => by omega))
  · skip
    refine v_aload1 10 dX12_isMoved_9 rfl ?_
    refine v_iload2 11 dX12_isMoved_10 rfl ?_
    refine v_iald 12 dX12_isMoved_11 rfl hpp (⟨by omega, by omega⟩) ?_
    refine v_aload0 13 dX12_isMoved_12 rfl ?_
    refine v_getR 16 dX12_isMoved_13 rfl fX12_52 rfl rfl ?_
    refine v_bipush 18 dX12_isMoved_16 rfl ⟨by decide +kernel, by decide⟩ ?_
    refine v_aload0 19 dX12_isMoved_18 rfl ?_
    refine v_getI 22 21 dX12_isMoved_19 rfl fX12_58 rfl rfl rfl ?_
    refine v_imul 23 dX12_isMoved_22 rfl (⟨by omega, by omega⟩) ?_
    refine v_iload2 24 dX12_isMoved_23 rfl ?_
    refine v_iadd 25 dX12_isMoved_24 rfl (⟨by omega, by omega⟩) ?_
    refine v_iald 26 dX12_isMoved_25 rfl rfl (⟨by omega, by omega⟩) ?_
    refine v_icmp_eq 33 29 dX12_isMoved_26 rfl rfl (fun h26 => ?_) (fun h26 => ?_)
    · skip
      refine v_iconst 34 dX12_isMoved_33 rfl ⟨by decide +kernel, by decide⟩ ?_
      refine v_zretI dX12_isMoved_34 rfl (Or.inl rfl) ?_
      exact hf (by unfold mv rbv; exact decide_eq_false (fun q => by omega))
    · skip
      refine v_iconst 30 dX12_isMoved_29 rfl ⟨by decide +kernel, by decide⟩ ?_
      refine v_goto 34 dX12_isMoved_30 rfl ?_
      refine v_zretI dX12_isMoved_34 rfl (Or.inr rfl) ?_
      exact ht (by unfold mv rbv; exact decide_eq_true ⟨by omega, by omega⟩)
set_option maxRecDepth 100000 in
set_option maxHeartbeats 4000000 in
theorem X12_costOf {d : Nat} {pp n R F : Nat} {σ : Mem} {K : Int → Mem → Prop} (hw : RW σ n R F) (hpp : shapes[pp]? = some (0, 6, [])) (hp : RP σ pp n) (hd : 1 ≤ d) (hk0 : K (sumI (cst (σ 64 21) (rbv σ) (σ 68) (σ 69) (σ pp)) n) σ) : Run mX12_costOf d [.inr (some 64), .inr (some pp)] σ (RI K) := by
  have hw0 := hw
  obtain ⟨⟨hn, hn6, hR, hR12, hF, hF6⟩, hru, hde, hwo, hli, hba, hwf⟩ := hw0
  have hcb : ∀ k : Nat, k < n → 0 ≤ cst (σ 64 21) (rbv σ) (σ 68) (σ 69) (σ pp) (k : Int) ∧ cst (σ 64 21) (rbv σ) (σ 68) (σ 69) (σ pp) (k : Int) ≤ 200 := fun k hk => by
    unfold cst
    split
    · rename_i h
      have hmv : σ 64 21 ≠ -5 ∧ σ pp (k : Int) ≠ rbv σ (k : Int) := of_decide_eq_true h
      have hb0 := hba.resolve_left hmv.1
      have hb2 : 0 ≤ rbv σ (k : Int) ∧ rbv σ (k : Int) ≤ 5 := hb0.2.2 (k : Int) (by omega) (by omega)
      have hd1 := hde (k : Int) (by omega) (by omega)
      have hdb := dist_bnd (hp (k : Int) (by omega) (by omega)) hb2
      have hmb := mul_bnd (a := σ 69 (k : Int)) (A := 20) ⟨hd1.2.2.2.2.2.2.2.1, hd1.2.2.2.2.2.2.2.2.1⟩ hdb
      omega
    · omega
  refine Run_of (ls := [.inr (some 64), .inr (some pp), .inr none, .inr none, .inr none]) (by decide) (Nat.le_of_ble_eq_true rfl) rfl ?_
  have L : ∀ (k : Nat) (i : Nat) (acc : Int) (z : AV), n - i < k → i ≤ n → acc = sumI (cst (σ 64 21) (rbv σ) (σ 68) (σ 69) (σ pp)) i → V mX12_costOf d (RI K) 4 [.inr (some 64), .inr (some pp), .inl acc, .inl (i : Int), z] [] σ := by
    intro k
    induction k with
    | zero => intros; omega
    | succ k ih =>
        intro i acc z hk hi ha
        refine v_iload3 5 dX12_costOf_4 rfl ?_
        refine v_aload0 6 dX12_costOf_5 rfl ?_
        refine v_getI 9 0 dX12_costOf_6 rfl fX12_93 rfl rfl rfl ?_
        refine v_icmp_ge 77 12 dX12_costOf_9 rfl rfl (fun h9 => ?_) (fun h9 => ?_)
        · skip
          refine v_iload2 78 dX12_costOf_77 rfl ?_
          refine v_iretI dX12_costOf_78 rfl ?_
          obtain rfl : i = n := by omega
          rw [ha]
          exact hk0
        · skip
          have hb1 := sumI_bnd (f := cst (σ 64 21) (rbv σ) (σ 68) (σ 69) (σ pp)) (m := 200) (n := i) (fun k hk => hcb k (by omega))
          have hd1 := hde (i : Int) (by omega) (by omega)
          have hp1 := hp (i : Int) (by omega) (by omega)
          refine v_aload0 13 dX12_costOf_12 rfl ?_
          refine v_aload1 14 dX12_costOf_13 rfl ?_
          refine v_iload3 15 dX12_costOf_14 rfl ?_
          refine v_cvI2 mX12_isMoved 18 dX12_costOf_15 rfl kX12_124 rfl rfl (by omega) (Nat.le_of_ble_eq_true rfl) ?_
          refine X12_isMoved hw hpp hp (by omega) (fun h15 => ?_) (fun h15 => ?_)
          · skip
            refine v_if_eq 71 21 dX12_costOf_18 rfl rfl (fun h => absurd h (by decide)) (fun _ => ?_)
            have hmv : σ 64 21 ≠ -5 ∧ σ pp (i : Int) ≠ rbv σ (i : Int) := of_decide_eq_true h15
            have hb0 := hba.resolve_left hmv.1
            have hb2 : 0 ≤ rbv σ (i : Int) ∧ rbv σ (i : Int) ≤ 5 := hb0.2.2 (i : Int) (by omega) (by omega)
            have hb3 := hb0.2.2 (i : Int) (by omega) (by omega)
            refine v_aload1 22 dX12_costOf_21 rfl ?_
            refine v_iload3 23 dX12_costOf_22 rfl ?_
            refine v_iald 24 dX12_costOf_23 rfl hpp (⟨by omega, by omega⟩) ?_
            refine v_aload0 25 dX12_costOf_24 rfl ?_
            refine v_getR 28 dX12_costOf_25 rfl fX12_52 rfl rfl ?_
            refine v_bipush 30 dX12_costOf_28 rfl ⟨by decide +kernel, by decide⟩ ?_
            refine v_aload0 31 dX12_costOf_30 rfl ?_
            refine v_getI 34 21 dX12_costOf_31 rfl fX12_58 rfl rfl rfl ?_
            refine v_imul 35 dX12_costOf_34 rfl (⟨by omega, by omega⟩) ?_
            refine v_iload3 36 dX12_costOf_35 rfl ?_
            refine v_iadd 37 dX12_costOf_36 rfl (⟨by omega, by omega⟩) ?_
            refine v_iald 38 dX12_costOf_37 rfl rfl (⟨by omega, by omega⟩) ?_
            refine v_isub 39 dX12_costOf_38 rfl (⟨by omega, by omega⟩) ?_
            refine v_istore4 41 dX12_costOf_39 rfl (by decide) ?_
            refine v_iload2 42 dX12_costOf_41 rfl ?_
            refine v_aload0 43 dX12_costOf_42 rfl ?_
            refine v_getR 46 dX12_costOf_43 rfl fX12_19 rfl rfl ?_
            refine v_iload3 47 dX12_costOf_46 rfl ?_
            refine v_iald 48 dX12_costOf_47 rfl rfl (⟨by omega, by omega⟩) ?_
            refine v_aload0 49 dX12_costOf_48 rfl ?_
            refine v_getR 52 dX12_costOf_49 rfl fX12_22 rfl rfl ?_
            refine v_iload3 53 dX12_costOf_52 rfl ?_
            refine v_iald 54 dX12_costOf_53 rfl rfl (⟨by omega, by omega⟩) ?_
            refine v_iload4 56 dX12_costOf_54 rfl ?_
            refine v_if_ge 65 59 dX12_costOf_56 rfl rfl (fun h56 => ?_) (fun h56 => ?_)
            · skip
              have hfar : σ pp (i : Int) - σ 79 (6 * σ 64 21 + (i : Int)) = dist (σ pp (i : Int)) (rbv σ (i : Int)) := by unfold dist rbv; split <;> omega
              have hdb := dist_bnd hp1 hb2
              have hmb := mul_bnd (a := σ 69 (i : Int)) (A := 20) ⟨hd1.2.2.2.2.2.2.2.1, hd1.2.2.2.2.2.2.2.2.1⟩ hdb
              refine v_iload4 67 dX12_costOf_65 rfl ?_
              first | rw [hfar] | rw [hfar2]
              refine v_imul 68 dX12_costOf_67 rfl (⟨by omega, by omega⟩) ?_
              refine v_iadd 69 dX12_costOf_68 rfl (⟨by omega, by omega⟩) ?_
              refine v_iadd 70 dX12_costOf_69 rfl (⟨by omega, by omega⟩) ?_
              refine v_istore2 71 dX12_costOf_70 rfl (by decide) ?_
              refine v_iinc3 74 dX12_costOf_71 rfl (by decide) rfl (⟨by omega, by omega⟩) ?_
              refine v_goto 4 dX12_costOf_74 rfl ?_
              exact ih (i + 1) _ _ (by omega) (by omega) (by first | exact sum_s ha (by unfold cst; rw [if_pos h15]) | (rw [sumI, ← ha, cst, h15]; simp))
            · skip
              have hfar2 : -(σ pp (i : Int) - σ 79 (6 * σ 64 21 + (i : Int))) = dist (σ pp (i : Int)) (rbv σ (i : Int)) := by unfold dist rbv; split <;> omega
              have hdb := dist_bnd hp1 hb2
              have hmb := mul_bnd (a := σ 69 (i : Int)) (A := 20) ⟨hd1.2.2.2.2.2.2.2.1, hd1.2.2.2.2.2.2.2.2.1⟩ hdb
              refine v_iload4 61 dX12_costOf_59 rfl ?_
              refine v_ineg 62 dX12_costOf_61 rfl (⟨by omega, by omega⟩) ?_
              refine v_goto 67 dX12_costOf_62 rfl ?_
              first | rw [hfar] | rw [hfar2]
              refine v_imul 68 dX12_costOf_67 rfl (⟨by omega, by omega⟩) ?_
              refine v_iadd 69 dX12_costOf_68 rfl (⟨by omega, by omega⟩) ?_
              refine v_iadd 70 dX12_costOf_69 rfl (⟨by omega, by omega⟩) ?_
              refine v_istore2 71 dX12_costOf_70 rfl (by decide) ?_
              refine v_iinc3 74 dX12_costOf_71 rfl (by decide) rfl (⟨by omega, by omega⟩) ?_
              refine v_goto 4 dX12_costOf_74 rfl ?_
              exact ih (i + 1) _ _ (by omega) (by omega) (by first | exact sum_s ha (by unfold cst; rw [if_pos h15]) | (rw [sumI, ← ha, cst, h15]; simp))
          · skip
            refine v_if_eq 71 21 dX12_costOf_18 rfl rfl (fun _ => ?_) (fun h => absurd (by decide) h)
            refine v_iinc3 74 dX12_costOf_71 rfl (by decide) rfl (⟨by omega, by omega⟩) ?_
            refine v_goto 4 dX12_costOf_74 rfl ?_
            exact ih (i + 1) _ _ (by omega) (by omega) (by first | exact sum_s ha (by unfold cst; rw [if_pos h15]) | (rw [sumI, ← ha, cst, h15]; simp))
  refine v_iconst 1 dX12_costOf_0 rfl ⟨by decide +kernel, by decide⟩ ?_
  refine v_istore2 2 dX12_costOf_1 rfl (by decide) ?_
  refine v_iconst 3 dX12_costOf_2 rfl ⟨by decide +kernel, by decide⟩ ?_
  refine v_istore3 4 dX12_costOf_3 rfl (by decide) ?_
  exact L (n + 1) 0 _ _ (by omega) (by omega) rfl
set_option maxRecDepth 100000 in
set_option maxHeartbeats 4000000 in
theorem X12_worthOf {d : Nat} {pp n R F : Nat} {σ : Mem} {K : Int → Mem → Prop} (hw : RW σ n R F) (hpp : shapes[pp]? = some (0, 6, [])) (hp : RP σ pp n) (hk0 : K (sumI (fun d => σ 71 (6 * d + σ pp d)) n) σ) : Run mX12_worthOf d [.inr (some 64), .inr (some pp)] σ (RI K) := by
  have hw0 := hw
  obtain ⟨⟨hn, hn6, hR, hR12, hF, hF6⟩, hru, hde, hwo, hli, hba, hwf⟩ := hw0
  refine Run_of (ls := [.inr (some 64), .inr (some pp), .inr none, .inr none]) (by decide) (Nat.le_of_ble_eq_true rfl) rfl ?_
  have L : ∀ (k : Nat) (i : Nat) (acc : Int), n - i < k → i ≤ n → acc = sumI (fun d => σ 71 (6 * d + σ pp d)) i → V mX12_worthOf d (RI K) 4 [.inr (some 64), .inr (some pp), .inl acc, .inl (i : Int)] [] σ := by
    intro k
    induction k with
    | zero => intros; omega
    | succ k ih =>
        intro i acc hk hi ha
        refine v_iload3 5 dX12_worthOf_4 rfl ?_
        refine v_aload0 6 dX12_worthOf_5 rfl ?_
        refine v_getI 9 0 dX12_worthOf_6 rfl fX12_93 rfl rfl rfl ?_
        refine v_icmp_ge 34 12 dX12_worthOf_9 rfl rfl (fun h9 => ?_) (fun h9 => ?_)
        · skip
          refine v_iload2 35 dX12_worthOf_34 rfl ?_
          refine v_iretI dX12_worthOf_35 rfl ?_
          obtain rfl : i = n := by omega
          rw [ha]
          exact hk0
        · skip
          have hb1 := sumI_bnd (f := fun d => σ 71 (6 * d + σ pp d)) (m := 100) (n := i) (fun k hk => hwo _ (by have := hp (k : Int) (by omega) (by omega); omega) (by have := hp (k : Int) (by omega) (by omega); omega))
          have hp1 := hp (i : Int) (by omega) (by omega)
          have hw1 := hwo (6 * (i : Int) + σ pp (i : Int)) (by omega) (by omega)
          refine v_iload2 13 dX12_worthOf_12 rfl ?_
          refine v_aload0 14 dX12_worthOf_13 rfl ?_
          refine v_getR 17 dX12_worthOf_14 rfl fX12_28 rfl rfl ?_
          refine v_bipush 19 dX12_worthOf_17 rfl ⟨by decide +kernel, by decide⟩ ?_
          refine v_iload3 20 dX12_worthOf_19 rfl ?_
          refine v_imul 21 dX12_worthOf_20 rfl (⟨by omega, by omega⟩) ?_
          refine v_aload1 22 dX12_worthOf_21 rfl ?_
          refine v_iload3 23 dX12_worthOf_22 rfl ?_
          refine v_iald 24 dX12_worthOf_23 rfl hpp (⟨by omega, by omega⟩) ?_
          refine v_iadd 25 dX12_worthOf_24 rfl (⟨by omega, by omega⟩) ?_
          refine v_iald 26 dX12_worthOf_25 rfl rfl (⟨by omega, by omega⟩) ?_
          refine v_iadd 27 dX12_worthOf_26 rfl (⟨by omega, by omega⟩) ?_
          refine v_istore2 28 dX12_worthOf_27 rfl (by decide) ?_
          refine v_iinc3 31 dX12_worthOf_28 rfl (by decide) rfl (⟨by omega, by omega⟩) ?_
          refine v_goto 4 dX12_worthOf_31 rfl ?_
          exact ih (i + 1) _ (by omega) (by omega) (sum_s ha rfl)
  refine v_iconst 1 dX12_worthOf_0 rfl ⟨by decide +kernel, by decide⟩ ?_
  refine v_istore2 2 dX12_worthOf_1 rfl (by decide) ?_
  refine v_iconst 3 dX12_worthOf_2 rfl ⟨by decide +kernel, by decide⟩ ?_
  refine v_istore3 4 dX12_worthOf_3 rfl (by decide) ?_
  exact L (n + 1) 0 _ (by omega) (by omega) rfl
set_option maxRecDepth 100000 in
set_option maxHeartbeats 4000000 in
theorem X12_isAllowed {d : Nat} {pp n R F : Nat} {σ : Mem} {K : Int → Mem → Prop} (hw : RW σ n R F) (hpp : shapes[pp]? = some (0, 6, [])) (hp : RP σ pp n) (hd : 2 ≤ d) (ht : rAlw σ (σ pp) n → K 1 σ) (hf : ¬ rAlw σ (σ pp) n → K 0 σ) : Run mX12_isAllowed d [.inr (some 64), .inr (some pp)] σ (RI K) := by
  have hw0 := hw
  obtain ⟨⟨hn, hn6, hR, hR12, hF, hF6⟩, hru, hde, hwo, hli, hba, hwf⟩ := hw0
  refine Run_of (ls := [.inr (some 64), .inr (some pp), .inr none, .inr none, .inr none]) (by decide) (Nat.le_of_ble_eq_true rfl) rfl ?_
  have L3 : ∀ (k : Nat) (i : Nat) (y z : AV), n - i < k → i ≤ n → (∀ w2 : Int, 0 ≤ w2 → w2 < 4 → sumI (fun d => one (decide (σ 67 d = w2) && mv (σ 64 21) (rbv σ) (σ pp) d)) n ≤ σ 73 w2) → (∀ d : Int, 0 ≤ d → d < i → σ 65 d ≤ σ pp d ∧ σ pp d ≤ σ 66 d ∧ (σ 70 d = -5 ∨ σ 70 d = σ pp d)) → V mX12_isAllowed d (RI K) 76 [.inr (some 64), .inr (some pp), .inl (i : Int), y, z] [] σ := by
    intro k
    induction k with
    | zero => intros; omega
    | succ k ih =>
        intro i y z hk hi hA1 hA2
        refine v_iload2 77 dX12_isAllowed_76 rfl ?_
        refine v_aload0 78 dX12_isAllowed_77 rfl ?_
        refine v_getI 81 0 dX12_isAllowed_78 rfl fX12_93 rfl rfl rfl ?_
        refine v_icmp_ge 126 84 dX12_isAllowed_81 rfl rfl (fun h81 => ?_) (fun h81 => ?_)
        · skip
          refine v_iconst 127 dX12_isAllowed_126 rfl ⟨by decide +kernel, by decide⟩ ?_
          refine v_zretI dX12_isAllowed_127 rfl (Or.inr rfl) ?_
          exact ht ⟨hA1, fun d a b => hA2 d a (by omega)⟩
        · skip
          refine v_aload0 85 dX12_isAllowed_84 rfl ?_
          refine v_iload2 86 dX12_isAllowed_85 rfl ?_
          refine v_aload1 87 dX12_isAllowed_86 rfl ?_
          refine v_iload2 88 dX12_isAllowed_87 rfl ?_
          refine v_iald 89 dX12_isAllowed_88 rfl hpp (⟨by omega, by omega⟩) ?_
          refine v_cvI2 mX12_mayHave 92 dX12_isAllowed_89 rfl kX12_107 rfl rfl (by omega) (Nat.le_of_ble_eq_true rfl) ?_
          refine X12_mayHave (by omega) (by omega) (fun h89 => ?_) (fun h89 => ?_)
          · skip
            refine v_if_eq 118 95 dX12_isAllowed_92 rfl rfl (fun h => absurd h (by decide)) (fun _ => ?_)
            refine v_aload0 96 dX12_isAllowed_95 rfl ?_
            refine v_getR 99 dX12_isAllowed_96 rfl fX12_25 rfl rfl ?_
            refine v_iload2 100 dX12_isAllowed_99 rfl ?_
            refine v_iald 101 dX12_isAllowed_100 rfl rfl (⟨by omega, by omega⟩) ?_
            refine v_bipush 103 dX12_isAllowed_101 rfl ⟨by decide +kernel, by decide⟩ ?_
            refine v_icmp_eq 120 106 dX12_isAllowed_103 rfl rfl (fun h103 => ?_) (fun h103 => ?_)
            · skip
              refine v_iinc2 123 dX12_isAllowed_120 rfl (by decide) rfl (⟨by omega, by omega⟩) ?_
              refine v_goto 76 dX12_isAllowed_123 rfl ?_
              exact ih (i + 1) _ _ (by omega) (by omega) hA1 (fun d a b => by
                by_cases e : d = (i : Int)
                · subst e; exact ⟨by omega, by omega, by omega⟩
                · exact hA2 d a (by omega))
            · skip
              refine v_aload0 107 dX12_isAllowed_106 rfl ?_
              refine v_getR 110 dX12_isAllowed_107 rfl fX12_25 rfl rfl ?_
              refine v_iload2 111 dX12_isAllowed_110 rfl ?_
              refine v_iald 112 dX12_isAllowed_111 rfl rfl (⟨by omega, by omega⟩) ?_
              refine v_aload1 113 dX12_isAllowed_112 rfl ?_
              refine v_iload2 114 dX12_isAllowed_113 rfl ?_
              refine v_iald 115 dX12_isAllowed_114 rfl hpp (⟨by omega, by omega⟩) ?_
              refine v_icmp_eq 120 118 dX12_isAllowed_115 rfl rfl (fun h115 => ?_) (fun h115 => ?_)
              · skip
                refine v_iinc2 123 dX12_isAllowed_120 rfl (by decide) rfl (⟨by omega, by omega⟩) ?_
                refine v_goto 76 dX12_isAllowed_123 rfl ?_
                exact ih (i + 1) _ _ (by omega) (by omega) hA1 (fun d a b => by
                  by_cases e : d = (i : Int)
                  · subst e; exact ⟨by omega, by omega, by omega⟩
                  · exact hA2 d a (by omega))
              · skip
                refine v_iconst 119 dX12_isAllowed_118 rfl ⟨by decide +kernel, by decide⟩ ?_
                refine v_zretI dX12_isAllowed_119 rfl (Or.inl rfl) ?_
                exact hf (fun q => by have := q.2 (i : Int) (by omega) (by omega); omega)
          · skip
            refine v_if_eq 118 95 dX12_isAllowed_92 rfl rfl (fun _ => ?_) (fun h => absurd (by decide) h)
            refine v_iconst 119 dX12_isAllowed_118 rfl ⟨by decide +kernel, by decide⟩ ?_
            refine v_zretI dX12_isAllowed_119 rfl (Or.inl rfl) ?_
            exact hf (fun q => by have := q.2 (i : Int) (by omega) (by omega); omega)
  have L1 : ∀ (k : Nat) (w : Int) (y z : AV), (4 - w).toNat < k → 0 ≤ w → w ≤ 4 → (∀ w2 : Int, 0 ≤ w2 → w2 < w → sumI (fun d => one (decide (σ 67 d = w2) && mv (σ 64 21) (rbv σ) (σ pp) d)) n ≤ σ 73 w2) → V mX12_isAllowed d (RI K) 2 [.inr (some 64), .inr (some pp), .inl w, y, z] [] σ := by
    intro k
    induction k with
    | zero => intros; omega
    | succ k ih =>
        intro w y z hk hw0 hw4 hac
        refine v_iload2 3 dX12_isAllowed_2 rfl ?_
        refine v_iconst 4 dX12_isAllowed_3 rfl ⟨by decide +kernel, by decide⟩ ?_
        refine v_icmp_ge 74 7 dX12_isAllowed_4 rfl rfl (fun h4 => ?_) (fun h4 => ?_)
        · skip
          refine v_iconst 75 dX12_isAllowed_74 rfl ⟨by decide +kernel, by decide⟩ ?_
          refine v_istore2 76 dX12_isAllowed_75 rfl (by decide) ?_
          exact L3 (n + 1) 0 _ _ (by omega) (by omega) (fun w2 a b => hac w2 a (by omega)) (fun d a b => by omega)
        · skip
          refine v_iconst 8 dX12_isAllowed_7 rfl ⟨by decide +kernel, by decide⟩ ?_
          refine v_istore3 9 dX12_isAllowed_8 rfl (by decide) ?_
          refine v_iconst 10 dX12_isAllowed_9 rfl ⟨by decide +kernel, by decide⟩ ?_
          refine v_istore4 12 dX12_isAllowed_10 rfl (by decide) ?_
          have L2 : ∀ (k : Nat) (i : Nat) (acc : Int), n - i < k → i ≤ n → acc = sumI (fun d => one (decide (σ 67 d = w) && mv (σ 64 21) (rbv σ) (σ pp) d)) i → V mX12_isAllowed d (RI K) 12 [.inr (some 64), .inr (some pp), .inl w, .inl acc, .inl (i : Int)] [] σ := by
            intro k
            induction k with
            | zero => intros; omega
            | succ k ih2 =>
                intro i acc hk2 hi ha
                have hb1 := sumI_bnd (f := (fun d => one (decide (σ 67 d = w) && mv (σ 64 21) (rbv σ) (σ pp) d))) (m := 1) (n := i) (fun _ _ => one_bnd _)
                have hli1 := hli w hw0 (by omega)
                refine v_iload4 14 dX12_isAllowed_12 rfl ?_
                refine v_aload0 15 dX12_isAllowed_14 rfl ?_
                refine v_getI 18 0 dX12_isAllowed_15 rfl fX12_93 rfl rfl rfl ?_
                refine v_icmp_ge 56 21 dX12_isAllowed_18 rfl rfl (fun h18 => ?_) (fun h18 => ?_)
                · skip
                  obtain rfl : i = n := by omega
                  refine v_iload3 57 dX12_isAllowed_56 rfl ?_
                  refine v_aload0 58 dX12_isAllowed_57 rfl ?_
                  refine v_getR 61 dX12_isAllowed_58 rfl fX12_34 rfl rfl ?_
                  refine v_iload2 62 dX12_isAllowed_61 rfl ?_
                  refine v_iald 63 dX12_isAllowed_62 rfl rfl (⟨by omega, by omega⟩) ?_
                  refine v_icmp_le 68 66 dX12_isAllowed_63 rfl rfl (fun h63 => ?_) (fun h63 => ?_)
                  · skip
                    refine v_iinc2 71 dX12_isAllowed_68 rfl (by decide) rfl (⟨by omega, by omega⟩) ?_
                    refine v_goto 2 dX12_isAllowed_71 rfl ?_
                    exact ih (w + 1) _ _ (by omega) (by omega) (by omega) (fun w2 a b => by
                      by_cases e : w2 = w
                      · subst e; rw [← ha]; omega
                      · exact hac w2 a (by omega))
                  · skip
                    refine v_iconst 67 dX12_isAllowed_66 rfl ⟨by decide +kernel, by decide⟩ ?_
                    refine v_zretI dX12_isAllowed_67 rfl (Or.inl rfl) ?_
                    exact hf (fun q => by have := q.1 w hw0 (by omega); omega)
                · skip
                  refine v_iload3 22 dX12_isAllowed_21 rfl ?_
                  refine v_aload0 23 dX12_isAllowed_22 rfl ?_
                  refine v_getR 26 dX12_isAllowed_23 rfl fX12_16 rfl rfl ?_
                  refine v_iload4 28 dX12_isAllowed_26 rfl ?_
                  refine v_iald 29 dX12_isAllowed_28 rfl rfl (⟨by omega, by omega⟩) ?_
                  refine v_iload2 30 dX12_isAllowed_29 rfl ?_
                  refine v_icmp_ne 47 33 dX12_isAllowed_30 rfl rfl (fun h30 => ?_) (fun h30 => ?_)
                  · skip
                    refine v_iconst 48 dX12_isAllowed_47 rfl ⟨by decide +kernel, by decide⟩ ?_
                    refine v_iadd 49 dX12_isAllowed_48 rfl (⟨by omega, by omega⟩) ?_
                    refine v_istore3 50 dX12_isAllowed_49 rfl (by decide) ?_
                    refine v_iinc4 53 dX12_isAllowed_50 rfl (by decide) rfl (⟨by omega, by omega⟩) ?_
                    refine v_goto 12 dX12_isAllowed_53 rfl ?_
                    exact ih2 (i + 1) _ (by omega) (by omega) (sum_s ha (by first | (show one (decide _ && mv _ _ _ _) = 1; rw [h37, decide_eq_true (by omega : σ 67 (i : Int) = w)]; rfl) | (show one (decide _ && mv _ _ _ _) = 0; rw [h37, Bool.and_false]; rfl) | (show one (decide _ && mv _ _ _ _) = 0; rw [decide_eq_false (by omega : ¬ σ 67 (i : Int) = w), Bool.false_and]; rfl)))
                  · skip
                    refine v_aload0 34 dX12_isAllowed_33 rfl ?_
                    refine v_aload1 35 dX12_isAllowed_34 rfl ?_
                    refine v_iload4 37 dX12_isAllowed_35 rfl ?_
                    refine v_cvI2 mX12_isMoved 40 dX12_isAllowed_37 rfl kX12_124 rfl rfl (by omega) (Nat.le_of_ble_eq_true rfl) ?_
                    refine X12_isMoved hw hpp hp (by omega) (fun h37 => ?_) (fun h37 => ?_)
                    · skip
                      refine v_if_eq 47 43 dX12_isAllowed_40 rfl rfl (fun h => absurd h (by decide)) (fun _ => ?_)
                      refine v_iconst 44 dX12_isAllowed_43 rfl ⟨by decide +kernel, by decide⟩ ?_
                      refine v_goto 48 dX12_isAllowed_44 rfl ?_
                      refine v_iadd 49 dX12_isAllowed_48 rfl (⟨by omega, by omega⟩) ?_
                      refine v_istore3 50 dX12_isAllowed_49 rfl (by decide) ?_
                      refine v_iinc4 53 dX12_isAllowed_50 rfl (by decide) rfl (⟨by omega, by omega⟩) ?_
                      refine v_goto 12 dX12_isAllowed_53 rfl ?_
                      exact ih2 (i + 1) _ (by omega) (by omega) (sum_s ha (by first | (show one (decide _ && mv _ _ _ _) = 1; rw [h37, decide_eq_true (by omega : σ 67 (i : Int) = w)]; rfl) | (show one (decide _ && mv _ _ _ _) = 0; rw [h37, Bool.and_false]; rfl) | (show one (decide _ && mv _ _ _ _) = 0; rw [decide_eq_false (by omega : ¬ σ 67 (i : Int) = w), Bool.false_and]; rfl)))
                    · skip
                      refine v_if_eq 47 43 dX12_isAllowed_40 rfl rfl (fun _ => ?_) (fun h => absurd (by decide) h)
                      refine v_iconst 48 dX12_isAllowed_47 rfl ⟨by decide +kernel, by decide⟩ ?_
                      refine v_iadd 49 dX12_isAllowed_48 rfl (⟨by omega, by omega⟩) ?_
                      refine v_istore3 50 dX12_isAllowed_49 rfl (by decide) ?_
                      refine v_iinc4 53 dX12_isAllowed_50 rfl (by decide) rfl (⟨by omega, by omega⟩) ?_
                      refine v_goto 12 dX12_isAllowed_53 rfl ?_
                      exact ih2 (i + 1) _ (by omega) (by omega) (sum_s ha (by first | (show one (decide _ && mv _ _ _ _) = 1; rw [h37, decide_eq_true (by omega : σ 67 (i : Int) = w)]; rfl) | (show one (decide _ && mv _ _ _ _) = 0; rw [h37, Bool.and_false]; rfl) | (show one (decide _ && mv _ _ _ _) = 0; rw [decide_eq_false (by omega : ¬ σ 67 (i : Int) = w), Bool.false_and]; rfl)))
          exact L2 (n + 1) 0 _ (by omega) (by omega) rfl
  refine v_iconst 1 dX12_isAllowed_0 rfl ⟨by decide +kernel, by decide⟩ ?_
  refine v_istore2 2 dX12_isAllowed_1 rfl (by decide) ?_
  exact L1 5 0 _ _ (by decide) (by decide) (by decide) (fun w2 a b => by omega)
set_option maxRecDepth 100000 in
set_option maxHeartbeats 4000000 in
theorem X12_ones {d : Nat} {m : Nat} {σ : Mem} {K : Int → Mem → Prop} (hm : m < 4096) (hk0 : K (pop m 12) σ) : Run mX12_ones d [.inl (m : Int)] σ (RI K) := by
  refine Run_of (ls := [.inl (m : Int), .inr none, .inr none]) (by decide) (Nat.le_of_ble_eq_true rfl) rfl ?_
  have L : ∀ (k : Nat) (i : Nat) (acc : Int), 12 - i < k → i ≤ 12 → acc = pop m i → V mX12_ones d (RI K) 4 [.inl (m : Int), .inl acc, .inl (i : Int)] [] σ := by
    intro k
    induction k with
    | zero => intros; omega
    | succ k ih =>
        intro i acc hk hi ha
        have hb1 := pop_bnd m i
        refine v_iload2 5 dX12_ones_4 rfl ?_
        refine v_bipush 7 dX12_ones_5 rfl ⟨by decide +kernel, by decide⟩ ?_
        refine v_icmp_ge 24 10 dX12_ones_7 rfl rfl (fun h7 => ?_) (fun h7 => ?_)
        · skip
          refine v_iload1 25 dX12_ones_24 rfl ?_
          refine v_iretI dX12_ones_25 rfl ?_
          obtain rfl : i = 12 := by omega
          rw [ha]
          exact hk0
        · skip
          refine v_iload1 11 dX12_ones_10 rfl ?_
          refine v_iload0 12 dX12_ones_11 rfl ?_
          refine v_iload2 13 dX12_ones_12 rfl ?_
          refine v_ishr 14 dX12_ones_13 rfl ?_
          refine v_iconst 15 dX12_ones_14 rfl ⟨by decide +kernel, by decide⟩ ?_
          refine v_iand 16 dX12_ones_15 rfl ?_
          rw [bit_nat (by omega : m < 2 ^ 31) (by omega : i < 32)]
          have hb2 := one_bnd (m.testBit i)
          refine v_iadd 17 dX12_ones_16 rfl (⟨by omega, by omega⟩) ?_
          refine v_istore1 18 dX12_ones_17 rfl (by decide) ?_
          refine v_iinc2 21 dX12_ones_18 rfl (by decide) rfl (⟨by omega, by omega⟩) ?_
          refine v_goto 4 dX12_ones_21 rfl ?_
          exact ih (i + 1) _ (by omega) (by omega) (sum_s (f := fun i => one (m.testBit i.toNat)) ha rfl)
  refine v_iconst 1 dX12_ones_0 rfl ⟨by decide +kernel, by decide⟩ ?_
  refine v_istore1 2 dX12_ones_1 rfl (by decide) ?_
  refine v_iconst 3 dX12_ones_2 rfl ⟨by decide +kernel, by decide⟩ ?_
  refine v_istore2 4 dX12_ones_3 rfl (by decide) ?_
  exact L 13 0 _ (by decide) (by decide) rfl
set_option maxRecDepth 100000 in
set_option maxHeartbeats 4000000 in
def rmvb (σ : Mem) (n : Nat) : Nat := bitsN (fun d => mv (σ 64 21) (rbv σ) (σ 72) (d : Int)) n
set_option maxRecDepth 100000 in
set_option maxHeartbeats 4000000 in
theorem X12_movedBits {d : Nat} {n R F : Nat} {σ : Mem} {K : Int → Mem → Prop} (hw : RW σ n R F) (hp : RP σ 72 n) (hd : 1 ≤ d) (hk0 : K (rmvb σ n : Int) σ) : Run mX12_movedBits d [.inr (some 64)] σ (RI K) := by
  have hw0 := hw
  obtain ⟨⟨hn, hn6, hR, hR12, hF, hF6⟩, hru, hde, hwo, hli, hba, hwf⟩ := hw0
  refine Run_of (ls := [.inr (some 64), .inr none, .inr none]) (by decide) (Nat.le_of_ble_eq_true rfl) rfl ?_
  have L : ∀ (k : Nat) (i acc : Nat), n - i < k → i ≤ n → acc = bitsN (fun d => mv (σ 64 21) (rbv σ) (σ 72) (d : Int)) i → V mX12_movedBits d (RI K) 4 [.inr (some 64), .inl (acc : Int), .inl (i : Int)] [] σ := by
    intro k
    induction k with
    | zero => intros; omega
    | succ k ih =>
        intro i acc hk hi ha
        have hb1 : acc < 2 ^ i := by rw [ha]; exact bitsN_lt _ _
        have hb2 : 2 ^ i ≤ 2 ^ 12 := Nat.pow_le_pow_right (by omega) (by omega)
        have hb3 : (2 : Nat) ^ 12 = 4096 := by decide
        refine v_iload2 5 dX12_movedBits_4 rfl ?_
        refine v_aload0 6 dX12_movedBits_5 rfl ?_
        refine v_getI 9 0 dX12_movedBits_6 rfl fX12_93 rfl rfl rfl ?_
        refine v_icmp_ge 40 12 dX12_movedBits_9 rfl rfl (fun h9 => ?_) (fun h9 => ?_)
        · skip
          refine v_iload1 41 dX12_movedBits_40 rfl ?_
          refine v_iretI dX12_movedBits_41 rfl ?_
          obtain rfl : i = n := by omega
          rw [ha]
          exact hk0
        · skip
          refine v_iload1 13 dX12_movedBits_12 rfl ?_
          refine v_aload0 14 dX12_movedBits_13 rfl ?_
          refine v_aload0 15 dX12_movedBits_14 rfl ?_
          refine v_getR 18 dX12_movedBits_15 rfl fX12_31 rfl rfl ?_
          refine v_iload2 19 dX12_movedBits_18 rfl ?_
          refine v_cvI2 mX12_isMoved 22 dX12_movedBits_19 rfl kX12_124 rfl rfl (by omega) (Nat.le_of_ble_eq_true rfl) ?_
          refine X12_isMoved hw rfl hp (by omega) (fun h19 => ?_) (fun h19 => ?_)
          · skip
            refine v_if_eq 31 25 dX12_movedBits_22 rfl rfl (fun h => absurd h (by decide)) (fun _ => ?_)
            refine v_iconst 26 dX12_movedBits_25 rfl ⟨by decide +kernel, by decide⟩ ?_
            refine v_iload2 27 dX12_movedBits_26 rfl ?_
            refine v_ishl 28 dX12_movedBits_27 rfl ?_
            refine v_goto 32 dX12_movedBits_28 rfl ?_
            refine v_ior 33 dX12_movedBits_32 rfl ?_
            refine v_istore1 34 dX12_movedBits_33 rfl (by decide) ?_
            refine v_iinc2 37 dX12_movedBits_34 rfl (by decide) rfl (⟨by omega, by omega⟩) ?_
            refine v_goto 4 dX12_movedBits_37 rfl ?_
            first | rw [bor_zero (by omega : acc < 2 ^ 31)] | rw [bshl_one (by omega : i < 31), bor_pow hb1 (by omega)]
            exact ih (i + 1) _ (by omega) (by omega) (by simp only [bitsN, h19, ← ha, if_true, if_false, Bool.false_eq_true, reduceIte, Nat.add_zero])
          · skip
            refine v_if_eq 31 25 dX12_movedBits_22 rfl rfl (fun _ => ?_) (fun h => absurd (by decide) h)
            refine v_iconst 32 dX12_movedBits_31 rfl ⟨by decide +kernel, by decide⟩ ?_
            refine v_ior 33 dX12_movedBits_32 rfl ?_
            refine v_istore1 34 dX12_movedBits_33 rfl (by decide) ?_
            refine v_iinc2 37 dX12_movedBits_34 rfl (by decide) rfl (⟨by omega, by omega⟩) ?_
            refine v_goto 4 dX12_movedBits_37 rfl ?_
            first | rw [bor_zero (by omega : acc < 2 ^ 31)] | rw [bshl_one (by omega : i < 31), bor_pow hb1 (by omega)]
            exact ih (i + 1) _ (by omega) (by omega) (by simp only [bitsN, h19, ← ha, if_true, if_false, Bool.false_eq_true, reduceIte, Nat.add_zero])
  refine v_iconst 1 dX12_movedBits_0 rfl ⟨by decide +kernel, by decide⟩ ?_
  refine v_istore1 2 dX12_movedBits_1 rfl (by decide) ?_
  refine v_iconst 3 dX12_movedBits_2 rfl ⟨by decide +kernel, by decide⟩ ?_
  refine v_istore2 4 dX12_movedBits_3 rfl (by decide) ?_
  exact L (n + 1) 0 0 (by omega) (by omega) rfl
set_option maxRecDepth 100000 in
set_option maxHeartbeats 4000000 in
def isB (a b : Nat) : Prop := band (band (a : Int) (bxor (a : Int) (b : Int))) (-(bxor (a : Int) (b : Int))) ≠ 0
set_option maxRecDepth 100000 in
set_option maxHeartbeats 4000000 in
theorem X12_isBefore {d : Nat} {a b : Nat} {σ : Mem} {K : Int → Mem → Prop} (ha : a < 4096) (hb : b < 4096) (ht : isB a b → K 1 σ) (hf : ¬ isB a b → K 0 σ) : Run mX12_isBefore d [.inl (a : Int), .inl (b : Int)] σ (RI K) := by
  refine Run_of (ls := [.inl (a : Int), .inl (b : Int), .inr none]) (by decide) (Nat.le_of_ble_eq_true rfl) rfl ?_
  refine v_iload0 1 dX12_isBefore_0 rfl ?_
  refine v_iload1 2 dX12_isBefore_1 rfl ?_
  refine v_ixor 3 dX12_isBefore_2 rfl ?_
  refine v_istore2 4 dX12_isBefore_3 rfl (by decide) ?_
  have hx : bxor (a : Int) (b : Int) = ((a ^^^ b : Nat) : Int) := bxor_nat (by omega) (by omega)
  have hx2 : a ^^^ b < 2 ^ 12 := Nat.xor_lt_two_pow (by omega) (by omega)
  refine v_iload0 5 dX12_isBefore_4 rfl ?_
  refine v_iload2 6 dX12_isBefore_5 rfl ?_
  refine v_iand 7 dX12_isBefore_6 rfl ?_
  refine v_iload2 8 dX12_isBefore_7 rfl ?_
  refine v_ineg 9 dX12_isBefore_8 rfl (⟨by omega, by omega⟩) ?_
  refine v_iand 10 dX12_isBefore_9 rfl ?_
  refine v_if_eq 17 13 dX12_isBefore_10 rfl rfl (fun h10 => ?_) (fun h10 => ?_)
  · skip
    refine v_iconst 18 dX12_isBefore_17 rfl ⟨by decide +kernel, by decide⟩ ?_
    refine v_zretI dX12_isBefore_18 rfl (Or.inl rfl) ?_
    exact hf (by unfold isB; exact fun q => q h10)
  · skip
    refine v_iconst 14 dX12_isBefore_13 rfl ⟨by decide +kernel, by decide⟩ ?_
    refine v_goto 18 dX12_isBefore_14 rfl ?_
    refine v_zretI dX12_isBefore_18 rfl (Or.inr rfl) ?_
    exact ht (by unfold isB; assumption)
