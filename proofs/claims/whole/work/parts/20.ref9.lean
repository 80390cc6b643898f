set_option maxRecDepth 100000 in
set_option maxHeartbeats 4000000 in
noncomputable def toldV (σ : Mem) (n R : Nat) (what : Int) : Int :=
  if what = 0 then rcost σ n (σ 72) else if what = 1 then rwor σ n (σ 72) else if what = 2 then pop (rmvb σ n) 12 else if what = 3 then (rmvb σ n : Int) else if what = 4 then pop (rbrk σ (σ 72) n R) 12 else if what = 5 then (rbrk σ (σ 72) n R : Int) else if what = 6 then one (cd (rAlw σ (σ 72) n)) else if what = 7 then σ 64 21 else -2
theorem rmvb_lt {σ : Mem} {n R F : Nat} (hw : RW σ n R F) : rmvb σ n < 64 := by
  have h1 : rmvb σ n < 2 ^ n := bitsN_lt _ _
  have h2 : n ≤ 6 := hw.1.2.1
  have h3 : 2 ^ n ≤ 2 ^ 6 := Nat.pow_le_pow_right (by omega) h2
  have h4 : (2 : Nat) ^ 6 = 64 := by decide
  omega
theorem rbrk_lt {σ : Mem} {n R F : Nat} (hw : RW σ n R F) (p : Int → Int) : rbrk σ p n R < 4096 := by
  have h1 : rbrk σ p n R < 2 ^ R := bitsN_lt _ _
  have h2 : R ≤ 12 := hw.1.2.2.2.1
  have h3 : 2 ^ R ≤ 2 ^ 12 := Nat.pow_le_pow_right (by omega) h2
  have h4 : (2 : Nat) ^ 12 = 4096 := by decide
  omega
theorem fold_inv {α β : Type} {f : α → β → α} {P : α → Prop} (L : List β) (hf : ∀ a l, l ∈ L → P a → P (f a l)) : ∀ a, P a → P (L.foldl f a) := by
  induction L with
  | nil => intro a h; exact h
  | cons x L ih =>
    intro a h
    exact ih (fun a l hl => hf a l (List.mem_cons_of_mem _ hl)) _ (hf a x List.mem_cons_self h)
theorem bst_or {wf : Int} {ok : List Int → Prop} {co wo : List Int → Int} (s : Option (Int × Int × List Int)) (l : List Int) : (bst wf ok co wo s l = some (co l, wo l, l) ∧ ok l) ∨ bst wf ok co wo s l = s := by
  by_cases h : ok l
  · cases s with
    | none => exact Or.inl ⟨bst_first h, h⟩
    | some q =>
      obtain ⟨c, w, l0⟩ := q
      by_cases hb : bt wf (co l) (wo l) c w
      · exact Or.inl ⟨bst_yes h hb, h⟩
      · exact Or.inr (bst_keep hb)
  · exact Or.inr (bst_no h)
theorem rbest_some {σ : Mem} {n R : Nat} {c w : Int} {l : List Int} (h : rbest σ n R = some (c, w, l)) : l ∈ rEn σ n ∧ rok σ n R l ∧ c = rcost σ n (pf l) ∧ w = rwor σ n (pf l) := by
  have key : ∀ s, rbest σ n R = s → ∀ c w l, s = some (c, w, l) → l ∈ rEn σ n ∧ rok σ n R l ∧ c = rcost σ n (pf l) ∧ w = rwor σ n (pf l) := by
    intro s hs
    rw [← hs]
    unfold rbest
    refine fold_inv (P := fun s => ∀ c w l, s = some (c, w, l) → l ∈ rEn σ n ∧ rok σ n R l ∧ c = rcost σ n (pf l) ∧ w = rwor σ n (pf l)) (rEn σ n) (fun a l hl ha => ?_) none (fun c w l e => by cases e)
    intro c w l' e
    rcases bst_or (wf := σ 64 17) (ok := rok σ n R) (co := fun l => rcost σ n (pf l)) (wo := fun l => rwor σ n (pf l)) a l with ⟨h1, h2⟩ | h1
    · rw [h1] at e
      cases e
      exact ⟨hl, h2, rfl, rfl⟩
    · rw [h1] at e
      exact ha c w l' e
  exact key _ rfl c w l h
set_option maxRecDepth 100000 in
set_option maxHeartbeats 4000000 in
theorem X12_told {d : Nat} {n R F : Nat} {what : Int} {σ : Mem} {K : Int → Mem → Prop} (hw : RW σ n R F) (hp : RP σ 72 n) (hd : 3 ≤ d) (hk0 : K (toldV σ n R what) σ) : Run mX12_told d [.inr (some 64), .inl what] σ (RI K) := by
  have hw0 := hw
  obtain ⟨⟨hn, hn6, hR, hR12, hF, hF6⟩, hru, hde, hwo, hli, hba, hwf⟩ := hw0
  have hmb := rmvb_lt hw
  have hbb := rbrk_lt hw (σ 72)
  refine Run_of (ls := [.inr (some 64), .inl what]) (by decide) (Nat.le_of_ble_eq_true rfl) rfl ?_
  refine v_iload1 1 dX12_told_0 rfl ?_
  rcases (show what < 0 ∨ what = 0 ∨ what = 1 ∨ what = 2 ∨ what = 3 ∨ what = 4 ∨ what = 5 ∨ what = 6 ∨ what = 7 ∨ 7 < what by omega) with hsw | hsw | hsw | hsw | hsw | hsw | hsw | hsw | hsw | hsw
  · skip
    refine v_tabOut 122 dX12_told_1 (by omega) rfl ?_
    refine v_bipush 124 dX12_told_122 rfl ⟨by decide +kernel, by decide⟩ ?_
    refine v_iretI dX12_told_124 rfl ?_
    have e9 : toldV σ n R what = -2 := by unfold toldV; rw [if_neg (by omega), if_neg (by omega), if_neg (by omega), if_neg (by omega), if_neg (by omega), if_neg (by omega), if_neg (by omega), if_neg (by omega)]
    rw [e9] at hk0
    exact hk0
  · skip
    refine v_tabIn (off := 47) 48 dX12_told_1 (by omega) (by omega) (by rw [hsw]; rfl) rfl ?_
    refine v_aload0 49 dX12_told_48 rfl ?_
    refine v_aload0 50 dX12_told_49 rfl ?_
    refine v_getR 53 dX12_told_50 rfl fX12_31 rfl rfl ?_
    refine v_cvI1 mX12_costOf 56 dX12_told_53 rfl kX12_138 rfl rfl (by omega) (Nat.le_of_ble_eq_true rfl) ?_
    refine X12_costOf hw rfl hp (by omega) ?_
    refine v_iretI dX12_told_56 rfl ?_
    have e9 : toldV σ n R what = rcost σ n (σ 72) := by unfold toldV; simp [hsw]
    rw [e9] at hk0
    exact hk0
  · skip
    refine v_tabIn (off := 56) 57 dX12_told_1 (by omega) (by omega) (by rw [hsw]; rfl) rfl ?_
    refine v_aload0 58 dX12_told_57 rfl ?_
    refine v_aload0 59 dX12_told_58 rfl ?_
    refine v_getR 62 dX12_told_59 rfl fX12_31 rfl rfl ?_
    refine v_cvI1 mX12_worthOf 65 dX12_told_62 rfl kX12_141 rfl rfl (by omega) (Nat.le_of_ble_eq_true rfl) ?_
    refine X12_worthOf hw rfl hp ?_
    refine v_iretI dX12_told_65 rfl ?_
    have e9 : toldV σ n R what = rwor σ n (σ 72) := by unfold toldV; simp [hsw]
    rw [e9] at hk0
    exact hk0
  · skip
    refine v_tabIn (off := 65) 66 dX12_told_1 (by omega) (by omega) (by rw [hsw]; rfl) rfl ?_
    refine v_aload0 67 dX12_told_66 rfl ?_
    refine v_cvI0 mX12_movedBits 70 dX12_told_67 rfl kX12_154 rfl rfl (by omega) (Nat.le_of_ble_eq_true rfl) ?_
    refine X12_movedBits hw hp (by omega) ?_
    refine v_csI1 mX12_ones 73 dX12_told_70 rfl kX12_158 (by omega) (Nat.le_of_ble_eq_true rfl) ?_
    refine X12_ones (by omega) ?_
    refine v_iretI dX12_told_73 rfl ?_
    have e9 : toldV σ n R what = pop (rmvb σ n) 12 := by unfold toldV; simp [hsw]
    rw [e9] at hk0
    exact hk0
  · skip
    refine v_tabIn (off := 73) 74 dX12_told_1 (by omega) (by omega) (by rw [hsw]; rfl) rfl ?_
    refine v_aload0 75 dX12_told_74 rfl ?_
    refine v_cvI0 mX12_movedBits 78 dX12_told_75 rfl kX12_154 rfl rfl (by omega) (Nat.le_of_ble_eq_true rfl) ?_
    refine X12_movedBits hw hp (by omega) ?_
    refine v_iretI dX12_told_78 rfl ?_
    have e9 : toldV σ n R what = (rmvb σ n : Int) := by unfold toldV; simp [hsw]
    rw [e9] at hk0
    exact hk0
  · skip
    refine v_tabIn (off := 78) 79 dX12_told_1 (by omega) (by omega) (by rw [hsw]; rfl) rfl ?_
    refine v_aload0 80 dX12_told_79 rfl ?_
    refine v_aload0 81 dX12_told_80 rfl ?_
    refine v_getR 84 dX12_told_81 rfl fX12_31 rfl rfl ?_
    refine v_cvI1 mX12_brokenOf 87 dX12_told_84 rfl kX12_134 rfl rfl (by omega) (Nat.le_of_ble_eq_true rfl) ?_
    refine X12_brokenOf hw rfl hp (by omega) ?_
    refine v_csI1 mX12_ones 90 dX12_told_87 rfl kX12_158 (by omega) (Nat.le_of_ble_eq_true rfl) ?_
    refine X12_ones (by omega) ?_
    refine v_iretI dX12_told_90 rfl ?_
    have e9 : toldV σ n R what = pop (rbrk σ (σ 72) n R) 12 := by unfold toldV; simp [hsw]
    rw [e9] at hk0
    exact hk0
  · skip
    refine v_tabIn (off := 90) 91 dX12_told_1 (by omega) (by omega) (by rw [hsw]; rfl) rfl ?_
    refine v_aload0 92 dX12_told_91 rfl ?_
    refine v_aload0 93 dX12_told_92 rfl ?_
    refine v_getR 96 dX12_told_93 rfl fX12_31 rfl rfl ?_
    refine v_cvI1 mX12_brokenOf 99 dX12_told_96 rfl kX12_134 rfl rfl (by omega) (Nat.le_of_ble_eq_true rfl) ?_
    refine X12_brokenOf hw rfl hp (by omega) ?_
    refine v_iretI dX12_told_99 rfl ?_
    have e9 : toldV σ n R what = (rbrk σ (σ 72) n R : Int) := by unfold toldV; simp [hsw]
    rw [e9] at hk0
    exact hk0
  · skip
    refine v_tabIn (off := 99) 100 dX12_told_1 (by omega) (by omega) (by rw [hsw]; rfl) rfl ?_
    refine v_aload0 101 dX12_told_100 rfl ?_
    refine v_aload0 102 dX12_told_101 rfl ?_
    refine v_getR 105 dX12_told_102 rfl fX12_31 rfl rfl ?_
    refine v_cvI1 mX12_isAllowed 108 dX12_told_105 rfl kX12_130 rfl rfl (by omega) (Nat.le_of_ble_eq_true rfl) ?_
    refine X12_isAllowed hw rfl hp (by omega) (fun h105 => ?_) (fun h105 => ?_)
    · skip
      refine v_if_eq 115 111 dX12_told_108 rfl rfl (fun h => absurd h (by decide)) (fun _ => ?_)
      refine v_iconst 112 dX12_told_111 rfl ⟨by decide +kernel, by decide⟩ ?_
      refine v_goto 116 dX12_told_112 rfl ?_
      refine v_iretI dX12_told_116 rfl ?_
      have e9 : toldV σ n R what = one (cd (rAlw σ (σ 72) n)) := by unfold toldV; simp [hsw]
      rw [e9] at hk0
      rw [cd_t h105] at hk0
      exact hk0
    · skip
      refine v_if_eq 115 111 dX12_told_108 rfl rfl (fun _ => ?_) (fun h => absurd (by decide) h)
      refine v_iconst 116 dX12_told_115 rfl ⟨by decide +kernel, by decide⟩ ?_
      refine v_iretI dX12_told_116 rfl ?_
      have e9 : toldV σ n R what = one (cd (rAlw σ (σ 72) n)) := by unfold toldV; simp [hsw]
      rw [e9] at hk0
      rw [cd_f h105] at hk0
      exact hk0
  · skip
    refine v_tabIn (off := 116) 117 dX12_told_1 (by omega) (by omega) (by rw [hsw]; rfl) rfl ?_
    refine v_aload0 118 dX12_told_117 rfl ?_
    refine v_getI 121 21 dX12_told_118 rfl fX12_58 rfl rfl rfl ?_
    refine v_iretI dX12_told_121 rfl ?_
    have e9 : toldV σ n R what = σ 64 21 := by unfold toldV; simp [hsw]
    rw [e9] at hk0
    exact hk0
  · skip
    refine v_tabOut 122 dX12_told_1 (by omega) rfl ?_
    refine v_bipush 124 dX12_told_122 rfl ⟨by decide +kernel, by decide⟩ ?_
    refine v_iretI dX12_told_124 rfl ?_
    have e9 : toldV σ n R what = -2 := by unfold toldV; rw [if_neg (by omega), if_neg (by omega), if_neg (by omega), if_neg (by omega), if_neg (by omega), if_neg (by omega), if_neg (by omega), if_neg (by omega)]
    rw [e9] at hk0
    exact hk0
set_option maxRecDepth 100000 in
set_option maxHeartbeats 4000000 in
/-- what run leaves of the reference's cells: the plan l, one more undo -/
def u1 (σ : Mem) : Int := if σ 64 22 = 8 then 7 else σ 64 22
def um1 (σ : Mem) (j : Int) : Int := if σ 64 22 = 8 ∧ 0 ≤ j ∧ j < 7 then σ 81 (j + 1) else σ 81 j
def uv1 (σ : Mem) (j : Int) : Int := if σ 64 22 = 8 ∧ 0 ≤ j ∧ j < 42 then σ 82 (j + 6) else σ 82 j
def RunR (σ υ : Mem) (n : Nat) (l : List Int) : Prop := (∀ c, c ≠ 64 → c ≠ 72 → c ≠ 81 → c ≠ 82 → c ≠ 83 → c ≠ 84 → υ c = σ c) ∧ (∀ j : Int, υ 64 j = if j = 22 then u1 σ + 1 else σ 64 j) ∧ (∀ j : Int, υ 72 j = if 0 ≤ j ∧ j < n then pf l j else σ 72 j) ∧ (∀ j : Int, υ 81 j = if j = u1 σ then (n : Int) else um1 σ j) ∧ (∀ j : Int, υ 82 j = if 6 * u1 σ ≤ j ∧ j < 6 * u1 σ + n then σ 72 (j - 6 * u1 σ) else uv1 σ j)
set_option maxRecDepth 100000 in
set_option maxHeartbeats 4000000 in
theorem X12_run {d : Nat} {n R F : Nat} {σ : Mem} {K : Int → Mem → Prop} (hw : RW σ n R F) (hu : 0 ≤ σ 64 22 ∧ σ 64 22 ≤ 8) (hd : 5 ≤ d) (o1 : n = 0 → K (-3) σ) (o2 : n ≠ 0 → rbest σ n R = none → ∀ τ : Mem, (∀ c, c ≠ 83 → c ≠ 84 → τ c = σ c) → K (-5) τ) (o3 : n ≠ 0 → ∀ (c w : Int) (l : List Int), rbest σ n R = some (c, w, l) → ∀ υ : Mem, RunR σ υ n l → K (rcost σ n (pf l)) υ) : Run mX12_run d [.inr (some 64)] σ (RI K) := by
  have hw0 := hw
  obtain ⟨⟨hn, hn6, hR, hR12, hF, hF6⟩, hru, hde, hwo, hli, hba, hwf⟩ := hw0
  refine Run_of (ls := [.inr (some 64), .inr none]) (by decide) (Nat.le_of_ble_eq_true rfl) rfl ?_
  refine v_aload0 1 dX12_run_0 rfl ?_
  refine v_getIe 4 0 (n) dX12_run_1 rfl fX12_93 rfl rfl rfl (hn) ?_
  refine v_if_ne 10 7 dX12_run_4 rfl rfl (fun h4 => ?_) (fun h4 => ?_)
  · skip
    have htail : ∀ (τ : Mem) (u : Int) (z : AV) (l : List Int), 0 ≤ u ∧ u < 8 → τ 64 22 = u → (∀ j : Int, j ≠ 22 → τ 64 j = σ 64 j) → (∀ c, c ≠ 64 → c ≠ 72 → c ≠ 81 → c ≠ 82 → c ≠ 83 → c ≠ 84 → τ c = σ c) → (∀ j : Nat, j < n → τ 84 (j : Int) = pf l (j : Int)) → (∀ i : Int, 0 ≤ i → i < n → 0 ≤ pf l i ∧ pf l i ≤ 5) → (∀ υ : Mem, (∀ c, c ≠ 64 → c ≠ 72 → c ≠ 82 → c ≠ 81 → υ c = τ c) → (∀ j : Int, υ 64 j = if j = 22 then u + 1 else τ 64 j) → (∀ j : Int, υ 72 j = if 0 ≤ j ∧ j < n then τ 84 j else τ 72 j) → (∀ j : Int, υ 81 j = if j = u then (n : Int) else τ 81 j) → (∀ j : Int, υ 82 j = if 6 * u ≤ j ∧ j < 6 * u + n then τ 72 (j - 6 * u) else τ 82 j) → K (rcost σ n (pf l)) υ) → V mX12_run d (RI K) 92 [.inr (some 64), z] [] τ := by
      intro τ0 u z l hu8 huτ0 h64τ0 hfτ0 hlτ0 hlb hend
      have hnτ0 : τ0 64 0 = n := by rw [h64τ0 0 (by decide)]; exact hn
      refine v_aload0 93 dX12_run_92 rfl ?_
      refine v_getR 96 dX12_run_93 rfl fX12_62 rfl rfl ?_
      refine v_aload0 97 dX12_run_96 rfl ?_
      refine v_getIe 100 22 (u) dX12_run_97 rfl fX12_151 rfl rfl rfl (huτ0) ?_
      refine v_aload0 101 dX12_run_100 rfl ?_
      refine v_getIe 104 0 (n) dX12_run_101 rfl fX12_93 rfl rfl rfl (hnτ0) ?_
      refine v_iast 105 dX12_run_104 rfl rfl (⟨by omega, by omega⟩) ?_
      refine v_iconst 106 dX12_run_105 rfl ⟨by decide +kernel, by decide⟩ ?_
      refine v_istore1 107 dX12_run_106 rfl (by decide) ?_
      have huτ : wr τ0 81 u (n : Int) 64 22 = u := huτ0
      have hnτ : wr τ0 81 u (n : Int) 64 0 = n := hnτ0
      have h64τ : ∀ j : Int, j ≠ 22 → wr τ0 81 u (n : Int) 64 j = σ 64 j := h64τ0
      have hfτ : ∀ c, c ≠ 64 → c ≠ 72 → c ≠ 81 → c ≠ 82 → c ≠ 83 → c ≠ 84 → wr τ0 81 u (n : Int) c = σ c := fun c a b e f g h => by rw [wr_ne e]; exact hfτ0 c a b e f g h
      have hlτ : ∀ j : Nat, j < n → wr τ0 81 u (n : Int) 84 (j : Int) = pf l (j : Int) := hlτ0
      have hfin : ∀ υ : Mem, (∀ c, c ≠ 72 → c ≠ 82 → υ c = wr τ0 81 u (n : Int) c) → True := fun _ _ => trivial
      generalize hτe : wr τ0 81 u (n : Int) = τ at huτ hnτ h64τ hfτ hlτ ⊢
      have hfin : ∀ (υ' : Mem) {υ : Mem}, (∀ c, c ≠ 72 → c ≠ 82 → υ c = τ c) → (∀ j : Int, υ 72 j = if 0 ≤ j ∧ j < (n : Int) then τ 84 j else τ 72 j) → (∀ j : Int, υ 82 j = if 6 * u ≤ j ∧ j < 6 * u + (n : Int) then τ 72 (j - 6 * u) else τ 82 j) → υ' = wr υ 64 22 (u + 1) → K (rcost σ n (pf l)) υ' := by
        intro υ' υ g1 g2 g3 e
        subst e
        subst hτe
        refine hend _ (fun c a b f h => ?_) (fun j => ?_) (fun j => ?_) (fun j => ?_) (fun j => ?_)
        · rw [wr_ne a, g1 c b f, wr_ne h]
        · rw [wr_at, g1 64 (by decide) (by decide), wr_ne (by decide)]
        · rw [wr_ne (by decide), g2, wr_ne (by decide), wr_ne (by decide)]
        · rw [wr_ne (by decide), g1 81 (by decide) (by decide), wr_at]
        · rw [wr_ne (by decide), g3, wr_ne (by decide), wr_ne (by decide)]
      have hfin := fun (υ' : Mem) {υ : Mem} a b c => hfin υ' (υ := υ) a b c
      have LC : ∀ (k : Nat) (i : Nat) (υ : Mem), n - i < k → i ≤ n → (∀ c, c ≠ 72 → c ≠ 82 → υ c = τ c) → (∀ j : Int, υ 72 j = if 0 ≤ j ∧ j < i then τ 84 j else τ 72 j) → (∀ j : Int, υ 82 j = if 6 * u ≤ j ∧ j < 6 * u + i then τ 72 (j - 6 * u) else τ 82 j) → V mX12_run d (RI K) 107 [.inr (some 64), .inl (i : Int)] [] υ := by
        intro k
        induction k with
        | zero => intros; omega
        | succ k ih =>
            intro i υ hk hi g1 g2 g3
            have e64 := g1 64 (by decide) (by decide)
            refine v_iload1 108 dX12_run_107 rfl ?_
            refine v_aload0 109 dX12_run_108 rfl ?_
            refine v_getIe 112 0 (n) dX12_run_109 rfl fX12_93 rfl rfl rfl (by rw [e64]; exact hnτ) ?_
            refine v_icmp_ge 153 115 dX12_run_112 rfl rfl (fun h112 => ?_) (fun h112 => ?_)
            · skip
              refine v_aload0 154 dX12_run_153 rfl ?_
              refine v_dup 155 dX12_run_154 rfl ?_
              refine v_getIe 158 22 (u) dX12_run_155 rfl fX12_151 rfl rfl rfl (by rw [e64]; exact huτ) ?_
              refine v_iconst 159 dX12_run_158 rfl ⟨by decide +kernel, by decide⟩ ?_
              refine v_iadd 160 dX12_run_159 rfl (⟨by omega, by omega⟩) ?_
              refine v_putI 163 22 dX12_run_160 rfl pX12_151 rfl rfl rfl ?_
              refine v_aload0 164 dX12_run_163 rfl ?_
              refine v_aload0 165 dX12_run_164 rfl ?_
              refine v_getR 168 dX12_run_165 rfl fX12_31 rfl rfl ?_
              refine v_cvI1 mX12_costOf 171 dX12_run_168 rfl kX12_138 rfl rfl (by omega) (Nat.le_of_ble_eq_true rfl) ?_
              have hRW : RW (wr υ 64 22 (u + 1)) n R F := by
                have h64 : ∀ j : Int, j ≠ 22 → wr υ 64 22 (u + 1) 64 j = σ 64 j := fun j hj => by rw [wr_at, if_neg hj, e64]; exact h64τ j hj
                have hc : ∀ c, c ≠ 64 → c ≠ 72 → c ≠ 81 → c ≠ 82 → c ≠ 83 → c ≠ 84 → wr υ 64 22 (u + 1) c = σ c := fun c a b e f g h => by rw [wr_ne a, g1 c b f]; exact hfτ c a b e f g h
                unfold RW at hw ⊢
                rw [h64 0 (by decide), h64 12 (by decide), h64 10 (by decide), h64 21 (by decide), h64 17 (by decide), hc 75 (by decide) (by decide) (by decide) (by decide) (by decide) (by decide), hc 76 (by decide) (by decide) (by decide) (by decide) (by decide) (by decide), hc 77 (by decide) (by decide) (by decide) (by decide) (by decide) (by decide), hc 78 (by decide) (by decide) (by decide) (by decide) (by decide) (by decide), hc 65 (by decide) (by decide) (by decide) (by decide) (by decide) (by decide), hc 66 (by decide) (by decide) (by decide) (by decide) (by decide) (by decide), hc 67 (by decide) (by decide) (by decide) (by decide) (by decide) (by decide), hc 68 (by decide) (by decide) (by decide) (by decide) (by decide) (by decide), hc 69 (by decide) (by decide) (by decide) (by decide) (by decide) (by decide), hc 70 (by decide) (by decide) (by decide) (by decide) (by decide) (by decide), hc 71 (by decide) (by decide) (by decide) (by decide) (by decide) (by decide), hc 73 (by decide) (by decide) (by decide) (by decide) (by decide) (by decide), hc 79 (by decide) (by decide) (by decide) (by decide) (by decide) (by decide)]
                exact hw
              have hpl : ∀ j : Nat, j < n → wr υ 64 22 (u + 1) 72 (j : Int) = pf l (j : Int) := fun j hj => by rw [wr_ne (by decide), g2, if_pos (by omega)]; exact hlτ j hj
              have hRP : RP (wr υ 64 22 (u + 1)) 72 n := fun j a b => by
                have h1 := hpl j.toNat (by omega)
                rw [Int.toNat_of_nonneg a] at h1
                rw [h1]
                exact hlb j a b
              refine X12_costOf hRW rfl hRP (by omega) ?_
              have ecost : sumI (cst (wr υ 64 22 (u + 1) 64 21) (rbv (wr υ 64 22 (u + 1))) (wr υ 64 22 (u + 1) 68) (wr υ 64 22 (u + 1) 69) (wr υ 64 22 (u + 1) 72)) n = rcost σ n (pf l) := by
                have hbv : rbv (wr υ 64 22 (u + 1)) = rbv σ := by
                  funext j
                  show wr υ 64 22 (u + 1) 79 (6 * wr υ 64 22 (u + 1) 64 21 + j) = σ 79 (6 * σ 64 21 + j)
                  rw [wr_at, if_neg (by decide), e64, h64τ 21 (by decide), wr_ne (by decide), g1 79 (by decide) (by decide), hfτ 79 (by decide) (by decide) (by decide) (by decide) (by decide) (by decide)]
                have h21 : wr υ 64 22 (u + 1) 64 21 = σ 64 21 := by rw [wr_at, if_neg (by decide), e64, h64τ 21 (by decide)]
                have h68 : wr υ 64 22 (u + 1) 68 = σ 68 := by rw [wr_ne (by decide), g1 68 (by decide) (by decide), hfτ 68 (by decide) (by decide) (by decide) (by decide) (by decide) (by decide)]
                have h69 : wr υ 64 22 (u + 1) 69 = σ 69 := by rw [wr_ne (by decide), g1 69 (by decide) (by decide), hfτ 69 (by decide) (by decide) (by decide) (by decide) (by decide) (by decide)]
                rw [hbv, h21, h68, h69]
                exact rcost_congr hpl
              rw [ecost]
              refine v_iretI dX12_run_171 rfl ?_
              obtain rfl : i = n := by omega
              exact hfin _ g1 g2 g3 rfl
            · skip
              refine v_aload0 116 dX12_run_115 rfl ?_
              refine v_getR 119 dX12_run_116 rfl fX12_65 rfl rfl ?_
              refine v_bipush 121 dX12_run_119 rfl ⟨by decide +kernel, by decide⟩ ?_
              refine v_aload0 122 dX12_run_121 rfl ?_
              refine v_getIe 125 22 (u) dX12_run_122 rfl fX12_151 rfl rfl rfl (by rw [e64]; exact huτ) ?_
              refine v_imul 126 dX12_run_125 rfl (⟨by omega, by omega⟩) ?_
              refine v_iload1 127 dX12_run_126 rfl ?_
              refine v_iadd 128 dX12_run_127 rfl (⟨by omega, by omega⟩) ?_
              refine v_aload0 129 dX12_run_128 rfl ?_
              refine v_getR 132 dX12_run_129 rfl fX12_31 rfl rfl ?_
              refine v_iload1 133 dX12_run_132 rfl ?_
              refine v_ialde 134 (τ 72 (i : Int)) dX12_run_133 rfl rfl (⟨by omega, by omega⟩) (by rw [g2, if_neg (by omega)]) ?_
              refine v_iast 135 dX12_run_134 rfl rfl (⟨by omega, by omega⟩) ?_
              refine v_aload0 136 dX12_run_135 rfl ?_
              refine v_getR 139 dX12_run_136 rfl fX12_31 rfl rfl ?_
              refine v_iload1 140 dX12_run_139 rfl ?_
              refine v_aload0 141 dX12_run_140 rfl ?_
              refine v_getR 144 dX12_run_141 rfl fX12_71 rfl rfl ?_
              refine v_iload1 145 dX12_run_144 rfl ?_
              refine v_ialde 146 (τ 84 (i : Int)) dX12_run_145 rfl rfl (⟨by omega, by omega⟩) (by rw [wr_ne (by decide), g1 84 (by decide) (by decide)]) ?_
              refine v_iast 147 dX12_run_146 rfl rfl (⟨by omega, by omega⟩) ?_
              refine v_iinc1 150 dX12_run_147 rfl (by decide) rfl (⟨by omega, by omega⟩) ?_
              refine v_goto 107 dX12_run_150 rfl ?_
              exact ih (i + 1) _ (by omega) (by omega) (fun c a b => by rw [wr_ne a, wr_ne b]; exact g1 c a b) (fun j => by
                have e1 := g2 j
                rw [wr_at]
                by_cases ej : j = (i : Int)
                · rw [if_pos ej, if_pos (by omega), ej]
                · rw [if_neg ej, wr_ne (by decide), e1]
                  by_cases c1 : 0 ≤ j ∧ j < (i : Int)
                  · rw [if_pos c1, if_pos (by omega)]
                  · rw [if_neg c1, if_neg (by omega)]) (fun j => by
                have e1 := g3 j
                rw [wr_ne (by decide), wr_at]
                by_cases ej : j = 6 * u + (i : Int)
                · rw [if_pos ej, if_pos (by omega), show j - 6 * u = (i : Int) by omega]
                · rw [if_neg ej, e1]
                  by_cases c1 : 6 * u ≤ j ∧ j < 6 * u + (i : Int)
                  · rw [if_pos c1, if_pos (by omega)]
                  · rw [if_neg c1, if_neg (by omega)])
      exact LC (n + 1) 0 τ (by omega) (by omega) (fun _ _ _ => rfl) (fun j => by rw [if_neg (by omega)]) (fun j => by rw [if_neg (by omega)])
    refine v_aload0 11 dX12_run_10 rfl ?_
    refine v_cvI0 mX12_findBest 14 dX12_run_11 rfl kX12_148 rfl rfl (by omega) (Nat.le_of_ble_eq_true rfl) ?_
    refine X12_findBest hw (by omega) (fun τ c w l t1 t2 t3 => ?_) (fun τ t1 t2 => ?_)
    · skip
      refine v_if_ne 20 17 dX12_run_14 rfl rfl (fun _ => ?_) (fun h => absurd (by decide) h)
      have hlm := rbest_some t2
      have hlb : ∀ i : Int, 0 ≤ i → i < n → 0 ≤ pf l i ∧ pf l i ≤ 5 := fun i a b => by
        have hrp := RP_of (σ := σ) (τ := τ) (pp := 84) hw (by rw [t3]; exact hlm.1) i a b
        rw [← t3]
        have := pf_lst (a := τ 84) (n := n) (j := i.toNat) (by omega)
        rw [Int.toNat_of_nonneg a] at this
        rw [this]
        exact hrp
      refine v_aload0 21 dX12_run_20 rfl ?_
      refine v_getIe 24 22 (σ 64 22) dX12_run_21 rfl fX12_151 rfl rfl rfl (by rw [t1 64 (by decide) (by decide)]) ?_
      refine v_bipush 26 dX12_run_24 rfl ⟨by decide +kernel, by decide⟩ ?_
      refine v_icmp_ne 92 29 dX12_run_26 rfl rfl (fun h26 => ?_) (fun h26 => ?_)
      · skip
        refine htail τ (σ 64 22) _ l (by omega) (by rw [t1 64 (by decide) (by decide)]) (fun j _ => by rw [t1 64 (by decide) (by decide)]) (fun c a b e f g h => t1 c g h) (fun j hj => by rw [← t3, pf_lst hj]) hlb (fun υ2 b1 b2 b3 b4 b5 => ?_)
        have hu1 : u1 σ = σ 64 22 := by unfold u1; rw [if_neg (by omega)]
        refine o3 (by omega) c w l t2 υ2 ⟨fun c a b e f g h => ?_, fun j => ?_, fun j => ?_, fun j => ?_, fun j => ?_⟩
        · rw [b1 c a b f e]; exact t1 c g h
        · rw [b2, hu1, t1 64 (by decide) (by decide)]
        · rw [b3]
          by_cases cj : 0 ≤ j ∧ j < (n : Int)
          · rw [if_pos cj, if_pos cj, ← t3]
            have := pf_lst (a := τ 84) (n := n) (j := j.toNat) (by omega)
            rw [Int.toNat_of_nonneg cj.1] at this
            exact this.symm
          · rw [if_neg cj, if_neg cj, t1 72 (by decide) (by decide)]
        · rw [b4, hu1, t1 81 (by decide) (by decide)]
          by_cases ej : j = σ 64 22
          · rw [if_pos ej, if_pos ej]
          · rw [if_neg ej, if_neg ej, um1, if_neg (by omega)]
        · rw [b5, hu1, t1 72 (by decide) (by decide), t1 82 (by decide) (by decide)]
          by_cases c0 : 6 * σ 64 22 ≤ j ∧ j < 6 * σ 64 22 + (n : Int)
          · rw [if_pos c0, if_pos c0]
          · rw [if_neg c0, if_neg c0, uv1, if_neg (by omega)]
      · skip
        have h58 : ∀ (υ : Mem) (z : AV), (∀ c, c ≠ 82 → υ c = τ c) → (∀ j : Int, υ 82 j = if 0 ≤ j ∧ j < ((42 : Nat) : Int) then τ 82 (j + 6) else τ 82 j) → V mX12_run d (RI K) 58 [.inr (some 64), z] [] υ := by
          intro υ z g1 g2
          have L2 : ∀ (k : Nat) (i : Nat) (ω : Mem), 7 - i < k → i ≤ 7 → (∀ c, c ≠ 81 → ω c = υ c) → (∀ j : Int, ω 81 j = if 0 ≤ j ∧ j < i then τ 81 (j + 1) else τ 81 j) → V mX12_run d (RI K) 60 [.inr (some 64), .inl (i : Int)] [] ω := by
            intro k
            induction k with
            | zero => intros; omega
            | succ k ih =>
                intro i ω hk hi e1 e2
                refine v_iload1 61 dX12_run_60 rfl ?_
                refine v_bipush 63 dX12_run_61 rfl ⟨by decide +kernel, by decide⟩ ?_
                refine v_icmp_ge 86 66 dX12_run_63 rfl rfl (fun h63 => ?_) (fun h63 => ?_)
                · skip
                  refine v_aload0 87 dX12_run_86 rfl ?_
                  refine v_bipush 89 dX12_run_87 rfl ⟨by decide +kernel, by decide⟩ ?_
                  refine v_putI 92 22 dX12_run_89 rfl pX12_151 rfl rfl rfl ?_
                  obtain rfl : i = 7 := by omega
                  have hω : ∀ c, c ≠ 81 → c ≠ 82 → c ≠ 64 → wr ω 64 22 7 c = τ c := fun c a b f => by rw [wr_ne f, e1 c a, g1 c b]
                  refine htail _ 7 _ l (by omega) wr_eq (fun j hj => by rw [wr_at, if_neg hj, e1 64 (by decide), g1 64 (by decide), t1 64 (by decide) (by decide)]) (fun c a b e f g h => by rw [hω c e f a]; exact t1 c g h) (fun j hj => by rw [hω 84 (by decide) (by decide) (by decide), ← t3, pf_lst hj]) hlb (fun υ2 b1 b2 b3 b4 b5 => ?_)
                  have hu1 : u1 σ = 7 := by unfold u1; rw [if_pos (by omega)]
                  refine o3 (by omega) c w l t2 υ2 ⟨fun c a b e f g h => ?_, fun j => ?_, fun j => ?_, fun j => ?_, fun j => ?_⟩
                  · rw [b1 c a b f e, hω c e f a]; exact t1 c g h
                  · rw [b2, hu1]
                    by_cases ej : j = 22
                    · rw [if_pos ej, if_pos ej]
                    · rw [if_neg ej, if_neg ej, wr_at, if_neg ej, e1 64 (by decide), g1 64 (by decide), t1 64 (by decide) (by decide)]
                  · rw [b3]
                    by_cases cj : 0 ≤ j ∧ j < (n : Int)
                    · rw [if_pos cj, if_pos cj, hω 84 (by decide) (by decide) (by decide), ← t3]
                      have := pf_lst (a := τ 84) (n := n) (j := j.toNat) (by omega)
                      rw [Int.toNat_of_nonneg cj.1] at this
                      exact this.symm
                    · rw [if_neg cj, if_neg cj, hω 72 (by decide) (by decide) (by decide), t1 72 (by decide) (by decide)]
                  · rw [b4, hu1]
                    by_cases ej : j = 7
                    · rw [if_pos ej, if_pos ej]
                    · rw [if_neg ej, if_neg ej, wr_ne (by decide), e2, um1, t1 81 (by decide) (by decide)]
                      by_cases c1 : 0 ≤ j ∧ j < ((7 : Nat) : Int)
                      · rw [if_pos c1, if_pos (by omega)]
                      · rw [if_neg c1, if_neg (by omega)]
                  · rw [b5, hu1]
                    by_cases c0 : 6 * 7 ≤ j ∧ j < 6 * 7 + (n : Int)
                    · rw [if_pos c0, if_pos c0, hω 72 (by decide) (by decide) (by decide), t1 72 (by decide) (by decide)]
                    · rw [if_neg c0, if_neg c0, wr_ne (by decide), e1 82 (by decide), g2, uv1, t1 82 (by decide) (by decide)]
                      by_cases c1 : 0 ≤ j ∧ j < ((42 : Nat) : Int)
                      · rw [if_pos c1, if_pos (by omega)]
                      · rw [if_neg c1, if_neg (by omega)]
                · skip
                  refine v_aload0 67 dX12_run_66 rfl ?_
                  refine v_getR 70 dX12_run_67 rfl fX12_62 rfl rfl ?_
                  refine v_iload1 71 dX12_run_70 rfl ?_
                  refine v_aload0 72 dX12_run_71 rfl ?_
                  refine v_getR 75 dX12_run_72 rfl fX12_62 rfl rfl ?_
                  refine v_iload1 76 dX12_run_75 rfl ?_
                  refine v_iconst 77 dX12_run_76 rfl ⟨by decide +kernel, by decide⟩ ?_
                  refine v_iadd 78 dX12_run_77 rfl (⟨by omega, by omega⟩) ?_
                  refine v_ialde 79 (τ 81 ((i : Int) + 1)) dX12_run_78 rfl rfl (⟨by omega, by omega⟩) (by rw [e2, if_neg (by omega)]) ?_
                  refine v_iast 80 dX12_run_79 rfl rfl (⟨by omega, by omega⟩) ?_
                  refine v_iinc1 83 dX12_run_80 rfl (by decide) rfl (⟨by omega, by omega⟩) ?_
                  refine v_goto 60 dX12_run_83 rfl ?_
                  exact ih (i + 1) _ (by omega) (by omega) (fun c a => by rw [wr_ne a]; exact e1 c a) (fun j => by
                    rw [wr_at]
                    by_cases ej : j = (i : Int)
                    · rw [if_pos ej, if_pos (by omega), ej]
                    · rw [if_neg ej, e2]
                      by_cases c1 : 0 ≤ j ∧ j < (i : Int)
                      · rw [if_pos c1, if_pos (by omega)]
                      · rw [if_neg c1, if_neg (by omega)])
          refine v_iconst 59 dX12_run_58 rfl ⟨by decide +kernel, by decide⟩ ?_
          refine v_istore1 60 dX12_run_59 rfl (by decide) ?_
          exact L2 8 0 υ (by decide) (by decide) (fun _ _ => rfl) (fun j => by rw [if_neg (by omega), g1 81 (by decide)])
        have L1 : ∀ (k : Nat) (i : Nat) (υ : Mem), 42 - i < k → i ≤ 42 → (∀ c, c ≠ 82 → υ c = τ c) → (∀ j : Int, υ 82 j = if 0 ≤ j ∧ j < i then τ 82 (j + 6) else τ 82 j) → V mX12_run d (RI K) 31 [.inr (some 64), .inl (i : Int)] [] υ := by
          intro k
          induction k with
          | zero => intros; omega
          | succ k ih =>
              intro i υ hk hi g1 g2
              refine v_iload1 32 dX12_run_31 rfl ?_
              refine v_bipush 34 dX12_run_32 rfl ⟨by decide +kernel, by decide⟩ ?_
              refine v_icmp_ge 58 37 dX12_run_34 rfl rfl (fun h34 => ?_) (fun h34 => ?_)
              · skip
                obtain rfl : i = 42 := by omega
                exact h58 υ _ g1 g2
              · skip
                refine v_aload0 38 dX12_run_37 rfl ?_
                refine v_getR 41 dX12_run_38 rfl fX12_65 rfl rfl ?_
                refine v_iload1 42 dX12_run_41 rfl ?_
                refine v_aload0 43 dX12_run_42 rfl ?_
                refine v_getR 46 dX12_run_43 rfl fX12_65 rfl rfl ?_
                refine v_iload1 47 dX12_run_46 rfl ?_
                refine v_bipush 49 dX12_run_47 rfl ⟨by decide +kernel, by decide⟩ ?_
                refine v_iadd 50 dX12_run_49 rfl (⟨by omega, by omega⟩) ?_
                refine v_ialde 51 (τ 82 ((i : Int) + 6)) dX12_run_50 rfl rfl (⟨by omega, by omega⟩) (by rw [g2, if_neg (by omega)]) ?_
                refine v_iast 52 dX12_run_51 rfl rfl (⟨by omega, by omega⟩) ?_
                refine v_iinc1 55 dX12_run_52 rfl (by decide) rfl (⟨by omega, by omega⟩) ?_
                refine v_goto 31 dX12_run_55 rfl ?_
                exact ih (i + 1) _ (by omega) (by omega) (fun c a => by rw [wr_ne a]; exact g1 c a) (fun j => by
                  rw [wr_at]
                  by_cases ej : j = (i : Int)
                  · rw [if_pos ej, if_pos (by omega), ej]
                  · rw [if_neg ej, g2]
                    by_cases c1 : 0 ≤ j ∧ j < (i : Int)
                    · rw [if_pos c1, if_pos (by omega)]
                    · rw [if_neg c1, if_neg (by omega)])
        refine v_iconst 30 dX12_run_29 rfl ⟨by decide +kernel, by decide⟩ ?_
        refine v_istore1 31 dX12_run_30 rfl (by decide) ?_
        exact L1 43 0 τ (by decide) (by decide) (fun _ _ => rfl) (fun j => by rw [if_neg (by omega)])
    · skip
      refine v_if_ne 20 17 dX12_run_14 rfl rfl (fun h => absurd h (by decide)) (fun _ => ?_)
      refine v_bipush 19 dX12_run_17 rfl ⟨by decide +kernel, by decide⟩ ?_
      refine v_iretI dX12_run_19 rfl ?_
      first | exact o1 (by omega) | exact o2 (by omega) t2 τ t1
  · skip
    refine v_bipush 9 dX12_run_7 rfl ⟨by decide +kernel, by decide⟩ ?_
    refine v_iretI dX12_run_9 rfl ?_
    first | exact o1 (by omega) | exact o2 (by omega) t2 τ t1
