set_option maxRecDepth 100000 in
set_option maxHeartbeats 4000000 in
theorem rok_core {σ τ : Mem} (h : CoreEq σ τ) (n R : Nat) : rok τ n R = rok σ n R := by
  funext l
  unfold rok
  rw [rbrk_core h, propext (rAlw_core h (pf l) n)]
theorem rokA_core {σ τ : Mem} (h : CoreEq σ τ) (n R : Nat) (asd : Int) : rokA τ n R asd = rokA σ n R asd := by
  funext l
  unfold rokA rbA
  rw [rbrk_core h, propext (rAlw_core h (pf l) n)]
theorem rbest_core {σ τ : Mem} (h : CoreEq σ τ) (n R : Nat) : rbest τ n R = rbest σ n R := by
  unfold rbest
  have e1 : (fun l : List Int => rcost τ n (pf l)) = fun l => rcost σ n (pf l) := by funext l; exact rcost_core h n _
  have e2 : (fun l : List Int => rwor τ n (pf l)) = fun l => rwor σ n (pf l) := by funext l; exact rwor_core h n _
  rw [rEn_core h, rok_core h, e1, e2, h 64 (by decide) (by decide)]
theorem rleast_core {σ τ : Mem} (h : CoreEq σ τ) (n R : Nat) (asd : Int) : rleast τ n R asd = rleast σ n R asd := by
  unfold rleast
  have e1 : (fun l : List Int => rcost τ n (pf l)) = fun l => rcost σ n (pf l) := by funext l; exact rcost_core h n _
  rw [rEn_core h, rokA_core h, e1]
theorem rnear_core {σ τ : Mem} (h : CoreEq σ τ) (n R : Nat) (q : Int) : rnear τ n R q = rnear σ n R q := by
  unfold rnear
  have e1 : (fun l : List Int => rcost τ n (pf l)) = fun l => rcost σ n (pf l) := by funext l; exact rcost_core h n _
  rw [rEn_core h, rok_core h, e1]
theorem RW_73 {σ : Mem} {n R F : Nat} (hw : RW σ n R F) (p : Int) : RW (wr σ 73 p 0) n R F := by
  obtain ⟨h1, h2, h3, h4, h5, h6, h7⟩ := hw
  refine ⟨h1, h2, h3, h4, fun q a b => ?_, h6, h7⟩
  rw [wr_at]
  split
  · omega
  · exact h5 q a b
theorem RW_74 {σ : Mem} {n R F : Nat} (hw : RW σ n R F) (f v : Int) : RW (wr σ 74 f v) n R F := hw
def whyC (σ : Mem) (n R : Nat) (dd f : Int) : Prop := σ 74 f ≠ σ 80 (6 * σ 64 21 + f) ∧ ∃ (c w : Int) (l : List Int), rbest (wr σ 74 f (σ 80 (6 * σ 64 21 + f))) n R = some (c, w, l) ∧ pf l dd = rbv σ dd
set_option maxRecDepth 100000 in
set_option maxHeartbeats 4000000 in
theorem X12_spare {d : Nat} {n R F : Nat} {p : Int} {σ : Mem} {K : Int → Mem → Prop} (hw : RW σ n R F) (hd : 5 ≤ d) (o1 : p < 0 ∨ 3 < p → K (-2) σ) (o2 : ¬ (p < 0 ∨ 3 < p) ∧ n = 0 → K (-3) σ) (o3 : ¬ (p < 0 ∨ 3 < p) ∧ n ≠ 0 → ∀ τ : Mem, (∀ c, c ≠ 83 → τ c = σ c) → K (rleast (wr σ 73 p 0) n R (-1)) τ) : Run mX12_spare d [.inr (some 64), .inl p] σ (RI K) := by
  have hw0 := hw
  obtain ⟨⟨hn, hn6, hR, hR12, hF, hF6⟩, hru, hde, hwo, hli, hba, hwf⟩ := hw0
  refine Run_of (ls := [.inr (some 64), .inl p, .inr none, .inr none]) (by decide) (Nat.le_of_ble_eq_true rfl) rfl ?_
  refine v_iload1 1 dX12_spare_0 rfl ?_
  refine v_iconst 2 dX12_spare_1 rfl ⟨by decide +kernel, by decide⟩ ?_
  refine v_iconst 3 dX12_spare_2 rfl ⟨by decide +kernel, by decide⟩ ?_
  refine v_csI3 mX12_out 6 dX12_spare_3 rfl kX12_96 (by omega) (Nat.le_of_ble_eq_true rfl) ?_
  refine X12_out (fun h3 => ?_) (fun h3 => ?_)
  · skip
    refine v_if_eq 12 9 dX12_spare_6 rfl rfl (fun h => absurd h (by decide)) (fun _ => ?_)
    refine v_bipush 11 dX12_spare_9 rfl ⟨by decide +kernel, by decide⟩ ?_
    refine v_iretI dX12_spare_11 rfl ?_
    first | exact o1 (by omega) | exact o2 (by omega)
  · skip
    refine v_if_eq 12 9 dX12_spare_6 rfl rfl (fun _ => ?_) (fun h => absurd (by decide) h)
    refine v_aload0 13 dX12_spare_12 rfl ?_
    refine v_getIe 16 0 (n) dX12_spare_13 rfl fX12_93 rfl rfl rfl (hn) ?_
    refine v_if_ne 22 19 dX12_spare_16 rfl rfl (fun h16 => ?_) (fun h16 => ?_)
    · skip
      refine v_aload0 23 dX12_spare_22 rfl ?_
      refine v_getR 26 dX12_spare_23 rfl fX12_34 rfl rfl ?_
      refine v_iload1 27 dX12_spare_26 rfl ?_
      refine v_iald 28 dX12_spare_27 rfl rfl (⟨by omega, by omega⟩) ?_
      refine v_istore2 29 dX12_spare_28 rfl (by decide) ?_
      refine v_aload0 30 dX12_spare_29 rfl ?_
      refine v_getR 33 dX12_spare_30 rfl fX12_34 rfl rfl ?_
      refine v_iload1 34 dX12_spare_33 rfl ?_
      refine v_iconst 35 dX12_spare_34 rfl ⟨by decide +kernel, by decide⟩ ?_
      refine v_iast 36 dX12_spare_35 rfl rfl (⟨by omega, by omega⟩) ?_
      refine v_aload0 37 dX12_spare_36 rfl ?_
      refine v_iconst 38 dX12_spare_37 rfl ⟨by decide +kernel, by decide⟩ ?_
      refine v_cvI1 mX12_leastOf 41 dX12_spare_38 rfl kX12_162 rfl rfl (by omega) (Nat.le_of_ble_eq_true rfl) ?_
      refine X12_leastOf (RW_73 hw p) (by omega) (by omega) (fun τ t1 => ?_)
      refine v_istore3 42 dX12_spare_41 rfl (by decide) ?_
      refine v_aload0 43 dX12_spare_42 rfl ?_
      refine v_getR 46 dX12_spare_43 rfl fX12_34 rfl rfl ?_
      refine v_iload1 47 dX12_spare_46 rfl ?_
      refine v_iload2 48 dX12_spare_47 rfl ?_
      refine v_iast 49 dX12_spare_48 rfl rfl (⟨by omega, by omega⟩) ?_
      refine v_iload3 50 dX12_spare_49 rfl ?_
      refine v_iretI dX12_spare_50 rfl ?_
      refine o3 (by omega) _ (fun c a => ?_)
      by_cases e : c = 73
      · subst e
        funext j
        rw [wr_at, t1 73 (by decide), wr_at]
        by_cases ej : j = p
        · rw [if_pos ej, ej]
        · rw [if_neg ej, if_neg ej]
      · rw [wr_ne e, t1 c a, wr_ne e]
    · skip
      refine v_bipush 21 dX12_spare_19 rfl ⟨by decide +kernel, by decide⟩ ?_
      refine v_iretI dX12_spare_21 rfl ?_
      first | exact o1 (by omega) | exact o2 (by omega)
set_option maxRecDepth 100000 in
set_option maxHeartbeats 4000000 in
theorem X12_why {d : Nat} {n R F : Nat} {dd : Int} {σ : Mem} {K : Int → Mem → Prop} (hw : RW σ n R F) (hp : RP σ 72 n) (hd : 5 ≤ d) (o1 : dd < 0 ∨ (n : Int) ≤ dd → K (-1) σ) (o2 : (0 ≤ dd ∧ dd < n) ∧ mv (σ 64 21) (rbv σ) (σ 72) dd = false → K (-3) σ) (o3 : ∀ f : Int, 0 ≤ f → f < F → whyC σ n R dd f → (∀ g : Int, 0 ≤ g → g < f → ¬ whyC σ n R dd g) → ∀ τ : Mem, (∀ c, c ≠ 83 → c ≠ 84 → τ c = σ c) → (0 ≤ dd ∧ dd < n) ∧ mv (σ 64 21) (rbv σ) (σ 72) dd = true → K f τ) (o4 : (∀ g : Int, 0 ≤ g → g < F → ¬ whyC σ n R dd g) → ∀ τ : Mem, (∀ c, c ≠ 83 → c ≠ 84 → τ c = σ c) → (0 ≤ dd ∧ dd < n) ∧ mv (σ 64 21) (rbv σ) (σ 72) dd = true → K (-5) τ) : Run mX12_why d [.inr (some 64), .inl dd] σ (RI K) := by
  have hw0 := hw
  obtain ⟨⟨hn, hn6, hR, hR12, hF, hF6⟩, hru, hde, hwo, hli, hba, hwf⟩ := hw0
  refine Run_of (ls := [.inr (some 64), .inl dd, .inr none, .inr none, .inr none, .inr none]) (by decide) (Nat.le_of_ble_eq_true rfl) rfl ?_
  refine v_aload0 1 dX12_why_0 rfl ?_
  refine v_iload1 2 dX12_why_1 rfl ?_
  refine v_cvI1 mX12_noDecision 5 dX12_why_2 rfl kX12_103 rfl rfl (by omega) (Nat.le_of_ble_eq_true rfl) ?_
  refine X12_noDecision (by omega) (by omega) (fun h2 => ?_) (fun h2 => ?_)
  · skip
    refine v_if_eq 10 8 dX12_why_5 rfl rfl (fun h => absurd h (by decide)) (fun _ => ?_)
    refine v_iconst 9 dX12_why_8 rfl ⟨by decide +kernel, by decide⟩ ?_
    refine v_iretI dX12_why_9 rfl ?_
    first | exact o1 (by omega) | exact o2 ⟨by omega, h16⟩
  · skip
    refine v_if_eq 10 8 dX12_why_5 rfl rfl (fun _ => ?_) (fun h => absurd (by decide) h)
    refine v_aload0 11 dX12_why_10 rfl ?_
    refine v_aload0 12 dX12_why_11 rfl ?_
    refine v_getR 15 dX12_why_12 rfl fX12_31 rfl rfl ?_
    refine v_iload1 16 dX12_why_15 rfl ?_
    refine v_cvI2 mX12_isMoved 19 dX12_why_16 rfl kX12_124 rfl rfl (by omega) (Nat.le_of_ble_eq_true rfl) ?_
    refine X12_isMoved hw rfl hp (by omega) (fun h16 => ?_) (fun h16 => ?_)
    · skip
      refine v_if_ne 25 22 dX12_why_19 rfl rfl (fun _ => ?_) (fun h => absurd (by decide) h)
      have hdd : 0 ≤ dd ∧ dd < n := by omega
      have hmv : σ 64 21 ≠ -5 ∧ σ 72 dd ≠ rbv σ dd := of_decide_eq_true h16
      have o3 := fun f a b c e τ g => o3 f a b c e τ g ⟨hdd, h16⟩
      have o4 := fun a τ g => o4 a τ g ⟨hdd, h16⟩
      have L : ∀ (k : Nat) (i : Nat) (τ : Mem) (z3 z4 z5 : AV), F - i < k → i ≤ F → (∀ c, c ≠ 83 → c ≠ 84 → τ c = σ c) → (∀ g : Int, 0 ≤ g → g < i → ¬ whyC σ n R dd g) → V mX12_why d (RI K) 27 [.inr (some 64), .inl dd, .inl (i : Int), z3, z4, z5] [] τ := by
        intro k
        induction k with
        | zero => intros; omega
        | succ k ih =>
            intro i τ z3 z4 z5 hk hi f1 hno
            refine v_iload2 28 dX12_why_27 rfl ?_
            refine v_aload0 29 dX12_why_28 rfl ?_
            refine v_getIe 32 10 (F) dX12_why_29 rfl fX12_111 rfl rfl rfl (by rw [f1 64 (by decide) (by decide)]; exact hF) ?_
            refine v_icmp_ge 129 35 dX12_why_32 rfl rfl (fun h32 => ?_) (fun h32 => ?_)
            · skip
              refine v_bipush 131 dX12_why_129 rfl ⟨by decide +kernel, by decide⟩ ?_
              refine v_iretI dX12_why_131 rfl ?_
              exact o4 (fun g a b => hno g a (by omega)) τ f1
            · skip
              have hb0 := hba.resolve_left hmv.1
              have hT : σ 80 (6 * σ 64 21 + (i : Int)) = σ 80 (6 * σ 64 21 + (i : Int)) := rfl
              generalize hth : σ 80 (6 * σ 64 21 + (i : Int)) = th at hT
              refine v_aload0 36 dX12_why_35 rfl ?_
              refine v_getR 39 dX12_why_36 rfl fX12_37 rfl rfl ?_
              refine v_iload2 40 dX12_why_39 rfl ?_
              refine v_ialde 41 (σ 74 (i : Int)) dX12_why_40 rfl rfl (⟨by omega, by omega⟩) (by rw [f1 74 (by decide) (by decide)]) ?_
              refine v_istore3 42 dX12_why_41 rfl (by decide) ?_
              refine v_aload0 43 dX12_why_42 rfl ?_
              refine v_getR 46 dX12_why_43 rfl fX12_55 rfl rfl ?_
              refine v_bipush 48 dX12_why_46 rfl ⟨by decide +kernel, by decide⟩ ?_
              refine v_aload0 49 dX12_why_48 rfl ?_
              refine v_getIe 52 21 (σ 64 21) dX12_why_49 rfl fX12_58 rfl rfl rfl (by rw [f1 64 (by decide) (by decide)]) ?_
              refine v_imul 53 dX12_why_52 rfl (⟨by omega, by omega⟩) ?_
              refine v_iload2 54 dX12_why_53 rfl ?_
              refine v_iadd 55 dX12_why_54 rfl (⟨by omega, by omega⟩) ?_
              refine v_ialde 56 (th) dX12_why_55 rfl rfl (⟨by omega, by omega⟩) (by rw [f1 80 (by decide) (by decide)]; exact hth) ?_
              refine v_istore4 58 dX12_why_56 rfl (by decide) ?_
              refine v_iload3 59 dX12_why_58 rfl ?_
              refine v_iload4 61 dX12_why_59 rfl ?_
              refine v_icmp_eq 123 64 dX12_why_61 rfl rfl (fun h61 => ?_) (fun h61 => ?_)
              · skip
                refine v_iinc2 126 dX12_why_123 rfl (by decide) rfl (⟨by omega, by omega⟩) ?_
                refine v_goto 27 dX12_why_126 rfl ?_
                first
                  | (exfalso; omega)
                  | (refine ih (i + 1) _ _ _ _ (by omega) (by omega) (fun c p q => by
                       by_cases e : c = 74
                       · subst e
                         funext j
                         rw [wr_at, t1 74 (by decide) (by decide), wr_at, f1 74 (by decide) (by decide)]
                         by_cases ej : j = (i : Int)
                         · rw [if_pos ej, ej]
                         · rw [if_neg ej, if_neg ej]
                       · rw [wr_ne e, t1 c p q, wr_ne e]; exact f1 c p q) (fun g a b => ?_)
                     by_cases eg : g = (i : Int)
                     · subst eg
                       rintro ⟨q1, c2, w2, l2, q2, q3⟩
                       rw [hth, t2] at q2
                       first
                         | (cases q2; done)
                         | (cases q2; exact h99 q3)
                     · exact hno g a (by omega))
                  | (refine ih (i + 1) τ _ _ _ (by omega) (by omega) f1 (fun g a b => ?_)
                     by_cases eg : g = (i : Int)
                     · subst eg
                       rintro ⟨q1, -⟩
                       rw [hth] at q1
                       exact q1 (by omega)
                     · exact hno g a (by omega))
              · skip
                refine v_aload0 65 dX12_why_64 rfl ?_
                refine v_getR 68 dX12_why_65 rfl fX12_37 rfl rfl ?_
                refine v_iload2 69 dX12_why_68 rfl ?_
                refine v_iload4 71 dX12_why_69 rfl ?_
                refine v_iast 72 dX12_why_71 rfl rfl (⟨by omega, by omega⟩) ?_
                have hce : CoreEq (wr σ 74 (i : Int) th) (wr τ 74 (i : Int) th) := fun c a b => by
                  by_cases e : c = 74
                  · subst e; funext j; rw [wr_at, wr_at, f1 74 (by decide) (by decide)]
                  · rw [wr_ne e, wr_ne e]; exact f1 c (by omega) (by omega)
                have hwt : RW (wr τ 74 (i : Int) th) n R F := (RW_74 hw _ _).core hce
                refine v_aload0 73 dX12_why_72 rfl ?_
                refine v_cvI0 mX12_findBest 76 dX12_why_73 rfl kX12_148 rfl rfl (by omega) (Nat.le_of_ble_eq_true rfl) ?_
                refine X12_findBest hwt (by omega) (fun τ2 c w l t1 t2 t3 => ?_) (fun τ2 t1 t2 => ?_)
                all_goals rw [rbest_core hce] at t2
                · skip
                  refine v_if_eq 106 79 dX12_why_76 rfl rfl (fun h => absurd h (by decide)) (fun _ => ?_)
                  refine v_aload0 80 dX12_why_79 rfl ?_
                  refine v_getR 83 dX12_why_80 rfl fX12_71 rfl rfl ?_
                  refine v_iload1 84 dX12_why_83 rfl ?_
                  refine v_ialde 85 (pf l dd) dX12_why_84 rfl rfl (⟨by omega, by omega⟩) (by rw [← t3, show dd = ((dd.toNat : Nat) : Int) from (Int.toNat_of_nonneg hdd.1).symm, pf_lst (by omega)]) ?_
                  refine v_aload0 86 dX12_why_85 rfl ?_
                  refine v_getR 89 dX12_why_86 rfl fX12_52 rfl rfl ?_
                  refine v_bipush 91 dX12_why_89 rfl ⟨by decide +kernel, by decide⟩ ?_
                  refine v_aload0 92 dX12_why_91 rfl ?_
                  refine v_getIe 95 21 (σ 64 21) dX12_why_92 rfl fX12_58 rfl rfl rfl (by rw [t1 64 (by decide) (by decide), wr_ne (by decide), f1 64 (by decide) (by decide)]) ?_
                  refine v_imul 96 dX12_why_95 rfl (⟨by omega, by omega⟩) ?_
                  refine v_iload1 97 dX12_why_96 rfl ?_
                  refine v_iadd 98 dX12_why_97 rfl (⟨by omega, by omega⟩) ?_
                  refine v_ialde 99 (rbv σ dd) dX12_why_98 rfl rfl (⟨by omega, by omega⟩) (by rw [t1 79 (by decide) (by decide), wr_ne (by decide), f1 79 (by decide) (by decide)]) ?_
                  refine v_icmp_ne 106 102 dX12_why_99 rfl rfl (fun h99 => ?_) (fun h99 => ?_)
                  · skip
                    refine v_iconst 107 dX12_why_106 rfl ⟨by decide +kernel, by decide⟩ ?_
                    refine v_istore5 109 dX12_why_107 rfl (by decide) ?_
                    refine v_aload0 110 dX12_why_109 rfl ?_
                    refine v_getR 113 dX12_why_110 rfl fX12_37 rfl rfl ?_
                    refine v_iload2 114 dX12_why_113 rfl ?_
                    refine v_iload3 115 dX12_why_114 rfl ?_
                    refine v_iast 116 dX12_why_115 rfl rfl (⟨by omega, by omega⟩) ?_
                    refine v_iload5 118 dX12_why_116 rfl ?_
                    refine v_if_eq 123 121 dX12_why_118 rfl rfl (fun h118 => ?_) (fun h118 => ?_)
                    · skip
                      refine v_iinc2 126 dX12_why_123 rfl (by decide) rfl (⟨by omega, by omega⟩) ?_
                      refine v_goto 27 dX12_why_126 rfl ?_
                      first
                        | (exfalso; omega)
                        | (refine ih (i + 1) _ _ _ _ (by omega) (by omega) (fun c p q => by
                             by_cases e : c = 74
                             · subst e
                               funext j
                               rw [wr_at, t1 74 (by decide) (by decide), wr_at, f1 74 (by decide) (by decide)]
                               by_cases ej : j = (i : Int)
                               · rw [if_pos ej, ej]
                               · rw [if_neg ej, if_neg ej]
                             · rw [wr_ne e, t1 c p q, wr_ne e]; exact f1 c p q) (fun g a b => ?_)
                           by_cases eg : g = (i : Int)
                           · subst eg
                             rintro ⟨q1, c2, w2, l2, q2, q3⟩
                             rw [hth, t2] at q2
                             first
                               | (cases q2; done)
                               | (cases q2; exact h99 q3)
                           · exact hno g a (by omega))
                        | (refine ih (i + 1) τ _ _ _ (by omega) (by omega) f1 (fun g a b => ?_)
                           by_cases eg : g = (i : Int)
                           · subst eg
                             rintro ⟨q1, -⟩
                             rw [hth] at q1
                             exact q1 (by omega)
                           · exact hno g a (by omega))
                    · skip
                      refine v_iload2 122 dX12_why_121 rfl ?_
                      refine v_iretI dX12_why_122 rfl ?_
                      first
                        | (exfalso; omega)
                        | exact o3 (i : Int) (by omega) (by omega) ⟨by rw [hth]; omega, c, w, l, by rw [hth]; exact t2, by omega⟩ hno _ (fun c p q => by
                              by_cases e : c = 74
                              · subst e
                                funext j
                                rw [wr_at, t1 74 (by decide) (by decide), wr_at, f1 74 (by decide) (by decide)]
                                by_cases ej : j = (i : Int)
                                · rw [if_pos ej, ej]
                                · rw [if_neg ej, if_neg ej]
                              · rw [wr_ne e, t1 c p q, wr_ne e]; exact f1 c p q)
                  · skip
                    refine v_iconst 103 dX12_why_102 rfl ⟨by decide +kernel, by decide⟩ ?_
                    refine v_goto 107 dX12_why_103 rfl ?_
                    refine v_istore5 109 dX12_why_107 rfl (by decide) ?_
                    refine v_aload0 110 dX12_why_109 rfl ?_
                    refine v_getR 113 dX12_why_110 rfl fX12_37 rfl rfl ?_
                    refine v_iload2 114 dX12_why_113 rfl ?_
                    refine v_iload3 115 dX12_why_114 rfl ?_
                    refine v_iast 116 dX12_why_115 rfl rfl (⟨by omega, by omega⟩) ?_
                    refine v_iload5 118 dX12_why_116 rfl ?_
                    refine v_if_eq 123 121 dX12_why_118 rfl rfl (fun h118 => ?_) (fun h118 => ?_)
                    · skip
                      refine v_iinc2 126 dX12_why_123 rfl (by decide) rfl (⟨by omega, by omega⟩) ?_
                      refine v_goto 27 dX12_why_126 rfl ?_
                      first
                        | (exfalso; omega)
                        | (refine ih (i + 1) _ _ _ _ (by omega) (by omega) (fun c p q => by
                             by_cases e : c = 74
                             · subst e
                               funext j
                               rw [wr_at, t1 74 (by decide) (by decide), wr_at, f1 74 (by decide) (by decide)]
                               by_cases ej : j = (i : Int)
                               · rw [if_pos ej, ej]
                               · rw [if_neg ej, if_neg ej]
                             · rw [wr_ne e, t1 c p q, wr_ne e]; exact f1 c p q) (fun g a b => ?_)
                           by_cases eg : g = (i : Int)
                           · subst eg
                             rintro ⟨q1, c2, w2, l2, q2, q3⟩
                             rw [hth, t2] at q2
                             first
                               | (cases q2; done)
                               | (cases q2; exact h99 q3)
                           · exact hno g a (by omega))
                        | (refine ih (i + 1) τ _ _ _ (by omega) (by omega) f1 (fun g a b => ?_)
                           by_cases eg : g = (i : Int)
                           · subst eg
                             rintro ⟨q1, -⟩
                             rw [hth] at q1
                             exact q1 (by omega)
                           · exact hno g a (by omega))
                    · skip
                      refine v_iload2 122 dX12_why_121 rfl ?_
                      refine v_iretI dX12_why_122 rfl ?_
                      first
                        | (exfalso; omega)
                        | exact o3 (i : Int) (by omega) (by omega) ⟨by rw [hth]; omega, c, w, l, by rw [hth]; exact t2, by omega⟩ hno _ (fun c p q => by
                              by_cases e : c = 74
                              · subst e
                                funext j
                                rw [wr_at, t1 74 (by decide) (by decide), wr_at, f1 74 (by decide) (by decide)]
                                by_cases ej : j = (i : Int)
                                · rw [if_pos ej, ej]
                                · rw [if_neg ej, if_neg ej]
                              · rw [wr_ne e, t1 c p q, wr_ne e]; exact f1 c p q)
                · skip
                  refine v_if_eq 106 79 dX12_why_76 rfl rfl (fun _ => ?_) (fun h => absurd (by decide) h)
                  refine v_iconst 107 dX12_why_106 rfl ⟨by decide +kernel, by decide⟩ ?_
                  refine v_istore5 109 dX12_why_107 rfl (by decide) ?_
                  refine v_aload0 110 dX12_why_109 rfl ?_
                  refine v_getR 113 dX12_why_110 rfl fX12_37 rfl rfl ?_
                  refine v_iload2 114 dX12_why_113 rfl ?_
                  refine v_iload3 115 dX12_why_114 rfl ?_
                  refine v_iast 116 dX12_why_115 rfl rfl (⟨by omega, by omega⟩) ?_
                  refine v_iload5 118 dX12_why_116 rfl ?_
                  refine v_if_eq 123 121 dX12_why_118 rfl rfl (fun h118 => ?_) (fun h118 => ?_)
                  · skip
                    refine v_iinc2 126 dX12_why_123 rfl (by decide) rfl (⟨by omega, by omega⟩) ?_
                    refine v_goto 27 dX12_why_126 rfl ?_
                    first
                      | (exfalso; omega)
                      | (refine ih (i + 1) _ _ _ _ (by omega) (by omega) (fun c p q => by
                           by_cases e : c = 74
                           · subst e
                             funext j
                             rw [wr_at, t1 74 (by decide) (by decide), wr_at, f1 74 (by decide) (by decide)]
                             by_cases ej : j = (i : Int)
                             · rw [if_pos ej, ej]
                             · rw [if_neg ej, if_neg ej]
                           · rw [wr_ne e, t1 c p q, wr_ne e]; exact f1 c p q) (fun g a b => ?_)
                         by_cases eg : g = (i : Int)
                         · subst eg
                           rintro ⟨q1, c2, w2, l2, q2, q3⟩
                           rw [hth, t2] at q2
                           first
                             | (cases q2; done)
                             | (cases q2; exact h99 q3)
                         · exact hno g a (by omega))
                      | (refine ih (i + 1) τ _ _ _ (by omega) (by omega) f1 (fun g a b => ?_)
                         by_cases eg : g = (i : Int)
                         · subst eg
                           rintro ⟨q1, -⟩
                           rw [hth] at q1
                           exact q1 (by omega)
                         · exact hno g a (by omega))
                  · skip
                    refine v_iload2 122 dX12_why_121 rfl ?_
                    refine v_iretI dX12_why_122 rfl ?_
                    first
                      | (exfalso; omega)
                      | exact o3 (i : Int) (by omega) (by omega) ⟨by rw [hth]; omega, c, w, l, by rw [hth]; exact t2, by omega⟩ hno _ (fun c p q => by
                            by_cases e : c = 74
                            · subst e
                              funext j
                              rw [wr_at, t1 74 (by decide) (by decide), wr_at, f1 74 (by decide) (by decide)]
                              by_cases ej : j = (i : Int)
                              · rw [if_pos ej, ej]
                              · rw [if_neg ej, if_neg ej]
                            · rw [wr_ne e, t1 c p q, wr_ne e]; exact f1 c p q)
      refine v_iconst 26 dX12_why_25 rfl ⟨by decide +kernel, by decide⟩ ?_
      refine v_istore2 27 dX12_why_26 rfl (by decide) ?_
      exact L (F + 1) 0 _ _ _ _ (by omega) (by omega) (fun _ _ _ => rfl) (fun g a b => by omega)
    · skip
      refine v_if_ne 25 22 dX12_why_19 rfl rfl (fun h => absurd h (by decide)) (fun _ => ?_)
      refine v_bipush 24 dX12_why_22 rfl ⟨by decide +kernel, by decide⟩ ?_
      refine v_iretI dX12_why_24 rfl ?_
      first | exact o1 (by omega) | exact o2 ⟨by omega, h16⟩
