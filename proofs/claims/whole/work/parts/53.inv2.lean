/-! why, way, broken -/
theorem IV.mv {σ : Mem} {n R F : Nat} (h : IV σ n R F) {dd : Int} (a : 0 ≤ dd) (b : dd < n) : mv (σ 3 1) (cbv σ) (σ 11) dd = mv (σ 64 21) (rbv σ) (σ 72) dd := by
  have hn := h.cw.1.2.1
  rw [h.cr.mvq _ a b]
  exact mv_congr (h.cp.1 dd a (by omega))
theorem mv_ceq {σ υ : Mem} (h : CoreEq σ υ) (dd : Int) : mv (υ 64 21) (rbv υ) (υ 72) dd = mv (σ 64 21) (rbv σ) (σ 72) dd := by
  unfold mv rbv
  rw [h 64 (by omega) (by omega), h 72 (by omega) (by omega), h 79 (by omega) (by omega)]
theorem RW.wr74 {σ : Mem} {n R F : Nat} (h : RW σ n R F) (f x : Int) : RW (wr σ 74 f x) n R F := by
  obtain ⟨q1, q2, q3, q4, q5, q6, q7⟩ := h
  refine ⟨?_, ?_, ?_, ?_, ?_, ?_, ?_⟩
  · rw [wr_ne (by decide)]; exact q1
  · rw [wr_ne (by decide), wr_ne (by decide), wr_ne (by decide), wr_ne (by decide)]; exact q2
  · rw [wr_ne (by decide), wr_ne (by decide), wr_ne (by decide), wr_ne (by decide), wr_ne (by decide), wr_ne (by decide)]; exact q3
  · rw [wr_ne (by decide)]; exact q4
  · rw [wr_ne (by decide)]; exact q5
  · rw [wr_ne (by decide), wr_ne (by decide)]; exact q6
  · rw [wr_ne (by decide)]; exact q7
theorem why_ca {σ σa υ : Mem} {n R F : Nat} (hi : IV σ n R F) (hb5 : σ 3 1 ≠ -5) (hf : FrC σ υ) {f : Int} (a : 0 ≤ f) (b : f < F) (an : AN σ σa (fun q => if q = f then cbf σ f else σ 26 q) (σ 25)) : cBest σa (fun _ => true) (σ 0 11) n R = rbest (wr υ 74 f (υ 80 (6 * υ 64 21 + f))) n R := by
  have hF := hi.cw.1.2.2.2.2.2
  have hx : υ 80 (6 * υ 64 21 + f) = cbf σ f := by
    rw [hf 80 (by omega), hf 64 (by omega)]
    exact (hi.cbf hb5 a (by omega)).symm
  have hr := hi.rw.core hf.ceq
  have ca := hi.an an (hr.wr74 f (υ 80 (6 * υ 64 21 + f))) (fun c a b _ e => by rw [wr_ne e]; exact hf c (by omega)) (fun q a b => by
    rw [wr_at, hx]
    show (if q = f then cbf σ f else σ 26 q) = _
    split
    · rfl
    · rw [hf 74 (by omega)]; exact hi.fac q a b) (fun p a b => by rw [wr_ne (by decide), hf 73 (by omega)]; exact hi.lim p a b)
  have h1 := best_eq ca
  rw [wr_ne (by decide), hf 64 (by omega), ← hi.wf] at h1
  rw [h1, hf 64 (by omega)]
theorem why_i {σ υ : Mem} {n R F : Nat} (hi : IV σ n R F) (hb5 : σ 3 1 ≠ -5) (hf : FrC σ υ) {dd f : Int} (a : 0 ≤ f) (b : f < F) (ha : 0 ≤ dd) (hb : dd < n) : (υ 74 f = σ 26 f ∧ υ 80 (6 * υ 64 21 + f) = cbf σ f) ∧ rbv υ dd = cbv σ dd := by
  have hF := hi.cw.1.2.2.2.2.2
  refine ⟨⟨by rw [hf 74 (by omega)]; exact (hi.fac f a (by omega)).symm, ?_⟩, ?_⟩
  · rw [hf 80 (by omega), hf 64 (by omega)]
    exact (hi.cbf hb5 a (by omega)).symm
  · show υ 79 (6 * υ 64 21 + dd) = _
    rw [hf 79 (by omega), hf 64 (by omega)]
    exact (hi.cr.2.2.1.2 hb5 dd ha hb).symm
theorem why_y {σ υ : Mem} {n R F : Nat} (hi : IV σ n R F) (hb5 : σ 3 1 ≠ -5) (hf : FrC σ υ) {dd f : Int} (a : 0 ≤ f) (b : f < F) (ha : 0 ≤ dd) (hb : dd < n) (h : cwhyY σ n R dd f) : whyC υ n R dd f := by
  obtain ⟨h1, σa, an, c, w, l, h2, h3⟩ := h
  obtain ⟨⟨e1, e2⟩, e3⟩ := why_i hi hb5 hf a b ha hb
  refine ⟨by rw [e1, e2]; exact h1, c, w, l, ?_, by rw [e3]; exact h3⟩
  rw [← why_ca hi hb5 hf a b an]; exact h2
theorem why_n {σ υ : Mem} {n R F : Nat} (hi : IV σ n R F) (hb5 : σ 3 1 ≠ -5) (hf : FrC σ υ) {dd f : Int} (a : 0 ≤ f) (b : f < F) (ha : 0 ≤ dd) (hb : dd < n) (h : cwhyN σ n R dd f) : ¬ whyC υ n R dd f := by
  obtain ⟨⟨e1, e2⟩, e3⟩ := why_i hi hb5 hf a b ha hb
  rintro ⟨q1, c, w, l, q2, q3⟩
  rcases h with h | ⟨σa, an, h⟩
  · exact q1 (by rw [e1, e2]; exact h)
  · refine h ⟨c, w, l, ?_, by rw [← e3]; exact q3⟩
    rw [why_ca hi hb5 hf a b an]; exact q2
theorem b_why {σ : Mem} {d : Nat} {dd : Int} (hd : 20 ≤ d) (h : Inv σ) : Both mX11_why mX12_why d [.inl dd] σ := by
  obtain ⟨n, R, F, hi⟩ := h
  have rp := hi.cp.rp hi.cw
  refine X11_why hi.cw (by omega) (fun hn => ?_) (fun hn => ?_) (fun f a b hy hno υ hf hm => ?_) (fun hno υ hf hm => ?_)
  · exact X12_why hi.rw rp (by omega) (fun _ => ⟨rfl, n, R, F, hi⟩) (fun q => by omega) (fun _ _ _ _ _ _ _ q => by omega) (fun _ _ _ q => by omega)
  · have hm := hi.mv hn.1.1 hn.1.2
    rw [hn.2] at hm
    refine X12_why hi.rw rp (by omega) (fun q => by omega) (fun _ => ⟨rfl, n, R, F, hi⟩) (fun _ _ _ _ _ _ _ q => ?_) (fun _ _ _ q => ?_)
    · rw [← hm] at q; exact absurd q.2 (by decide)
    · rw [← hm] at q; exact absurd q.2 (by decide)
  · have hb5 : σ 3 1 ≠ -5 := (of_decide_eq_true hm.2).1
    have hr := hi.rw.core hf.ceq
    have hm2 := hi.mv hm.1.1 hm.1.2
    refine X12_why hr (fun i a b => by rw [hf 72 (by omega)]; exact rp i a b) (by omega) (fun q => by omega) (fun q => ?_) (fun f2 a2 b2 hy2 hno2 τ t1 _ => ⟨?_, n, R, F, hi.fr (fun c hc => by rw [t1 c (by omega) (by omega)]; exact hf c (by omega)) (core_fr (fun c a b => by rw [t1 c (by omega) (by omega)]; exact hf c (by omega)))⟩) (fun hno2 τ t1 _ => ?_)
    · rw [mv_ceq hf.ceq, ← hm2, hm.2] at q
      exact absurd q.2 (by decide)
    · by_cases e1 : f2 < f
      · exact absurd hy2 (why_n hi hb5 hf a2 b2 hm.1.1 hm.1.2 (hno f2 a2 e1))
      · by_cases e2 : f < f2
        · exact absurd (why_y hi hb5 hf a b hm.1.1 hm.1.2 hy) (hno2 f a e2)
        · omega
    · exact absurd (why_y hi hb5 hf a b hm.1.1 hm.1.2 hy) (hno2 f a b)
  · have hb5 : σ 3 1 ≠ -5 := (of_decide_eq_true hm.2).1
    have hr := hi.rw.core hf.ceq
    have hm2 := hi.mv hm.1.1 hm.1.2
    refine X12_why hr (fun i a b => by rw [hf 72 (by omega)]; exact rp i a b) (by omega) (fun q => by omega) (fun q => ?_) (fun f2 a2 b2 hy2 hno2 τ t1 _ => ?_) (fun hno2 τ t1 _ => ⟨rfl, n, R, F, hi.fr (fun c hc => by rw [t1 c (by omega) (by omega)]; exact hf c (by omega)) (core_fr (fun c a b => by rw [t1 c (by omega) (by omega)]; exact hf c (by omega)))⟩)
    · rw [mv_ceq hf.ceq, ← hm2, hm.2] at q
      exact absurd q.2 (by decide)
    · exact absurd hy2 (why_n hi hb5 hf a2 b2 hm.1.1 hm.1.2 (hno f2 a2 b2))
theorem gv_ceq {σ υ : Mem} (h : CoreEq σ υ) (left : Nat) : gv υ left = gv σ left := by
  funext d
  unfold gv rbv
  rw [h 64 (by omega) (by omega), h 72 (by omega) (by omega), h 79 (by omega) (by omega)]
theorem bbr_ceq {σ υ : Mem} (h : CoreEq σ υ) (n R : Nat) : bbr υ n R = bbr σ n R := by
  funext left
  unfold bbr
  rw [gv_ceq h, rbrk_core h]
theorem rmvb_ceq {σ υ : Mem} (h : CoreEq σ υ) (n : Nat) : rmvb υ n = rmvb σ n := bitsN_congr (fun d _ => mv_ceq h (d : Int))
theorem wres_ceq {σ υ : Mem} (h : CoreEq σ υ) (n R : Nat) : wres υ n R = wres σ n R := by
  unfold wres
  rw [bbr_ceq h, rmvb_ceq h]
theorem b_way {σ : Mem} {d : Nat} {ii : Int} (hd : 20 ≤ d) (h : Inv σ) : Both mX11_way mX12_way d [.inl ii] σ := by
  obtain ⟨n, R, F, hi⟩ := h
  have rp := hi.cp.rp hi.cw
  have hbs := hi.bs
  refine X11_way hi.cw (hi.cp.bnd hi.cw) (by omega) (fun hb => ?_) (fun hb υ hf => ?_)
  · exact X12_way hi.rw rp (by omega) (fun _ => ⟨rfl, n, R, F, hi⟩) (fun q => by omega)
  · have hr := hi.rw.core hf.ceq
    have h64 : υ 64 = σ 64 := hf 64 (by omega)
    refine X12_way hr (fun i a b => by rw [hf 72 (by omega)]; exact rp i a b) (by omega) (fun q => by rw [h64] at q; omega) (fun _ τ t1 => ⟨?_, n, R, F, hi.fr (fun c hc => by rw [t1.2 c (by omega) (by omega)]; exact hf c (by omega)) ⟨fun j a b => by rw [t1.1 j a b, h64], fun c a b => by rw [t1.2 c (by omega) (by omega)]; exact hf c (by omega)⟩⟩)
    rw [wres_ceq hf.ceq, cw_eq hi.cw hi.rw hi.cr hi.fac hi.cp hb]
theorem b_broken {σ : Mem} {d : Nat} {ii : Int} (hd : 20 ≤ d) (h : Inv σ) : Both mX11_broken mX12_broken d [.inl ii] σ := by
  obtain ⟨n, R, F, hi⟩ := h
  have rp := hi.cp.rp hi.cw
  have hbs := hi.bs
  refine X11_broken hi.cw (hi.cp.bnd hi.cw) (by omega) (fun hb => ?_) (fun hb υ hf => ?_)
  · exact X12_broken hi.rw rp (by omega) (fun _ => ⟨rfl, n, R, F, hi⟩) (fun q => by omega)
  · have hr := hi.rw.core hf.ceq
    have h64 : υ 64 = σ 64 := hf 64 (by omega)
    refine X12_broken hr (fun i a b => by rw [hf 72 (by omega)]; exact rp i a b) (by omega) (fun q => by rw [h64] at q; omega) (fun _ τ t1 => ⟨?_, n, R, F, hi.fr (fun c hc => by rw [t1.2 c (by omega) (by omega)]; exact hf c (by omega)) ⟨fun j a b => by rw [t1.1 j a b, h64], fun c a b => by rw [t1.2 c (by omega) (by omega)]; exact hf c (by omega)⟩⟩)
    rw [wres_ceq hf.ceq, cw_eq hi.cw hi.rw hi.cr hi.fac hi.cp hb]
