/-! the class's table of peaks and sums against the reference's list of all rows -/
def pkf (b : Nat → Int) (pm : Nat → Int) (left : Nat) (a : Int) (d : Nat) : Int := min a (max (b (clr left d)) (pm (clr left d)))
def pk (b : Nat → Int) (n : Nat) : Nat → Nat → Int
  | 0, _ => 0
  | m + 1, left => (bl left n).foldl (pkf b (pk b n m) left) 1000
def sT (b : Nat → Int) (P : Int) (sm : Nat → Int) (left d : Nat) : Int := if P < b (clr left d) then 1000 else min 1000 (b (clr left d) + sm (clr left d))
def sm (b : Nat → Int) (P : Int) (n : Nat) : Nat → Nat → Int
  | 0, _ => 0
  | m + 1, left => (bl left n).foldl (fun a d => min a (sT b P (sm b P n m) left d)) 1000
def fstep (b : Nat → Int) (P : Int) (n m left : Nat) : Nat := ((bl left n).find? (fun d => decide (sT b P (sm b P n m) left d = sm b P n (m + 1) left))).getD 0
def fpath (b : Nat → Int) (P : Int) (n : Nat) : Nat → Nat → List (Int × Int)
  | 0, _ => []
  | m + 1, left => ((fstep b P n m left : Int), b (clr left (fstep b P n m left))) :: fpath b P n m (clr left (fstep b P n m left))
theorem wst_from (r : List (Int × Int)) : ∀ m0 : Int, 0 ≤ m0 → r.foldl (fun m x => if m < x.2 then x.2 else m) m0 = max m0 (wst r) := by
  induction r with
  | nil => intro m0 h; show m0 = max m0 0; omega
  | cons x r ih =>
    intro m0 h
    show r.foldl _ (if m0 < x.2 then x.2 else m0) = max m0 (r.foldl _ (if 0 < x.2 then x.2 else 0))
    rw [ih _ (by split <;> omega), ih _ (by split <;> omega)]
    split <;> split <;> omega
theorem wst_cons (x : Int × Int) (r : List (Int × Int)) : wst (x :: r) = max (max 0 x.2) (wst r) := by
  show r.foldl _ (if 0 < x.2 then x.2 else 0) = _
  rw [wst_from _ _ (by split <;> omega)]
  split <;> omega
theorem smm_from (r : List (Int × Int)) : ∀ m0 : Int, r.foldl (fun m x => m + x.2) m0 = m0 + smm r := by
  induction r with
  | nil => intro m0; show m0 = m0 + 0; omega
  | cons x r ih =>
    intro m0
    show r.foldl _ (m0 + x.2) = m0 + r.foldl _ (0 + x.2)
    rw [ih, ih (0 + x.2)]
    omega
theorem smm_cons (x : Int × Int) (r : List (Int × Int)) : smm (x :: r) = x.2 + smm r := by
  show r.foldl _ (0 + x.2) = _
  rw [smm_from]
  omega
theorem foldmin {α : Type} (f : α → Int) : ∀ (L : List α) (a : Int), L.foldl (fun a d => min a (f d)) a ≤ a ∧ (∀ d ∈ L, L.foldl (fun a d => min a (f d)) a ≤ f d) ∧ (L.foldl (fun a d => min a (f d)) a = a ∨ ∃ d ∈ L, L.foldl (fun a d => min a (f d)) a = f d)
  | [], a => ⟨Int.le_refl _, (fun d h => by cases h), Or.inl rfl⟩
  | x :: L, a => by
    have ih := foldmin f L (min a (f x))
    show L.foldl _ (min a (f x)) ≤ a ∧ (∀ d ∈ x :: L, L.foldl _ (min a (f x)) ≤ f d) ∧ (L.foldl _ (min a (f x)) = a ∨ ∃ d ∈ x :: L, L.foldl _ (min a (f x)) = f d)
    obtain ⟨h1, h2, h3⟩ := ih
    refine ⟨by omega, fun d hd => ?_, ?_⟩
    · rcases List.mem_cons.mp hd with e | e
      · subst e; omega
      · exact h2 d e
    · rcases h3 with h3 | ⟨d, h4, h5⟩
      · by_cases e : a ≤ f x
        · exact Or.inl (by omega)
        · exact Or.inr ⟨x, List.mem_cons_self, by omega⟩
      · exact Or.inr ⟨d, List.mem_cons_of_mem _ h4, h5⟩
theorem cm_mem {b : Nat → Int} {n m left : Nat} {r : List (Int × Int)} : r ∈ cm b n (m + 1) left ↔ ∃ d, d ∈ bl left n ∧ ∃ s, s ∈ cm b n m (clr left d) ∧ r = ((d : Int), b (clr left d)) :: s := by
  constructor
  · intro hr
    obtain ⟨d, hd, h2⟩ := List.mem_flatMap.mp hr
    obtain ⟨s, h3, rfl⟩ := List.mem_map.mp h2
    exact ⟨d, hd, s, h3, rfl⟩
  · rintro ⟨d, hd, s, h3, rfl⟩
    exact List.mem_flatMap.mpr ⟨d, hd, List.mem_map.mpr ⟨s, h3, rfl⟩⟩
theorem bl_ne {left n m : Nat} (hp : pop left n = (m + 1 : Nat)) : ∃ d, d ∈ bl left n := by
  have h := cm_ne (b := fun _ => 0) (n := n) (m + 1) left hp
  obtain ⟨r, hr⟩ := List.exists_mem_of_ne_nil _ h
  obtain ⟨d, hd, -⟩ := cm_mem.mp hr
  exact ⟨d, hd⟩
theorem pk_bnd {b : Nat → Int} (hb : ∀ s, 0 ≤ b s ∧ b s ≤ 12) {n : Nat} : ∀ (m left : Nat), pop left n = m → 0 ≤ pk b n m left ∧ pk b n m left ≤ 12
  | 0, _, _ => by show (0 : Int) ≤ 0 ∧ (0 : Int) ≤ 12; omega
  | m + 1, left, hp => by
    have hfold := foldmin (fun d => max (b (clr left d)) (pk b n m (clr left d))) (bl left n) 1000
    have e : pk b n (m + 1) left = (bl left n).foldl (fun a d => min a (max (b (clr left d)) (pk b n m (clr left d)))) 1000 := rfl
    rw [e]
    obtain ⟨h1, h2, h3⟩ := hfold
    have key : ∀ d, d ∈ bl left n → 0 ≤ max (b (clr left d)) (pk b n m (clr left d)) ∧ max (b (clr left d)) (pk b n m (clr left d)) ≤ 12 := fun d hd => by
      have hq := bl_mem.mp hd
      have hc := pop_clr hq.1 hq.2
      have ih := pk_bnd hb (n := n) m (clr left d) (by omega)
      have := hb (clr left d)
      omega
    obtain ⟨d, hd⟩ := bl_ne hp
    have k1 := key d hd
    have k2 := h2 d hd
    refine ⟨?_, by omega⟩
    rcases h3 with h3 | ⟨d', hd', h3⟩
    · omega
    · rw [h3]; exact (key d' hd').1
theorem pk_lew {b : Nat → Int} (hb : ∀ s, 0 ≤ b s ∧ b s ≤ 12) {n : Nat} : ∀ (m left : Nat), pop left n = m → ∀ r, r ∈ cm b n m left → pk b n m left ≤ wst r
  | 0, _, _, r, hr => by
    have : r = [] := by simpa [cm] using hr
    rw [this]; exact Int.le_refl _
  | m + 1, left, hp, r, hr => by
    obtain ⟨d, hd, s, hs, rfl⟩ := cm_mem.mp hr
    have hq := bl_mem.mp hd
    have hc := pop_clr hq.1 hq.2
    have ih := pk_lew hb (n := n) m (clr left d) (by omega) s hs
    have h2 := (foldmin (fun d => max (b (clr left d)) (pk b n m (clr left d))) (bl left n) 1000).2.1 d hd
    have e : pk b n (m + 1) left = (bl left n).foldl (fun a d => min a (max (b (clr left d)) (pk b n m (clr left d)))) 1000 := rfl
    rw [e, wst_cons]
    show _ ≤ max (max 0 (b (clr left d))) (wst s)
    have h2' : (bl left n).foldl (fun a d => min a (max (b (clr left d)) (pk b n m (clr left d)))) 1000 ≤ max (b (clr left d)) (pk b n m (clr left d)) := h2
    omega
theorem pk_ex {b : Nat → Int} (hb : ∀ s, 0 ≤ b s ∧ b s ≤ 12) {n : Nat} : ∀ (m left : Nat), pop left n = m → ∃ r, r ∈ cm b n m left ∧ wst r = pk b n m left
  | 0, _, _ => ⟨[], by simp [cm], rfl⟩
  | m + 1, left, hp => by
    have e : pk b n (m + 1) left = (bl left n).foldl (fun a d => min a (max (b (clr left d)) (pk b n m (clr left d)))) 1000 := rfl
    have hbd := pk_bnd hb (m + 1) left hp
    rcases (foldmin (fun d => max (b (clr left d)) (pk b n m (clr left d))) (bl left n) 1000).2.2 with h3 | ⟨d, hd, h3⟩
    · have h3' : pk b n (m + 1) left = 1000 := h3
      omega
    · have h3' : pk b n (m + 1) left = max (b (clr left d)) (pk b n m (clr left d)) := h3
      have hq := bl_mem.mp hd
      have hc := pop_clr hq.1 hq.2
      obtain ⟨s, hs, hs2⟩ := pk_ex hb (n := n) m (clr left d) (by omega)
      refine ⟨_, cm_mem.mpr ⟨d, hd, s, hs, rfl⟩, ?_⟩
      rw [wst_cons, hs2, h3']
      show max (max 0 (b (clr left d))) _ = _
      have := hb (clr left d)
      omega
theorem sm_le {b : Nat → Int} (hb : ∀ s, 0 ≤ b s ∧ b s ≤ 12) {n : Nat} (P : Int) : ∀ (m left : Nat), pop left n = m → ∀ r, r ∈ cm b n m left → wst r ≤ P → sm b P n m left ≤ smm r
  | 0, _, _, r, hr, _ => by
    have : r = [] := by simpa [cm] using hr
    rw [this]; exact Int.le_refl _
  | m + 1, left, hp, r, hr, hP => by
    obtain ⟨d, hd, s, hs, rfl⟩ := cm_mem.mp hr
    have hq := bl_mem.mp hd
    have hc := pop_clr hq.1 hq.2
    rw [wst_cons] at hP
    have hP' : max (max 0 (b (clr left d))) (wst s) ≤ P := hP
    have ih := sm_le hb (n := n) P m (clr left d) (by omega) s hs (by omega)
    have h2 : sm b P n (m + 1) left ≤ sT b P (sm b P n m) left d := (foldmin (sT b P (sm b P n m) left) (bl left n) 1000).2.1 d hd
    rw [smm_cons]
    show _ ≤ b (clr left d) + smm s
    unfold sT at h2
    rw [if_neg (by omega)] at h2
    omega
theorem sm_bnd {b : Nat → Int} (hb : ∀ s, 0 ≤ b s ∧ b s ≤ 12) {n : Nat} (P : Int) : ∀ (m left : Nat), 0 ≤ sm b P n m left ∧ sm b P n m left ≤ 1000
  | 0, _ => by show (0 : Int) ≤ 0 ∧ (0 : Int) ≤ 1000; omega
  | m + 1, left => by
    have h := foldmin (sT b P (sm b P n m) left) (bl left n) 1000
    refine ⟨?_, h.1⟩
    rcases h.2.2 with h3 | ⟨d, _, h3⟩
    · have h3' : sm b P n (m + 1) left = 1000 := h3
      omega
    · have h3' : sm b P n (m + 1) left = sT b P (sm b P n m) left d := h3
      have := sm_bnd hb P (n := n) m (clr left d)
      have := hb (clr left d)
      rw [h3']
      unfold sT
      split <;> omega
theorem cm_smm {b : Nat → Int} (hb : ∀ s, 0 ≤ b s ∧ b s ≤ 12) {n : Nat} : ∀ (m left : Nat) (r : List (Int × Int)), r ∈ cm b n m left → 0 ≤ smm r ∧ smm r ≤ 12 * m
  | 0, _, r, hr => by
    have : r = [] := by simpa [cm] using hr
    rw [this]; exact ⟨Int.le_refl _, Int.le_refl _⟩
  | m + 1, left, r, hr => by
    obtain ⟨d, hd, s, hs, rfl⟩ := cm_mem.mp hr
    have ih := cm_smm hb (n := n) m _ s hs
    have := hb (clr left d)
    rw [smm_cons]
    show 0 ≤ b (clr left d) + smm s ∧ b (clr left d) + smm s ≤ _
    omega
/-- the path that is followed is the first of the least -/
theorem fpath_ok {b : Nat → Int} (hb : ∀ s, 0 ≤ b s ∧ b s ≤ 12) {n : Nat} {P : Int} (hP0 : 0 ≤ P) : ∀ (m left : Nat), m ≤ 6 → pop left n = m → sm b P n m left < 1000 →
    wst (fpath b P n m left) ≤ P ∧ smm (fpath b P n m left) = sm b P n m left ∧ ∃ L1 L2, cm b n m left = L1 ++ fpath b P n m left :: L2 ∧ ∀ r ∈ L1, ¬ (wst r ≤ P ∧ smm r ≤ sm b P n m left)
  | 0, left, _, _, _ => ⟨hP0, rfl, [], [], rfl, fun r h => by cases h⟩
  | m + 1, left, hm, hp, hlt => by
    have hfold := foldmin (sT b P (sm b P n m) left) (bl left n) 1000
    obtain ⟨d0, hd0, he0⟩ : ∃ d ∈ bl left n, sm b P n (m + 1) left = sT b P (sm b P n m) left d := by
      rcases hfold.2.2 with h3 | h3
      · have h3' : sm b P n (m + 1) left = 1000 := h3
        omega
      · exact h3
    obtain ⟨d, hfd⟩ : ∃ d, (bl left n).find? (fun d => decide (sT b P (sm b P n m) left d = sm b P n (m + 1) left)) = some d := by
      cases hf : (bl left n).find? (fun d => decide (sT b P (sm b P n m) left d = sm b P n (m + 1) left)) with
      | some d => exact ⟨d, rfl⟩
      | none =>
        have := List.find?_eq_none.mp hf d0 hd0
        exact absurd (decide_eq_true he0.symm) this
    have hfs : fstep b P n m left = d := by unfold fstep; rw [hfd]; rfl
    obtain ⟨hd1, as, bs, hsplit, hnot⟩ := List.find?_eq_some_iff_append.mp hfd
    have hd1 : sT b P (sm b P n m) left d = sm b P n (m + 1) left := of_decide_eq_true hd1
    have hd : d ∈ bl left n := by rw [hsplit]; simp
    have hq := bl_mem.mp hd
    have hc := pop_clr hq.1 hq.2
    have hbb := hb (clr left d)
    have hsb := sm_bnd hb P (n := n) m (clr left d)
    have hT : b (clr left d) ≤ P ∧ sm b P n (m + 1) left = b (clr left d) + sm b P n m (clr left d) := by
      unfold sT at hd1
      by_cases hPb : P < b (clr left d)
      · rw [if_pos hPb] at hd1; omega
      · rw [if_neg hPb] at hd1; omega
    obtain ⟨i1, i2, L1, L2, i3, i4⟩ := fpath_ok hb (n := n) hP0 m (clr left d) (by omega) (by omega) (by omega)
    have hfp : fpath b P n (m + 1) left = ((d : Int), b (clr left d)) :: fpath b P n m (clr left d) := by
      show ((fstep b P n m left : Int), b (clr left (fstep b P n m left))) :: fpath b P n m (clr left (fstep b P n m left)) = _
      rw [hfs]
    rw [hfp]
    refine ⟨?_, ?_, as.flatMap (fun d => (cm b n m (clr left d)).map (fun s => ((d : Int), b (clr left d)) :: s)) ++ L1.map (fun s => ((d : Int), b (clr left d)) :: s), L2.map (fun s => ((d : Int), b (clr left d)) :: s) ++ bs.flatMap (fun d => (cm b n m (clr left d)).map (fun s => ((d : Int), b (clr left d)) :: s)), ?_, fun r hr => ?_⟩
    · rw [wst_cons]
      show max (max 0 (b (clr left d))) _ ≤ P
      omega
    · rw [smm_cons]
      show b (clr left d) + _ = _
      omega
    · show (bl left n).flatMap (fun d => (cm b n m (clr left d)).map (fun s => ((d : Int), b (clr left d)) :: s)) = _
      rw [hsplit, List.flatMap_append, List.flatMap_cons, i3, List.map_append, List.map_cons]
      simp
    · rcases List.mem_append.mp hr with hr | hr
      · obtain ⟨e, he, h2⟩ := List.mem_flatMap.mp hr
        obtain ⟨s, h3, rfl⟩ := List.mem_map.mp h2
        have he2 : e ∈ bl left n := by rw [hsplit]; simp [he]
        have hqe := bl_mem.mp he2
        have hce := pop_clr hqe.1 hqe.2
        rintro ⟨q1, q2⟩
        rw [wst_cons] at q1
        rw [smm_cons] at q2
        have q1' : max (max 0 (b (clr left e))) (wst s) ≤ P := q1
        have q2' : b (clr left e) + smm s ≤ sm b P n (m + 1) left := q2
        have h5 := sm_le hb (n := n) P m (clr left e) (by omega) s h3 (by omega)
        have h6 : sm b P n (m + 1) left ≤ sT b P (sm b P n m) left e := hfold.2.1 e he2
        have h7 : ¬ sT b P (sm b P n m) left e = sm b P n (m + 1) left := by
          have := hnot e he
          simpa using this
        have h8 : sT b P (sm b P n m) left e ≤ b (clr left e) + sm b P n m (clr left e) := by
          unfold sT
          rw [if_neg (by omega)]
          omega
        omega
      · obtain ⟨s, h3, rfl⟩ := List.mem_map.mp hr
        rintro ⟨q1, q2⟩
        rw [wst_cons] at q1
        rw [smm_cons] at q2
        have q1' : max (max 0 (b (clr left d))) (wst s) ≤ P := q1
        have q2' : b (clr left d) + smm s ≤ sm b P n (m + 1) left := q2
        exact i4 s h3 ⟨by omega, by omega⟩
theorem fpath_mem {b : Nat → Int} (hb : ∀ s, 0 ≤ b s ∧ b s ≤ 12) {n : Nat} {P : Int} {m left : Nat} (hP0 : 0 ≤ P) (hm : m ≤ 6) (hp : pop left n = m) (h : sm b P n m left < 1000) : fpath b P n m left ∈ cm b n m left := by
  obtain ⟨-, -, L1, L2, h3, -⟩ := fpath_ok hb (n := n) hP0 m left hm hp h
  rw [h3]
  simp
theorem wup_keep {P S : Int} (L : List (List (Int × Int))) (hall : ∀ r ∈ L, ¬ (wst r < P ∨ (wst r = P ∧ smm r < S))) (p : List (Int × Int)) : L.foldl wup (P, S, p) = (P, S, p) := by
  induction L with
  | nil => rfl
  | cons x L ih =>
    show L.foldl wup (wup (P, S, p) x) = _
    have : wup (P, S, p) x = (P, S, p) := if_neg (hall x List.mem_cons_self)
    rw [this]
    exact ih (fun r hr => hall r (List.mem_cons_of_mem _ hr))
theorem wup_before {P S : Int} (L : List (List (Int × Int))) : ∀ s : Int × Int × List (Int × Int), (P < s.1 ∨ (P = s.1 ∧ S < s.2.1)) → (∀ r ∈ L, P < wst r ∨ (P = wst r ∧ S < smm r)) → (P < (L.foldl wup s).1 ∨ (P = (L.foldl wup s).1 ∧ S < (L.foldl wup s).2.1)) := by
  induction L with
  | nil => intro s h _; exact h
  | cons x L ih =>
    intro s h hall
    refine ih _ ?_ (fun r hr => hall r (List.mem_cons_of_mem _ hr))
    unfold wup
    split
    · exact hall x List.mem_cons_self
    · exact h
theorem wres_path {b : Nat → Int} (hb : ∀ s, 0 ≤ b s ∧ b s ≤ 12) {n m left : Nat} (hm : m ≤ 6) (hp : pop left n = m) :
    (cm b n m left).foldl wup (100, 0, []) = (pk b n m left, sm b (pk b n m left) n m left, fpath b (pk b n m left) n m left) ∧ sm b (pk b n m left) n m left < 1000 := by
  have hpb := pk_bnd hb (n := n) m left hp
  obtain ⟨r0, hr0, hw0⟩ := pk_ex hb (n := n) m left hp
  have hs0 := sm_le hb (pk b n m left) m left hp r0 hr0 (by omega)
  have hs1 := cm_smm hb (n := n) m left r0 hr0
  have hlt : sm b (pk b n m left) n m left < 1000 := by omega
  refine ⟨?_, hlt⟩
  have hok := fpath_ok hb hpb.1 m left hm hp hlt
  have hfm := fpath_mem hb hpb.1 hm hp hlt
  have hwf := pk_lew hb (n := n) m left hp _ hfm
  generalize hP : pk b n m left = P at *
  generalize hS : sm b P n m left = S at *
  generalize hfp : fpath b P n m left = fp at *
  obtain ⟨h1, h2, L1, L2, h3, h4⟩ := hok
  have hge : ∀ r, r ∈ cm b n m left → P ≤ wst r := fun r hr => by rw [← hP]; exact pk_lew hb (n := n) m left hp r hr
  have hse : ∀ r, r ∈ cm b n m left → wst r ≤ P → S ≤ smm r := fun r hr hq => by rw [← hS]; exact sm_le hb (n := n) P m left hp r hr hq
  have hwP : wst fp = P := by omega
  rw [h3, List.foldl_append, List.foldl_cons]
  have hbf := wup_before (P := P) (S := S) L1 (100, 0, []) (Or.inl (by show P < 100; omega)) (fun r hr => by
    have g1 := hge r (by rw [h3]; exact List.mem_append_left _ hr)
    have g2 := h4 r hr
    by_cases e : P = wst r
    · exact Or.inr ⟨e, by omega⟩
    · exact Or.inl (by omega))
  have e1 : wup (L1.foldl wup (100, 0, [])) fp = (P, S, fp) := by
    generalize L1.foldl wup (100, 0, []) = st at hbf ⊢
    unfold wup
    rw [if_pos (by omega), hwP, h2]
  rw [e1]
  exact wup_keep L2 (fun r hr => by
    have g0 : r ∈ cm b n m left := by rw [h3]; exact List.mem_append_right _ (List.mem_cons_of_mem _ hr)
    have g1 := hge r g0
    have g2 := hse r g0
    omega) fp
theorem bl_six {left n : Nat} (hl : left < 2 ^ n) : ∀ k, bl left (n + k) = bl left n
  | 0 => rfl
  | k + 1 => by
    show bl left (n + k + 1) = _
    have h : left.testBit (n + k) = false := Nat.testBit_lt_two_pow (Nat.lt_of_lt_of_le hl (Nat.pow_le_pow_right (by omega) (by omega)))
    rw [bl_succ, h, bl_six hl k]
    simp
theorem cm_six {b : Nat → Int} {n : Nat} (hn : n ≤ 6) : ∀ (m left : Nat), left < 2 ^ n → cm b n m left = cm b 6 m left
  | 0, _, _ => rfl
  | m + 1, left, hl => by
    have e : bl left 6 = bl left n := by have := bl_six hl (6 - n); rw [show n + (6 - n) = 6 by omega] at this; exact this
    show (bl left n).flatMap _ = (bl left 6).flatMap _
    rw [e]
    congr 1
    funext d
    rw [cm_six hn m (clr left d) (Nat.lt_of_le_of_lt (clr_le _ _) hl)]
theorem fpath_len {b : Nat → Int} {P : Int} {n : Nat} : ∀ (m left : Nat), (fpath b P n m left).length = m
  | 0, _ => rfl
  | m + 1, left => by show (fpath b P n m _).length + 1 = m + 1; rw [fpath_len]
