theorem law_init {G : Gd} {p : Program} {l : Launch} {e : Env} {s : State} {m : MethodId} {below : List Frame} {meth : Method} {c : Code} {b : Nat} {Q : State → Prop} {A : Nat → Prop} {pc cells slots : Nat} {ls : Array Slot} {st : List Value} {H : Heap} {locs : List Loc} (M' : MD) {i q ci : Nat} (d' mc' ms' : Nat) {fs : List Value} {wr : va_W} {B' : va_W → Prop} (hx : p.tables.exec = Jvm.exec) (hb : c.code = cL_law) (hml : c.maxLocals = 4) (hown : s.vm.findClass "NearPlansLaw" = some m.cls) (hts : ∀ w ∈ ALL, w.before #[Value.ref b] s = true) (hKC : KC G s) (hA : ∀ q, s.heap.size ≤ q → A q) (hP : va_P G.1 vwCl (wr ++ [(q, .inr (ci, fs))]) H) (hD : va_D A (wr ++ [(q, .inr (ci, fs))])) (hS : va_S A s.heap H locs) (hz : ls.size = 4) (hdg : decode cL_law pc = .ok (.invokespecial i, 3)) (hlink : Cond.methodLink "NearPlansLaw" i M'.1 ∈ ALL) (hret : M'.2.2.2 = none) (hinst : Cond.instanceMethod M'.1 ∈ ALL) (hini : Cond.initialized M'.1.cls ∈ ALL) (hcode : Cond.code M'.1 M'.2.1 M'.2.2.1 M'.2.2.2 ∈ ALL) (hname : M'.1.name = "<init>") (hd : M'.1.cls ≠ "java/lang/invoke/MethodHandle" ∧ M'.1.cls ≠ "java/lang/invoke/VarHandle" ∧ (parseMethodDescriptor M'.1.desc).map (fun d => d.parameters.length) = some 0) (hfr : d' + 1 ≤ room_1.frames) (hlo : 8 + (M'.2.2.1 + 11) + 64 * d' ≤ room_1.locals) (hst : (st.map (fun v => v.category)).sum ≤ 8) (hce : cells + mc' ≤ room_1.cells) (hsl : slots + ms' ≤ room_1.slots) (hrun : CRun G M' d' mc' ms' [] ci fs q B')
    (kk : ∀ (w1 : va_W) (H1 : Heap) (locs1 : List Loc), B' w1 → va_P G.1 vwCl (wr ++ w1) H1 → va_D A (wr ++ w1) → va_S A s.heap H1 locs1 → W p l e room_1 s m #[Value.ref b] below meth c H1 locs1 (cells + mc') (slots + ms') Q (F0 m (pc + 3) ls st)) : W p l e room_1 s m #[Value.ref b] below meth c H locs cells slots Q (F0 m pc ls (.ref q :: st)) := by
  have hGI : GoodIn ALL (wsM M') := good_sub (fun w hw => ws_in hcode w hw)
  obtain ⟨M1, M2, M3, M4⟩ := M'
  have hret : M4 = none := hret
  subst hret
  have hM := hrun l H.size
  have hPD := last_PD hP hD
  have hFc := free_last hD hS hA
  refine va_callv (va_runI (g := F0 m pc ls (.ref q :: st)) (b := q) (As := []) (rest := st) (e := e) (below := below) (meth := meth) (locs := locs) (cells := cells) (slots := slots) (R := room_1) ⟨hx, hb, hml, hown, hts⟩ hM (cwI 0 hts hGI rfl rfl rfl (hts _ hini) (hts _ hlink) (hts _ hinst) hname hd ⟨hfr, hlo⟩) ⟨Pk_blind _ _ _ _ _ _, fun U hU hW => ⟨rfl, by rw [hU], by rw [hU]; exact hPD.1, hKC.warm hW, hPD.2⟩⟩ rfl rfl hz rfl (lv_room hst) hdg ⟨hce, hsl⟩) hS (fun q _ h => hFc q h) hFc (fun w1 t H1 locs1 ht hvm hw hB hz1 hk1 hS1 => ?_)
  obtain ⟨hP1, hD1⟩ := hB
  rw [ht] at hP1
  obtain ⟨hP2, hD2⟩ := join_last hP hD hk1 hFc hP1 hD1
  exact kk w1 H1 locs1 hw hP2 hD2 hS1
theorem vaD_nil (A : Nat → Prop) : va_D A [] := ⟨fun i j p q h => (by cases h), fun k q h => (by cases h)⟩
set_option maxRecDepth 100000 in
set_option maxHeartbeats 4000000 in
theorem whole_start {p : Program} {e : Env} {s : State} {m : MethodId} {below : List Frame} {meth : Method} {c : Code} (l : Launch) {b L : Nat} {xs : Nat → Int32} (hL : L ≤ 2560) (C0 : lw_At p s m meth c b L xs) : W p l e room_1 s m #[Value.ref b] below meth c s.heap [] 0 0 (lw_Z below #[Value.ref b] s) (entryFrame m ([Value.ref b] : List Value).toArray 4) := by
  obtain ⟨hx, hb, hr, hml, hown, hts, hX, hbl, hlk, -⟩ := C0
  have hb : c.code = cL_law := hb
  have hown : s.vm.findClass "NearPlansLaw" = some m.cls := hown
  obtain ⟨G, hKC⟩ := kc_start hts
  have htsA := all_hts hts
  have hA : ∀ q, s.heap.size ≤ q → aL s q := fun q h => h
  rw [lg_entry_eq]
  have hl := lv_entry [Value.ref b] (n := 4) (Nat.le_of_ble_eq_true rfl)
  generalize (lg_sl [Value.ref b] ++ List.replicate (4 - (lg_sl [Value.ref b]).length) Slot.unset).toArray = ls at hl ⊢
  have hl : lv_has ls 4 [(0, .ref b)] := hl
  refine va_new (c0 := c) (ci := 10) (fs := [.null, .null, .null, .null, .null, .null, .null, .null, .null, .null, .null, vI 0]) hx hb htsA inlX11 tyX11 tyX11_ok hown (htsA _ (all_in 47 (by decide +kernel) (by decide +kernel))) (htsA _ (all_in 48 (by decide +kernel) (by decide +kernel))) (htsA _ wn_X11) hKC.1.1 (vaP_nil _ _ _) (vaD_nil _) va_S.rf hA rfl (fun j hj => match j, hj with | 0, _ => rfl | 1, _ => rfl | 2, _ => rfl | 3, _ => rfl | 4, _ => rfl | 5, _ => rfl | 6, _ => rfl | 7, _ => rfl | 8, _ => rfl | 9, _ => rfl | 10, _ => rfl | 11, _ => rfl | j + 12, h => absurd h (by omega)) (Nat.le_of_ble_eq_true rfl) (Nat.le_of_ble_eq_true rfl) dL_law_0 (fun q1 H1 hP1 hD1 hS1 => ?_)
  refine lv_dup hx hb dL_law_3 rfl ?_
  refine law_init (q := q1) (ci := 10) (wr := []) mX11_init 4 63 4655 hx hb hml hown htsA hKC hA hP1 hD1 hS1 hl.1 dL_law_4 (all_in 49 (by decide +kernel) (by decide +kernel)) rfl (all_in 50 (by decide +kernel) (by decide +kernel)) wn_X11 wc_X11_init rfl (by decide +kernel) (Nat.le_of_ble_eq_true rfl) (Nat.le_of_ble_eq_true rfl) (Nat.le_of_ble_eq_true rfl) (Nat.le_of_ble_eq_true rfl) (Nat.le_of_ble_eq_true rfl) X11_init (fun w1 H2 locs2 hw1 hP2 hD2 hS2 => ?_)
  obtain ⟨a1, ha1, rfl⟩ := hw1
  have hP2 : va_P G.1 vwCl (wlC G a1) H2 := hP2
  have hD2 : va_D (aL s) (wlC G a1) := hD2
  refine lv_astore_n hx hb dL_law_7 rfl hl (by decide) rfl (fun ls1 hl1 => ?_)
  have hl1 : lv_has ls1 4 [(1, .ref q1), (0, .ref b)] := hl1
  refine va_new (c0 := c) (ci := 11) (fs := [vI 0, .null, .null, .null, .null, .null, .null, .null, .null, .null, vI 0, .null, vI 0, .null, .null, .null, .null, vI 0, vI 0, .null, .null, vI 0, vI 0, .null, .null, .null, .null, .null, .null, .null, .null, .null, vI 0, vI 0, .null]) hx hb htsA inlX12 tyX12 tyX12_ok hown (htsA _ (all_in 749 (by decide +kernel) (by decide +kernel))) (htsA _ (all_in 750 (by decide +kernel) (by decide +kernel))) (htsA _ wn_X12) hKC.1.1 hP2 hD2 hS2 hA rfl (fun j hj => match j, hj with | 0, _ => rfl | 1, _ => rfl | 2, _ => rfl | 3, _ => rfl | 4, _ => rfl | 5, _ => rfl | 6, _ => rfl | 7, _ => rfl | 8, _ => rfl | 9, _ => rfl | 10, _ => rfl | 11, _ => rfl | 12, _ => rfl | 13, _ => rfl | 14, _ => rfl | 15, _ => rfl | 16, _ => rfl | 17, _ => rfl | 18, _ => rfl | 19, _ => rfl | 20, _ => rfl | 21, _ => rfl | 22, _ => rfl | 23, _ => rfl | 24, _ => rfl | 25, _ => rfl | 26, _ => rfl | 27, _ => rfl | 28, _ => rfl | 29, _ => rfl | 30, _ => rfl | 31, _ => rfl | 32, _ => rfl | 33, _ => rfl | 34, _ => rfl | j + 35, h => absurd h (by omega)) (Nat.le_of_ble_eq_true rfl) (Nat.le_of_ble_eq_true rfl) dL_law_8 (fun q2 H3 hP3 hD3 hS3 => ?_)
  refine lv_dup hx hb dL_law_11 rfl ?_
  refine law_init (q := q2) (ci := 11) (wr := wlC G a1) mX12_init 2 26 4366 hx hb hml hown htsA hKC hA hP3 hD3 hS3 hl1.1 dL_law_12 (all_in 751 (by decide +kernel) (by decide +kernel)) rfl (all_in 752 (by decide +kernel) (by decide +kernel)) wn_X12 wc_X12_init rfl (by decide +kernel) (Nat.le_of_ble_eq_true rfl) (Nat.le_of_ble_eq_true rfl) (Nat.le_of_ble_eq_true rfl) (Nat.le_of_ble_eq_true rfl) (Nat.le_of_ble_eq_true rfl) X12_init (fun w2 H4 locs4 hw2 hP4 hD4 hS4 => ?_)
  obtain ⟨a2, ha2, rfl⟩ := hw2
  refine lv_astore_n hx hb dL_law_15 rfl hl1 (by decide) rfl (fun ls2 hl2 => ?_)
  have hl2 : lv_has ls2 4 [(2, .ref q2), (1, .ref q1), (0, .ref b)] := hl2
  refine lv_iconst hx hb dL_law_16 rfl ?_
  refine lv_istore_n hx hb dL_law_17 rfl hl2 (by decide) rfl (fun ls3 hl3 => ?_)
  have hl3 : lv_has ls3 4 [(3, vI 0), (2, .ref q2), (1, .ref q1), (0, .ref b)] := hl3
  rw [← wl_join] at hP4 hD4
  subst ha1
  subst ha2
  exact law_go hL (L + 6) 0 (by omega) (by omega) σ0 inv0 (fun z hz => by cases hz) ok0 (adrJ a1 a2, G) p l e s m below meth c b ⟨hx, hb, hr, hml, hown, htsA, hX, hbl, hlk, ⟨hKC.1.1, hKC.1.2⟩, fun σ => wl_D hD4 σ⟩ H4 locs4 ls3 hP4 hS4 hl3
