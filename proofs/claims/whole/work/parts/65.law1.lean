/-! THE CLAIM OUT OF ONE WALK OF THE LAW'S BODY. Your part is whole_start (and what it stands on); all else here is the same for every law, but numbers. -/
def R_law : String := "NearPlansLaw"
def lw_P (b : Addr) (xs : List Int32) (args : Array Value) (s : State) : Prop := args = #[.ref b] ∧ s.IntsAt b xs ∧ xs.length ≤ 2560 ∧ (Jvm.Cond.and given_1 narrow_1).before args s = true
def lw_Q (_ : Array Value) (s : State) (o : Outcome) (t : State) : Prop := o = .returned (some (.int 1)) ∧ Framed s o t [] 600000 7302249
def lw_Z (below : List Frame) (a : Array Value) (s : State) : State → Prop := fun t => ∃ o, t.status = .running ∧ Ended t below o ∧ lw_Q a s o t
/-- the law's own end, with 1 on the stack, nothing written that was there before, its room as the claim has it -/
theorem lw_ret {p : Program} {l : Launch} {e : Env} {s : State} {m : MethodId} {below : List Frame} {meth : Method} {c : Code} {b : Nat} (hx : p.tables.exec = Jvm.exec) (hb : c.code = code) (hr : meth.sig.returnType = ret) (hlocks : meth.locks = false) {pc : Nat} {H : Heap} {ls : Array Slot} (hdg : decode code pc = .ok (.ireturn, 1)) : W p l e room_1 s m #[Value.ref b] below meth c H [] 600000 7302249 (lw_Z below #[Value.ref b] s) (F0 m pc ls [.int 1]) := by
  intro T hT X
  obtain ⟨fs, hret, hrun, hended, hW, hframe⟩ := X.leave (v := some (.int 1)) (hlocks := hlocks) (fun h => by rw [hr] at h; cases h)
  have hmeth' : T.vm.method? m = some meth := X.method'
  refine ⟨T.setFrames fs, ?_, .returned (some (.int 1)), hrun, hended, rfl, ⟨_, rfl⟩, hW, hframe⟩
  jvm_step X.here [X.here.top, hx, hb, hdg, hmeth', hr, ret, narrow_b1]
  (try refine ⟨rfl, ?_⟩); (try refine ⟨rfl, ?_⟩)
  first | (intro acts; rw [hret _ acts rfl rfl rfl]) | rw [hret _ _ rfl rfl rfl]
  exact Steps.refl _
/-- what holds at the law's entry: the machine, the code, the tables' words (any of lw_tbl by 'hts w (by decide +kernel)'), the script of L ints xs at the cell b, what the Statement gives of the start (any of its parts by flat_of_before) -/
def lw_At (p : Program) (s : State) (m : MethodId) (meth : Method) (c : Code) (b L : Nat) (xs : Nat → Int32) : Prop :=
  p.tables.exec = Jvm.exec ∧ c.code = code ∧ meth.sig.returnType = ret ∧ c.maxLocals = 4 ∧ s.vm.findClass R_law = some m.cls ∧ (∀ w ∈ lw_tbl, w.before #[Value.ref b] s = true) ∧ va_X b L xs s s.heap ∧ b < s.heap.size ∧ meth.locks = false ∧ (Jvm.Cond.and given_1 narrow_1).before #[Value.ref b] s = true
/-! the law: its steps over the two objects -/
abbrev aL (s : State) : Nat → Prop := fun q => s.heap.size ≤ q
def LFx (Γ : Wd) (p : Program) (s : State) (m : MethodId) (meth : Method) (c : Code) (b L : Nat) (xs : Nat → Int32) : Prop :=
  p.tables.exec = Jvm.exec ∧ c.code = cL_law ∧ meth.sig.returnType = ret ∧ c.maxLocals = 4 ∧ s.vm.findClass "NearPlansLaw" = some m.cls ∧ (∀ w ∈ ALL, w.before #[Value.ref b] s = true) ∧ va_X b L xs s s.heap ∧ b < s.heap.size ∧ meth.locks = false ∧ KK Γ s ∧ (∀ σ, va_D (aL s) (wl Γ σ))
abbrev lvL (Γ : Wd) (b i : Nat) : List (Nat × Value) := [(3, vI (i : Int)), (2, .ref (Γ.1 64)), (1, .ref (Γ.1 0)), (0, .ref b)]
def LV (L : Nat) (xs : Nat → Int32) (i pc : Nat) (st : List AV) (σ : Mem) : Prop :=
  okL st → okM σ → ∀ (Γ : Wd) (p : Program) (l : Launch) (e : Env) (s : State) (m : MethodId) (below : List Frame) (meth : Method) (c : Code) (b : Nat), LFx Γ p s m meth c b L xs → ∀ (H : Heap) (locs : List Loc) (ls : Array Slot), va_P Γ.2.1 vwCl (wl Γ σ) H → va_S (aL s) s.heap H locs → lv_has ls 4 (lvL Γ b i) →
    W p l e room_1 s m #[Value.ref b] below meth c H locs 91 9068 (lw_Z below #[Value.ref b] s) (F0 m pc ls (st.map (av Γ)))
theorem l_x {L : Nat} {xs : Nat → Int32} {i pc : Nat} {st : List AV} {σ : Mem} (hdg : decode cL_law pc = .ok (.aload_n 1, 1)) (k : LV L xs i (pc + 1) (.inr (some 0) :: st) σ) : LV L xs i pc st σ := by
  intro os om Γ p l e s m below meth c b fx H locs ls hP hS hl
  have fx0 := fx
  obtain ⟨hx, hb, hr, hml, hown, hts, hX, hbl, hlk, hK, hD⟩ := fx0
  exact lv_aload_n hx hb hdg rfl (lv_at hl 2 rfl) (k (okL_r os) om Γ p l e s m below meth c b fx H locs ls hP hS hl)
theorem l_m {L : Nat} {xs : Nat → Int32} {i pc : Nat} {st : List AV} {σ : Mem} (hdg : decode cL_law pc = .ok (.aload_n 2, 1)) (k : LV L xs i (pc + 1) (.inr (some 64) :: st) σ) : LV L xs i pc st σ := by
  intro os om Γ p l e s m below meth c b fx H locs ls hP hS hl
  have fx0 := fx
  obtain ⟨hx, hb, hr, hml, hown, hts, hX, hbl, hlk, hK, hD⟩ := fx0
  exact lv_aload_n hx hb hdg rfl (lv_at hl 1 rfl) (k (okL_r os) om Γ p l e s m below meth c b fx H locs ls hP hS hl)
theorem l_arg {L : Nat} {xs : Nat → Int32} {i pc : Nat} {st : List AV} {σ : Mem} {n : Int} (k : Nat) (d0 : decode cL_law pc = .ok (.aload_n 0, 1)) (d1 : decode cL_law (pc + 1) = .ok (.iload_n 3, 1)) (d2 : decode cL_law (pc + 1 + 1) = .ok (.iconst n, 1)) (d3 : decode cL_law (pc + 1 + 1 + 1) = .ok (.iadd, 1)) (d4 : decode cL_law (pc + 1 + 1 + 1 + 1) = .ok (.iaload, 1)) (hn : n = (k : Int)) (hi : i + k < L) (hL : L ≤ 2560) (kk : LV L xs i (pc + 1 + 1 + 1 + 1 + 1) (.inl (xs (i + k)).toInt :: st) σ) : LV L xs i pc st σ := by
  intro os om Γ p l e s m below meth c b fx H locs ls hP hS hl
  have fx0 := fx
  obtain ⟨hx, hb, hr, hml, hown, hts, hX, hbl, hlk, hK, hD⟩ := fx0
  have e1 : Int32.ofInt (i : Int) + Int32.ofInt n = Int32.ofInt ((i + k : Nat) : Int) := by rw [← Int32.ofInt_add, hn]; rfl
  refine lv_aload_n hx hb d0 rfl (lv_at hl 3 rfl) ?_
  refine lv_iload_n hx hb d1 rfl (lv_at hl 0 rfl) ?_
  refine lv_iconst hx hb d2 rfl ?_
  refine lv_iadd hx hb d3 ?_
  rw [e1]
  refine va_sld (A := aL s) hx hb hX hbl (Nat.not_le.mpr hbl) hS (r_in (by omega) (by omega) ⟨by omega, by omega⟩) d4 ?_
  rw [r_cl ⟨by omega, by omega⟩, Int.toNat_natCast]
  have e2 : Value.int (xs (i + k)) = av Γ (.inl (xs (i + k)).toInt) := by
    show _ = Value.int (Int32.ofInt _)
    rw [Int32.ofInt_toInt]
  rw [e2]
  exact kk (okL_i (r_of _) os) om Γ p l e s m below meth c b fx H locs ls hP hS hl
theorem l_call {L : Nat} {xs : Nat → Int32} {i pc : Nat} {st : List AV} {σ : Mem} {stk : List AV} (M' : MD) (as : List AV) {cR ci idx : Nat} {n : Nat} {fl : List (Option Nat)} {T : u_T} {N : Nat} {K : Int → Mem → Prop} (hstk : stk = as.reverse ++ .inr (some cR) :: st) (hdg : decode cL_law pc = .ok (.invokevirtual idx, 3)) (hc : CV "NearPlansLaw" idx M' n) (hn : as.length = n) (hs : shapes[cR]? = some (3, ci, fl)) (hcl : vwCl[ci]? = some (M'.1.cls, T, N)) (hst : st.length ≤ 8)
    (hrun : Run M' 100 (.inr (some cR) :: as) σ (RI K)) (kk : ∀ r σ', K r σ' → LV L xs i (pc + 3) (.inl r :: st) σ') : LV L xs i pc stk σ := by
  intro os om Γ p l e s m below meth c b fx H locs ls hP hS hl
  have fx0 := fx
  obtain ⟨hx, hb, hr, hml, hown, hts, hX, hbl, hlk, hK, hD⟩ := fx0
  subst hstk
  obtain ⟨⟨c1, c2, c3, c4, c5⟩, c6, c7⟩ := hc
  have okas : okL (.inr (some cR) :: as) := fun z hz => by
    rcases List.mem_cons.mp hz with h | h
    · cases h
    · exact os z (List.mem_append_left _ (List.mem_reverse.mpr h))
  have okst : okL st := fun z hz => os z (List.mem_append_right _ (List.mem_cons_of_mem _ hz))
  have hM := hrun okas om l Γ H.size
  have hGI : GoodIn ALL (wsV "NearPlansLaw" idx M'.1.cls M'.1 (wsM M')) := good_sub (fun w hw => by
    rcases List.mem_append.mp hw with h | h
    · simp only [List.mem_cons, List.not_mem_nil, or_false] at h
      rcases h with rfl | rfl | rfl | rfl
      · exact c1
      · exact c2
      · exact c3
      · exact c4
    · exact ws_in c5 w h)
  have hrun2 := va_runV (g := F0 m pc ls ((as.reverse ++ .inr (some cR) :: st).map (av Γ))) (b := Γ.1 cR) (As := as.map (av Γ)) (rest := st.map (av Γ)) (e := e) (below := below) (meth := meth) (locs := locs) (cells := 91) (slots := 9068) (R := room_1) ⟨hx, hb, hml, hown, hts⟩ hM (cwV n hts hGI rfl rfl rfl ⟨rfl, c6⟩ ⟨Nat.le_of_ble_eq_true rfl, by show 8 + (M'.2.2.1 + 11) + 64 * 100 ≤ 84000; omega⟩) ⟨Pcc_blind _ _ _ _, va_recv hK.1 hP hcl (wl_obj hs), Pcc_use hP hK (hD σ)⟩ rfl (by simpa using hn) hl.1 (by simp [av]) (lv_room (by rw [cat_sum]; exact hst)) hdg ⟨Nat.le_of_ble_eq_true rfl, Nat.le_of_ble_eq_true rfl⟩
  refine call_go hrun2 hS (free_in (hD σ) hS (fun q h => h)) (fun r σ' H1 locs1 hq ho hrr hP1 hS1 => ?_)
  obtain ⟨x, rfl, hq⟩ := hq
  exact kk x σ' hq (okL_i (hrr x rfl) okst) ho Γ p l e s m below meth c b fx H1 locs1 ls hP1 hS1 hl
theorem l_cmp {L : Nat} {xs : Nat → Int32} {i pc : Nat} {σ : Mem} {a off : Int} (hdg : decode cL_law pc = .ok (.if_icmp .eq off, 3)) (ht : (pc : Int) + off = ((823 : Nat) : Int)) (k : LV L xs i 823 [] σ) : LV L xs i pc [.inl a, .inl a] σ := by
  intro os om Γ p l e s m below meth c b fx H locs ls hP hS hl
  have fx0 := fx
  obtain ⟨hx, hb, hr, hml, hown, hts, hX, hbl, hlk, hK, hD⟩ := fx0
  exact lv_icmp_eq (tgt := 823) hx hb hdg ht (fun _ => k (okL_t (okL_t os)) om Γ p l e s m below meth c b fx H locs ls hP hS hl) (fun h => absurd rfl h)
theorem l_next {L : Nat} {xs : Nat → Int32} {i : Nat} {σ : Mem} (k : LV L xs (i + 5) 18 [] σ) : LV L xs i 823 [] σ := by
  intro os om Γ p l e s m below meth c b fx H locs ls hP hS hl
  have fx0 := fx
  obtain ⟨hx, hb, hr, hml, hown, hts, hX, hbl, hlk, hK, hD⟩ := fx0
  refine lv_iinc (k := 0) (v := Int32.ofInt ((i + 5 : Nat) : Int)) hx hb dL_law_823 hl rfl (by rw [← Int32.ofInt_add]; rfl) (by decide) rfl (fun ls1 hl1 => ?_)
  refine lv_goto (tgt := 18) hx hb dL_law_826 (by decide) ?_
  exact k os om Γ p l e s m below meth c b fx H locs ls1 hP hS hl1
theorem l_end {L : Nat} {xs : Nat → Int32} {i : Nat} {σ : Mem} : LV L xs i 829 [] σ := by
  intro os om Γ p l e s m below meth c b fx H locs ls hP hS hl
  have fx0 := fx
  obtain ⟨hx, hb, hr, hml, hown, hts, hX, hbl, hlk, hK, hD⟩ := fx0
  refine lv_iconst hx hb dL_law_829 rfl ?_
  exact va_forget (fun q hq => hS.2.2 q hq) (W.widen (Nat.le_of_ble_eq_true rfl) (Nat.le_of_ble_eq_true rfl) (lw_ret hx hb hr hlk dL_law_830))
theorem of_nat {L : Nat} (h : L ≤ 2560) : Int32.ofNat L = Int32.ofInt (L : Int) := by
  rw [← Int32.toInt_inj, r_to ⟨by omega, by omega⟩, Int32.toInt_ofNat_of_lt (by omega)]
theorem l_head {L : Nat} {xs : Nat → Int32} {i : Nat} {σ : Mem} (hL : L ≤ 2560) (hi : i ≤ L + 4) (k1 : L < i + 5 → LV L xs i 829 [] σ) (k2 : i + 5 ≤ L → LV L xs i 26 [] σ) : LV L xs i 18 [] σ := by
  intro os om Γ p l e s m below meth c b fx H locs ls hP hS hl
  have fx0 := fx
  obtain ⟨hx, hb, hr, hml, hown, hts, hX, hbl, hlk, hK, hD⟩ := fx0
  refine lv_iload_n hx hb dL_law_18 rfl (lv_at hl 0 rfl) ?_
  refine lv_aload_n hx hb dL_law_19 rfl (lv_at hl 3 rfl) ?_
  refine va_slen (A := aL s) hx hb hX hbl (Nat.not_le.mpr hbl) hS dL_law_20 ?_
  refine lv_iconst hx hb dL_law_21 rfl ?_
  refine lv_isub hx hb dL_law_22 ?_
  rw [of_nat hL, ← Int32.ofInt_sub]
  refine lv_icmp_gt (tgt := 829) hx hb dL_law_23 (by decide) (fun h => ?_) (fun h => ?_)
  · have h1 := (r_lt (a := (L : Int) - 5) (b := (i : Int)) ⟨by omega, by omega⟩ ⟨by omega, by omega⟩).mp h
    exact k1 (by omega) os om Γ p l e s m below meth c b fx H locs ls hP hS hl
  · have h1 : ¬ ((L : Int) - 5 < (i : Int)) := fun z => h ((r_lt (a := (L : Int) - 5) (b := (i : Int)) ⟨by omega, by omega⟩ ⟨by omega, by omega⟩).mpr z)
    exact k2 (by omega) os om Γ p l e s m below meth c b fx H locs ls hP hS hl
theorem and31 (x : Int32) : 0 ≤ (x &&& Int32.ofInt 31).toInt ∧ (x &&& Int32.ofInt 31).toInt ≤ 31 := by
  have h : (x &&& Int32.ofInt 31).toBitVec.toNat ≤ 31 := by
    rw [Int32.toBitVec_and, BitVec.toNat_and]
    exact Nat.and_le_right
  have e : (x &&& Int32.ofInt 31).toInt = ((x &&& Int32.ofInt 31).toBitVec.toNat : Int) := BitVec.toInt_eq_toNat_of_lt (by omega)
  omega
theorem l_op {L : Nat} {xs : Nat → Int32} {i : Nat} {σ : Mem} (hL : L ≤ 2560) (hi : i < L) (k : ∀ w : Int, 0 ≤ w → w ≤ 31 → LV L xs i 32 [.inl w] σ) : LV L xs i 26 [] σ := by
  intro os om Γ p l e s m below meth c b fx H locs ls hP hS hl
  have fx0 := fx
  obtain ⟨hx, hb, hr, hml, hown, hts, hX, hbl, hlk, hK, hD⟩ := fx0
  refine lv_aload_n hx hb dL_law_26 rfl (lv_at hl 3 rfl) ?_
  refine lv_iload_n hx hb dL_law_27 rfl (lv_at hl 0 rfl) ?_
  refine va_sld (A := aL s) hx hb hX hbl (Nat.not_le.mpr hbl) hS (r_in (by omega) (by omega) ⟨by omega, by omega⟩) dL_law_28 ?_
  refine lv_bipush hx hb dL_law_29 (show _ = Int32.ofInt 31 by decide +kernel) ?_
  refine lv_iand hx hb dL_law_31 ?_
  generalize xs (Int32.ofInt (i : Int)).toNatClampNeg = y
  have h := and31 y
  have e2 : Value.int (y &&& Int32.ofInt 31) = av Γ (.inl (y &&& Int32.ofInt 31).toInt) := by
    show _ = Value.int (Int32.ofInt _)
    rw [Int32.ofInt_toInt]
  rw [e2]
  exact k _ h.1 h.2 (okL_i (r_of _) os) om Γ p l e s m below meth c b fx H locs ls hP hS hl
theorem l_tabIn {L : Nat} {xs : Nat → Int32} {i : Nat} {σ : Mem} {a off : Int} (tgt : Nat) (h1 : ¬ a < 0) (h2 : ¬ 24 < a) (ho : (#[116, 159, 202, 245, 278, 311, 334, 367, 420, 443, 476, 499, 512, 535, 568, 581, 594, 617, 640, 653, 676, 699, 722, 745, 768] : Array Int)[(a - 0).toNat]? = some off) (ht : ((32 : Nat) : Int) + off = (tgt : Int)) (k : LV L xs i tgt [] σ) : LV L xs i 32 [.inl a] σ := by
  intro os om Γ p l e s m below meth c b fx H locs ls hP hS hl
  have fx0 := fx
  obtain ⟨hx, hb, hr, hml, hown, hts, hX, hbl, hlk, hK, hD⟩ := fx0
  have ee := r_to (okL_h os)
  exact lv_tableIn hx hb dL_law_32 (by rw [ee]; exact h1) (by rw [ee]; exact h2) (by rw [ee]; exact ho) ht (k (okL_t os) om Γ p l e s m below meth c b fx H locs ls hP hS hl)
theorem l_tabOut {L : Nat} {xs : Nat → Int32} {i : Nat} {σ : Mem} {a : Int} (h : 24 < a) (k : LV L xs i 823 [] σ) : LV L xs i 32 [.inl a] σ := by
  intro os om Γ p l e s m below meth c b fx H locs ls hP hS hl
  have fx0 := fx
  obtain ⟨hx, hb, hr, hml, hown, hts, hX, hbl, hlk, hK, hD⟩ := fx0
  have ee := r_to (okL_h os)
  exact lv_tableOut (tgt := 823) hx hb dL_law_32 (by rw [ee]; exact Or.inr h) (by decide) (k (okL_t os) om Γ p l e s m below meth c b fx H locs ls hP hS hl)
