theorem vr_outer (c : ClassId) (N h0 : Nat) : ∀ i : Nat, Jvm.Free.Multi.outerC c N h0 i = arrV c N (fun j => va_rf (if j < i then some (h0 + 1 + j) else none))
  | 0 => by
    show ({ cls := c, slots := Array.replicate N .null, vm := .none } : Cell) = _
    rw [arrV_new]
    refine congrArg (arrV c N) (funext fun j => ?_)
    simp [va_rf]
  | i + 1 => by
    show (Jvm.Free.Multi.outerC c N h0 i).setSlot i (.ref (h0 + 1 + i)) = _
    rw [vr_outer c N h0 i, arrV_store]
    refine congrArg (arrV c N) (funext fun j => ?_)
    by_cases e : j = i
    · subst e
      simp [updV, va_rf]
    · by_cases h : j < i
      · simp [updV, e, h, Nat.lt_succ_of_lt h]
      · simp [updV, e, h, show ¬ j < i + 1 by omega]
/-! while objects are made: the world grows -/
abbrev Gd : Type := va_G × ClassId × ClassId × ClassId
abbrev gW (G : Gd) : Wd := (fun _ => 0, G)
def nestQ : List (String × Nat × MethodName × String) := [("NearPlans", 18, ⟨"NearPlans$Rules", "<init>", "()V"⟩, "NearPlans"), ("NearPlans", 25, ⟨"NearPlans$Kept", "<init>", "()V"⟩, "NearPlans"), ("NearPlans", 32, ⟨"NearPlans$Past", "<init>", "()V"⟩, "NearPlans"), ("NearPlans", 57, ⟨"NearPlans$Best", "<init>", "()V"⟩, "NearPlans"), ("NearPlans$Best", 3, ⟨"NearPlans$Goal", "<init>", "()V"⟩, "NearPlans"), ("NearPlans", 64, ⟨"NearPlans$Count", "<init>", "()V"⟩, "NearPlans"), ("NearPlans$Count", 1, ⟨"NearPlans$Goal", "<init>", "()V"⟩, "NearPlans"), ("NearPlans", 71, ⟨"NearPlans$Clash", "<init>", "()V"⟩, "NearPlans"), ("NearPlans$Clash", 3, ⟨"NearPlans$Goal", "<init>", "()V"⟩, "NearPlans")]
def KC (G : Gd) (U : State) : Prop := KK (gW G) U ∧ (∀ q ∈ nestQ, va_Nw (.methodLinkNest q.1 q.2.1 q.2.2.1 q.2.2.2) U) ∧ (Cond.arrayOver (.array .int)).before #[] U = true
theorem KC.warm {G : Gd} {s U : State} (h : KC G s) (hW : s.WarmedH U.vm) : KC G U := ⟨h.1.warm hW, fun q hq => va_Nw.warmM hW (h.2.1 q hq), arrayOver_alikeB hW.alike h.2.2⟩
theorem KC.same {G : Gd} {u U : State} (e : u.vm = U.vm) (h : KC G u) : KC G U := by
  have ha : u.vm.Alike U.vm := by rw [← e]; exact Vm.Alike.refl _
  exact ⟨⟨va_K.moved ha h.1.1, va_Nw.same rfl e h.1.2.1, va_Nw.same rfl e h.1.2.2⟩, fun q hq => va_Nw.same rfl e (h.2.1 q hq), arrayOver_alikeB ha h.2.2⟩
abbrev rmC (d mc ms : Nat) : Room := { frames := d, cells := mc, slots := ms, locals := 64 * d }
abbrev QvC (G : Gd) (A : Nat → Prop) (B : va_W → Prop) : Array Value → State → Outcome → State → Prop := va_Qv B (fun (w : va_W) t => va_P G.1 vwCl w t.heap ∧ va_D A w) A
def CRun (G : Gd) (M : MD) (d mc ms : Nat) (vs : List Value) (ci : Nat) (fs : List Value) (h0 : Nat) (B : va_W → Prop) : Prop :=
  ∀ (l : Launch) (sz : Nat), Met l M.1 (wsM M) (rmC d mc ms) (va_Pc (.ref h0 :: vs) (fun U => U.heap.size = sz ∧ va_P G.1 vwCl [(h0, .inr (ci, fs))] U.heap ∧ KC G U ∧ va_D (fun _ => True) [(h0, .inr (ci, fs))])) (QvC G (va_A [(h0, .inr (ci, fs))] sz) B) mc ms (va_A [(h0, .inr (ci, fs))] sz)
def CFx (G : Gd) (M : MD) (A : Nat → Prop) (p : Program) (s : State) (m : MethodId) (args : Array Value) (meth : Method) (c : Code) : Prop :=
  p.tables.exec = Jvm.exec ∧ c.code = M.2.1 ∧ c.maxLocals = M.2.2.1 ∧ meth.sig.returnType = M.2.2.2 ∧ s.vm.findClass M.1.cls = some m.cls ∧ (∀ w ∈ ALL, w.before args s = true) ∧ meth.locks = false ∧ KC G s ∧ (∀ q, s.heap.size ≤ q → A q) ∧ meth.name = "<init>"
def CU (G : Gd) (M : MD) (R : Room) (mc ms : Nat) (B : va_W → Prop) (cells slots pc : Nat) (lv : List (Nat × Value)) (st : List Value) (w : va_W) : Prop :=
  ∀ (A : Nat → Prop) (p : Program) (l : Launch) (e : Env) (s : State) (m : MethodId) (args : Array Value) (below : List Frame) (meth : Method) (c : Code), CFx G M A p s m args meth c → ∀ (H : Heap) (locs : List Loc) (ls : Array Slot), va_P G.1 vwCl w H → va_D A w → va_S A s.heap H locs → lv_has ls M.2.2.1 lv →
    W p l e R s m args below meth c H locs cells slots (MQ below (QvC G A B) args s mc ms A) (F0 m pc ls st)
theorem CRun_of {G : Gd} {M : MD} {d mc ms : Nat} {vs : List Value} {ci : Nat} {fs : List Value} {h0 : Nat} {B : va_W → Prop} (lv : List (Nat × Value)) (hy : plainName M.1.cls = true) (hi : M.1.name = "<init>") (hl : (lg_sl (.ref h0 :: vs)).length ≤ M.2.2.1) (hv : lv_args 0 (.ref h0 :: vs) = lv) (h : CU G M (rmC d mc ms) mc ms B 0 0 0 lv [] [(h0, .inr (ci, fs))]) : CRun G M d mc ms vs ci fs h0 B := by
  intro l sz
  refine Met.ofW (cc := M.2.1) (maxL := M.2.2.1) (ret := M.2.2.2) hy rfl ?_
  intro p e s m args below meth c s₁ B0 hml hpc
  obtain ⟨rfl, hsz, hP, hK, hD0⟩ := hpc
  have hts := atoms_spec (ws := wsM M) B0.pre
  subst hsz
  have hD := hD0.self (sz := s.heap.size)
  rw [lg_entry_eq]
  have hen := lv_entry (.ref h0 :: vs) (n := M.2.2.1) hl
  rw [hv] at hen
  exact h _ p l e s m _ below meth c ⟨B0.exec, B0.bytes, hml, B0.returns, findClass_of_methodNamed B0.named, fun w hw => hts w (List.mem_cons_of_mem _ hw), B0.notSynchronized, hK, fun q h => Or.inr h, (name_of_methodNamed B0.named B0.method).1.trans hi⟩ s.heap [] _ hP hD va_S.rf hen
theorem u_aload {G : Gd} {M : MD} {R : Room} {mc ms : Nat} {B : va_W → Prop} {cells slots pc : Nat} {lv : List (Nat × Value)} {st : List Value} {w : va_W} {k : Nat} {i : Fin 4} {v : Nat} (hdg : decode M.2.1 pc = .ok (.aload_n i, 1)) (hv : lv[k]? = some (i.val, .ref v)) (kk : CU G M R mc ms B (cells) (slots) (pc + 1) (lv) (.ref v :: st) (w)) : CU G M R mc ms B cells slots pc lv (st) w := by
  intro A p l e s m args below meth c fx H locs ls hP hD hS hl
  have fx0 := fx
  obtain ⟨hx, hb, hml, hr, hown, hts, hlk, hK, hA, hin⟩ := fx0
  exact lv_aload_n hx hb hdg rfl (lv_at hl k hv) (kk A p l e s m args below meth c fx H locs ls hP hD hS hl)

theorem u_aload4 {G : Gd} {M : MD} {R : Room} {mc ms : Nat} {B : va_W → Prop} {cells slots pc : Nat} {lv : List (Nat × Value)} {st : List Value} {w : va_W} {k : Nat} {i : Nat} {v : Nat} (hdg : decode M.2.1 pc = .ok (.aload i, 2)) (hv : lv[k]? = some (i, .ref v)) (kk : CU G M R mc ms B (cells) (slots) (pc + 2) (lv) (.ref v :: st) (w)) : CU G M R mc ms B cells slots pc lv (st) w := by
  intro A p l e s m args below meth c fx H locs ls hP hD hS hl
  have fx0 := fx
  obtain ⟨hx, hb, hml, hr, hown, hts, hlk, hK, hA, hin⟩ := fx0
  exact lv_aload hx hb hdg (lv_at hl k hv) (kk A p l e s m args below meth c fx H locs ls hP hD hS hl)

theorem u_iload {G : Gd} {M : MD} {R : Room} {mc ms : Nat} {B : va_W → Prop} {cells slots pc : Nat} {lv : List (Nat × Value)} {st : List Value} {w : va_W} {k : Nat} {i : Fin 4} {x : Int32} (hdg : decode M.2.1 pc = .ok (.iload_n i, 1)) (hv : lv[k]? = some (i.val, .int x)) (kk : CU G M R mc ms B (cells) (slots) (pc + 1) (lv) (.int x :: st) (w)) : CU G M R mc ms B cells slots pc lv (st) w := by
  intro A p l e s m args below meth c fx H locs ls hP hD hS hl
  have fx0 := fx
  obtain ⟨hx, hb, hml, hr, hown, hts, hlk, hK, hA, hin⟩ := fx0
  exact lv_iload_n hx hb hdg rfl (lv_at hl k hv) (kk A p l e s m args below meth c fx H locs ls hP hD hS hl)

theorem u_iconst {G : Gd} {M : MD} {R : Room} {mc ms : Nat} {B : va_W → Prop} {cells slots pc : Nat} {lv : List (Nat × Value)} {st : List Value} {w : va_W} {n : Int} (hdg : decode M.2.1 pc = .ok (.iconst n, 1)) (hv : Int32.ofInt n = Int32.ofInt n) (kk : CU G M R mc ms B (cells) (slots) (pc + 1) (lv) (vI n :: st) (w)) : CU G M R mc ms B cells slots pc lv (st) w := by
  intro A p l e s m args below meth c fx H locs ls hP hD hS hl
  have fx0 := fx
  obtain ⟨hx, hb, hml, hr, hown, hts, hlk, hK, hA, hin⟩ := fx0
  exact lv_iconst hx hb hdg hv (kk A p l e s m args below meth c fx H locs ls hP hD hS hl)

theorem u_bipush {G : Gd} {M : MD} {R : Room} {mc ms : Nat} {B : va_W → Prop} {cells slots pc : Nat} {lv : List (Nat × Value)} {st : List Value} {w : va_W} {n : Int} (hdg : decode M.2.1 pc = .ok (.bipush n, 2)) (hv : (Int8.ofInt n).toInt32 = Int32.ofInt n) (kk : CU G M R mc ms B (cells) (slots) (pc + 2) (lv) (vI n :: st) (w)) : CU G M R mc ms B cells slots pc lv (st) w := by
  intro A p l e s m args below meth c fx H locs ls hP hD hS hl
  have fx0 := fx
  obtain ⟨hx, hb, hml, hr, hown, hts, hlk, hK, hA, hin⟩ := fx0
  exact lv_bipush hx hb hdg hv (kk A p l e s m args below meth c fx H locs ls hP hD hS hl)

theorem u_sipush {G : Gd} {M : MD} {R : Room} {mc ms : Nat} {B : va_W → Prop} {cells slots pc : Nat} {lv : List (Nat × Value)} {st : List Value} {w : va_W} {n : Int} (hdg : decode M.2.1 pc = .ok (.sipush n, 3)) (hv : (Int16.ofInt n).toInt32 = Int32.ofInt n) (kk : CU G M R mc ms B (cells) (slots) (pc + 3) (lv) (vI n :: st) (w)) : CU G M R mc ms B cells slots pc lv (st) w := by
  intro A p l e s m args below meth c fx H locs ls hP hD hS hl
  have fx0 := fx
  obtain ⟨hx, hb, hml, hr, hown, hts, hlk, hK, hA, hin⟩ := fx0
  exact lv_sipush hx hb hdg hv (kk A p l e s m args below meth c fx H locs ls hP hD hS hl)

theorem u_dup {G : Gd} {M : MD} {R : Room} {mc ms : Nat} {B : va_W → Prop} {cells slots pc : Nat} {lv : List (Nat × Value)} {st : List Value} {w : va_W} {v : Nat} (hdg : decode M.2.1 pc = .ok (.dup, 1)) (kk : CU G M R mc ms B (cells) (slots) (pc + 1) (lv) (.ref v :: .ref v :: st) (w)) : CU G M R mc ms B cells slots pc lv (.ref v :: st) w := by
  intro A p l e s m args below meth c fx H locs ls hP hD hS hl
  have fx0 := fx
  obtain ⟨hx, hb, hml, hr, hown, hts, hlk, hK, hA, hin⟩ := fx0
  exact lv_dup hx hb hdg rfl (kk A p l e s m args below meth c fx H locs ls hP hD hS hl)

theorem u_goto {G : Gd} {M : MD} {R : Room} {mc ms : Nat} {B : va_W → Prop} {cells slots pc : Nat} {lv : List (Nat × Value)} {st : List Value} {w : va_W} {off : Int} (tgt : Nat) (hdg : decode M.2.1 pc = .ok (.goto off, 3)) (ht : (pc : Int) + off = (tgt : Int)) (kk : CU G M R mc ms B (cells) (slots) (tgt) (lv) (st) (w)) : CU G M R mc ms B cells slots pc lv (st) w := by
  intro A p l e s m args below meth c fx H locs ls hP hD hS hl
  have fx0 := fx
  obtain ⟨hx, hb, hml, hr, hown, hts, hlk, hK, hA, hin⟩ := fx0
  exact lv_goto (tgt := tgt) hx hb hdg ht (kk A p l e s m args below meth c fx H locs ls hP hD hS hl)

theorem u_istore {G : Gd} {M : MD} {R : Room} {mc ms : Nat} {B : va_W → Prop} {cells slots pc : Nat} {lv : List (Nat × Value)} {st : List Value} {w : va_W} {i : Fin 4} {x : Int32} {lv1 : List (Nat × Value)} (hdg : decode M.2.1 pc = .ok (.istore_n i, 1)) (hi : i.val < M.2.2.1) (he : (i.val, Value.int x) :: List.filter (fun q => !q.fst == i.val && !(q.fst + 1 == i.val && q.snd.category == 2)) lv = lv1) (kk : CU G M R mc ms B (cells) (slots) (pc + 1) (lv1) (st) (w)) : CU G M R mc ms B cells slots pc lv (.int x :: st) w := by
  intro A p l e s m args below meth c fx H locs ls hP hD hS hl
  have fx0 := fx
  obtain ⟨hx, hb, hml, hr, hown, hts, hlk, hK, hA, hin⟩ := fx0
  exact lv_istore_n hx hb hdg rfl hl hi he (fun ls1 hl1 => kk A p l e s m args below meth c fx H locs ls1 hP hD hS hl1)

theorem u_iinc {G : Gd} {M : MD} {R : Room} {mc ms : Nat} {B : va_W → Prop} {cells slots pc : Nat} {lv : List (Nat × Value)} {st : List Value} {w : va_W} {k i : Nat} {n : Int} {x v : Int32} {lv1 : List (Nat × Value)} (hdg : decode M.2.1 pc = .ok (.iinc i n, 3)) (hv : lv[k]? = some (i, .int x)) (hx1 : x + Int32.ofInt n = v) (hi : i < M.2.2.1) (he : (i, Value.int v) :: List.filter (fun q => !q.fst == i && !(q.fst + 1 == i && q.snd.category == 2)) lv = lv1) (kk : CU G M R mc ms B (cells) (slots) (pc + 3) (lv1) (st) (w)) : CU G M R mc ms B cells slots pc lv (st) w := by
  intro A p l e s m args below meth c fx H locs ls hP hD hS hl
  have fx0 := fx
  obtain ⟨hx, hb, hml, hr, hown, hts, hlk, hK, hA, hin⟩ := fx0
  exact lv_iinc hx hb hdg hl hv hx1 hi he (fun ls1 hl1 => kk A p l e s m args below meth c fx H locs ls1 hP hD hS hl1)

theorem u_icmp_ge {G : Gd} {M : MD} {R : Room} {mc ms : Nat} {B : va_W → Prop} {cells slots pc : Nat} {lv : List (Nat × Value)} {st : List Value} {w : va_W} {x y : Int32} {off : Int} (tgt : Nat) (hdg : decode M.2.1 pc = .ok (.if_icmp .ge off, 3)) (ht : (pc : Int) + off = (tgt : Int)) (k1 : y ≤ x → CU G M R mc ms B cells slots tgt lv st w) (k2 : ¬ y ≤ x → CU G M R mc ms B cells slots (pc + 3) lv st w) : CU G M R mc ms B cells slots pc lv (.int y :: .int x :: st) w := by
  intro A p l e s m args below meth c fx H locs ls hP hD hS hl
  have fx0 := fx
  obtain ⟨hx, hb, hml, hr, hown, hts, hlk, hK, hA, hin⟩ := fx0
  exact lv_icmp_ge (tgt := tgt) hx hb hdg ht (fun h => k1 h A p l e s m args below meth c fx H locs ls hP hD hS hl) (fun h => k2 h A p l e s m args below meth c fx H locs ls hP hD hS hl)

theorem u_obj {G : Gd} {M : MD} {R : Room} {mc ms : Nat} {B : va_W → Prop} {cells slots pc : Nat} {lv : List (Nat × Value)} {w : va_W} {i a : Nat} (hdg : decode M.2.1 pc = .ok (.invokespecial i, 3)) (hlink : Cond.methodLink M.1.cls i objectInit ∈ ALL) (h1 : Cond.instanceMethod objectInit ∈ ALL) (h2 : Cond.code objectInit ⟨#[0xb1]⟩ 1 none ∈ ALL) (hf : 1 ≤ R.frames) (hlo : 12 ≤ R.locals) (kk : CU G M R mc ms B (cells) (slots) (pc + 3) (lv) ([]) (w)) : CU G M R mc ms B cells slots pc lv ([.ref a]) w := by
  intro A p l e s m args below meth c fx H locs ls hP hD hS hl
  have fx0 := fx
  obtain ⟨hx, hb, hml, hr, hown, hts, hlk, hK, hA, hin⟩ := fx0
  refine W.objInit hx hb hown (hts _ hlink) (hts _ h1) (hts _ h2) rfl (by rw [hml]; exact hl.1) rfl hdg hf hlo ?_
  exact W.eq (g2 := F0 m (pc + 3) ls []) rfl (kk A p l e s m args below meth c fx H locs ls hP hD hS hl)

theorem u_get {G : Gd} {M : MD} {R : Room} {mc ms : Nat} {B : va_W → Prop} {cells slots pc : Nat} {lv : List (Nat × Value)} {st : List Value} {w : va_W} {q0 ci k a i : Nat} {fs : List Value} {v : Value} (hdg : decode M.2.1 pc = .ok (.getfield i, 3)) (hf : FL M.1.cls i ci k) (hw : w[q0]? = some (a, .inr (ci, fs))) (hv : fs[k]? = some v) (kk : CU G M R mc ms B (cells) (slots) (pc + 3) (lv) (v :: st) (w)) : CU G M R mc ms B cells slots pc lv (.ref a :: st) w := by
  intro A p l e s m args below meth c fx H locs ls hP hD hS hl
  have fx0 := fx
  obtain ⟨hx, hb, hml, hr, hown, hts, hlk, hK, hA, hin⟩ := fx0
  obtain ⟨C, T, N, hc, hk, hin1, hlink⟩ := hf
  exact va_get hx hb hts hin1 hown hK.1.1 hP q0 hw hc k hk (hts _ hlink) (fun x h => h) hv hdg (kk A p l e s m args below meth c fx H locs ls hP hD hS hl)

def FPF (own : String) (idx ci k : Nat) (ty : FieldType) : Prop := ∃ (C : String) (T : u_T) (N : Nat) (ty0 : Nat → FieldType), vwCl[ci]? = some (C, T, N) ∧ k < N ∧ (∀ w ∈ u_ws C T N, w ∈ ALL) ∧ Cond.fieldLink own idx (T k).1 (T k).2.1 (T k).2.2.1 ∈ ALL ∧ (∀ k, k < N → parseFieldDescriptor (T k).2.2.1 = some (ty0 k)) ∧ (∀ a, a < N → ∀ b, b < N → a ≠ b → (T a).2.1 ≠ (T b).2.1) ∧ (T k).2.2.2 = true ∧ (T k).1 = own ∧ parseFieldDescriptor (T k).2.2.1 = some ty

theorem u_putF {G : Gd} {M : MD} {R : Room} {mc ms : Nat} {B : va_W → Prop} {cells slots pc : Nat} {lv : List (Nat × Value)} {st : List Value} {w : va_W} {q0 ci k a i : Nat} {ty : FieldType} {fs : List Value} {v : Value} (hdg : decode M.2.1 pc = .ok (.putfield i, 3)) (hf : FPF M.1.cls i ci k ty) (hw : w[q0]? = some (a, .inr (ci, fs))) (hkl : k < fs.length) (hn : narrow ty v = v) (hft : fits ty v = true) (kk : CU G M R mc ms B (cells) (slots) (pc + 3) (lv) (st) (w.set q0 (a, .inr (ci, fs.set k v)))) : CU G M R mc ms B cells slots pc lv (v :: .ref a :: st) w := by
  intro A p l e s m args below meth c fx H locs ls hP hD hS hl
  have fx0 := fx
  obtain ⟨hx, hb, hml, hr, hown, hts, hlk, hK, hA, hin⟩ := fx0
  obtain ⟨C, T, N, ty0, hc, hk, hin1, hlink, hty, hnm, hfin, hdecl, hd⟩ := hf
  exact va_putF hx hb hts hin1 ty0 hty hnm hown hK.1.1 hP hD hS q0 hw hc k hk (hts _ hlink) (fun x h => h) hfin hin hdecl hd hn hft hkl hdg (fun H1 locs1 hP1 hD1 hS1 => kk A p l e s m args below meth c fx H1 locs1 ls hP1 hD1 hS1 hl)

theorem u_putI {G : Gd} {M : MD} {R : Room} {mc ms : Nat} {B : va_W → Prop} {cells slots pc : Nat} {lv : List (Nat × Value)} {st : List Value} {w : va_W} {q0 ci k a i : Nat} {ty : FieldType} {fs : List Value} {v : Value} (hdg : decode M.2.1 pc = .ok (.putfield i, 3)) (hf : FP M.1.cls i ci k ty) (hw : w[q0]? = some (a, .inr (ci, fs))) (hkl : k < fs.length) (hn : narrow ty v = v) (hft : fits ty v = true) (kk : CU G M R mc ms B (cells) (slots) (pc + 3) (lv) (st) (w.set q0 (a, .inr (ci, fs.set k v)))) : CU G M R mc ms B cells slots pc lv (v :: .ref a :: st) w := by
  intro A p l e s m args below meth c fx H locs ls hP hD hS hl
  have fx0 := fx
  obtain ⟨hx, hb, hml, hr, hown, hts, hlk, hK, hA, hin⟩ := fx0
  obtain ⟨C, T, N, ty0, hc, hk, hin1, hlink, hty, hnm, hfin, hd⟩ := hf
  exact va_put hx hb hts hin1 ty0 hty hnm hown hK.1.1 hP hD hS q0 hw hc k hk (hts _ hlink) (fun x h => h) hfin hd hn hft hkl hdg (fun H1 locs1 hP1 hD1 hS1 => kk A p l e s m args below meth c fx H1 locs1 ls hP1 hD1 hS1 hl)

theorem u_iast {G : Gd} {M : MD} {R : Room} {mc ms : Nat} {B : va_W → Prop} {cells slots pc : Nat} {lv : List (Nat × Value)} {st : List Value} {w : va_W} {q0 a n : Nat} {f : Nat → Int32} {i x : Int32} (hdg : decode M.2.1 pc = .ok (.iastore, 1)) (hw : w[q0]? = some (a, .inl (G.2.1, n, .inl f))) (hi : vp_in i n) (kk : CU G M R mc ms B (cells) (slots) (pc + 1) (lv) (st) (w.set q0 (a, .inl (G.2.1, n, .inl (upd f i.toNatClampNeg x))))) : CU G M R mc ms B cells slots pc lv (.int x :: .int i :: .ref a :: st) w := by
  intro A p l e s m args below meth c fx H locs ls hP hD hS hl
  have fx0 := fx
  obtain ⟨hx, hb, hml, hr, hown, hts, hlk, hK, hA, hin⟩ := fx0
  exact va_iast hx hb hK.1.1 hP hD hS q0 0 hw rfl hi hdg (fun H1 locs1 hP1 hD1 hS1 => kk A p l e s m args below meth c fx H1 locs1 ls hP1 hD1 hS1 hl)

theorem u_new {G : Gd} {M : MD} {R : Room} {mc ms : Nat} {B : va_W → Prop} {cells slots pc : Nat} {lv : List (Nat × Value)} {st : List Value} {w : va_W} {i ci : Nat} {C : String} {T : u_T} {N : Nat} {ty : Nat → FieldType} (fs : List Value) (hdg : decode M.2.1 pc = .ok (.new i, 3)) (hc : vwCl[ci]? = some (C, T, N)) (hin1 : ∀ w ∈ u_ws C T N, w ∈ ALL) (hty : ∀ k, k < N → parseFieldDescriptor (T k).2.2.1 = some (ty k)) (hcl : Cond.classLink M.1.cls i C ∈ ALL) (hinst : Cond.instantiable C N ∈ ALL) (hini : Cond.initialized C ∈ ALL) (hfs : ∀ j, j < N → defaultValue (ty j) = vp_V fs j) (hce : cells + 1 ≤ R.cells) (hsl : slots + N ≤ R.slots) (kk : ∀ q : Nat, CU G M R mc ms B (cells + 1) (slots + N) (pc + 3) (lv) (.ref q :: st) (w ++ [(q, .inr (ci, fs))])) : CU G M R mc ms B cells slots pc lv (st) w := by
  intro A p l e s m args below meth c fx H locs ls hP hD hS hl
  have fx0 := fx
  obtain ⟨hx, hb, hml, hr, hown, hts, hlk, hK, hA, hin⟩ := fx0
  exact va_new hx hb hts hin1 ty hty hown (hts _ hcl) (hts _ hinst) (hts _ hini) hK.1.1 hP hD hS hA hc hfs hce hsl hdg (fun q H1 hP1 hD1 hS1 => kk q A p l e s m args below meth c fx H1 locs ls hP1 hD1 hS1 hl)

theorem u_newi {G : Gd} {M : MD} {R : Room} {mc ms : Nat} {B : va_W → Prop} {cells slots pc : Nat} {lv : List (Nat × Value)} {st : List Value} {w : va_W} {n : Int} (N : Nat) (f : Nat → Int32) (hdg : decode M.2.1 pc = .ok (.newarray .int, 2)) (hc : Cond.arrayClass .int ∈ ALL) (hf : f = fun _ => 0) (hn : ¬ Int32.ofInt n < 0) (hN : (Int32.ofInt n).toNatClampNeg = N) (hby : N * componentBytes .int ≤ 536870912) (hce : cells + 1 ≤ R.cells) (hsl : slots + N ≤ R.slots) (kk : ∀ q : Nat, CU G M R mc ms B (cells + 1) (slots + N) (pc + 2) (lv) (.ref q :: st) (w ++ [(q, .inl (G.2.1, N, .inl f))])) : CU G M R mc ms B cells slots pc lv (vI n :: st) w := by
  intro A p l e s m args below meth c fx H locs ls hP hD hS hl
  have fx0 := fx
  obtain ⟨hx, hb, hml, hr, hown, hts, hlk, hK, hA, hin⟩ := fx0
  refine va_newa (atype := .int) (ty := .int) (a0 := (N, .inl f)) hx hb (hts _ hc) rfl hK.1.1 hP hD hS hA (fun cA => by rw [hf]; rfl) hn hN hby hce hsl hdg (fun q cA H1 hK1 hP1 hD1 hS1 => ?_)
  have e1 := (hK1.2 3 (cA, .int) rfl).2
  have e2 := (hK.1.1.2 0 (G.2.1, .int) rfl).2
  have e1 : s.vm.findClass ("[" ++ (FieldType.toString .int)) = some cA := e1
  have e2 : s.vm.findClass ("[" ++ (FieldType.toString .int)) = some G.2.1 := e2
  rw [e1] at e2
  have e3 : cA = G.2.1 := Option.some.inj e2
  subst e3
  exact kk q A p l e s m args below meth c fx H1 locs ls hP1 hD1 hS1 hl

theorem u_newz {G : Gd} {M : MD} {R : Room} {mc ms : Nat} {B : va_W → Prop} {cells slots pc : Nat} {lv : List (Nat × Value)} {st : List Value} {w : va_W} {n : Int} (N : Nat) (f : Nat → Int32) (hdg : decode M.2.1 pc = .ok (.newarray .boolean, 2)) (hc : Cond.arrayClass .boolean ∈ ALL) (hf : f = fun _ => 0) (hn : ¬ Int32.ofInt n < 0) (hN : (Int32.ofInt n).toNatClampNeg = N) (hby : N * componentBytes .boolean ≤ 536870912) (hce : cells + 1 ≤ R.cells) (hsl : slots + N ≤ R.slots) (kk : ∀ q : Nat, CU G M R mc ms B (cells + 1) (slots + N) (pc + 2) (lv) (.ref q :: st) (w ++ [(q, .inl (G.2.2.1, N, .inl f))])) : CU G M R mc ms B cells slots pc lv (vI n :: st) w := by
  intro A p l e s m args below meth c fx H locs ls hP hD hS hl
  have fx0 := fx
  obtain ⟨hx, hb, hml, hr, hown, hts, hlk, hK, hA, hin⟩ := fx0
  refine va_newa (atype := .boolean) (ty := .boolean) (a0 := (N, .inl f)) hx hb (hts _ hc) rfl hK.1.1 hP hD hS hA (fun cA => by rw [hf]; rfl) hn hN hby hce hsl hdg (fun q cA H1 hK1 hP1 hD1 hS1 => ?_)
  have e1 := (hK1.2 3 (cA, .boolean) rfl).2
  have e2 := (hK.1.1.2 1 (G.2.2.1, .boolean) rfl).2
  have e1 : s.vm.findClass ("[" ++ (FieldType.toString .boolean)) = some cA := e1
  have e2 : s.vm.findClass ("[" ++ (FieldType.toString .boolean)) = some G.2.2.1 := e2
  rw [e1] at e2
  have e3 : cA = G.2.2.1 := Option.some.inj e2
  subst e3
  exact kk q A p l e s m args below meth c fx H1 locs ls hP1 hD1 hS1 hl

/-- new int[N][K] -/
theorem u_mna {G : Gd} {M : MD} {R : Room} {mc ms : Nat} {B : va_W → Prop} {cells slots pc : Nat} {lv : List (Nat × Value)} {st : List Value} {w : va_W} {i : Nat} {n k : Int} (N K : Nat) (f : Nat → Nat → Int32) (hdg : decode M.2.1 pc = .ok (.multianewarray i 2, 4)) (hcl : Cond.classLink M.1.cls i ("[" ++ (FieldType.array .int).toString) ∈ ALL) (hac : Cond.arrayClass .int ∈ ALL) (hf : ∀ j, j < N → f j = fun _ => 0) (hn : ¬ Int32.ofInt n < 0) (hk : ¬ Int32.ofInt k < 0) (hN : (Int32.ofInt n).toNatClampNeg = N) (hM : (Int32.ofInt k).toNatClampNeg = K) (hb1 : N * 4 ≤ 536870912) (hb2 : K * componentBytes .int ≤ 536870912) (hb3 : K ≤ 536870912) (hce : cells + (1 + N) ≤ R.cells) (hsl : slots + (N + N * K) ≤ R.slots)
    (kk : ∀ (q : Nat) (r : Nat → Nat), CU G M R mc ms B (cells + 1 + N) (slots + N + N * K) (pc + 4) lv (.ref q :: st) ((w ++ [(q, .inl (G.2.2.2, N, .inr (.inr (.inr (.inr (fun i => if i < N then some (r i) else none))))))]) ++ (List.range N).map (fun j => (r j, .inl (G.2.1, K, .inl (f j)))))) : CU G M R mc ms B cells slots pc lv (vI k :: vI n :: st) w := by
  intro A p l e s m args below meth c fx H locs ls hP hD hS hl
  have fx0 := fx
  obtain ⟨hx, hb, hml, hr, hown, hts, hlk, hK, hA, hin⟩ := fx0
  subst hN
  subst hM
  intro T hT Xs
  have e0 : s.vm.findClass (FieldType.array .int).toString = some G.2.1 := (hK.1.1.2 0 (G.2.1, .int) rfl).2
  have e2 : s.vm.findClass ("[" ++ (FieldType.array .int).toString) = some G.2.2.2 := (hK.1.1.2 2 (G.2.2.2, .array .int) rfl).2
  have hover : (Cond.arrayOver (FieldType.array .int)).before args s = true := arrayOver_alikeB (Vm.Alike.refl _) hK.2.2
  obtain ⟨vm₁, cA, comp, -, fA, fC, hO, -, X', step⟩ := Xs.multianewarray2F (ty := .int) hx hown (hts _ hcl) hover (hts _ hac) (g := F0 m pc ls (.int (Int32.ofInt k) :: .int (Int32.ofInt n) :: st)) rfl (by rw [hb]; exact hdg) rfl hn hk hb1 hb2 hb3 rfl rfl hce hsl
  rw [e2] at fA
  have ea : cA = G.2.2.2 := (Option.some.inj fA).symm
  subst ea
  rw [e0] at fC
  have ec : comp = G.2.1 := (Option.some.inj fC).symm
  subst ec
  generalize hF : Jvm.Free.Multi.fill (T.setVm vm₁) G.2.2.2 G.2.1 (Int32.ofInt n).toNatClampNeg (Int32.ofInt k).toNatClampNeg (defaultValue .int) (Int32.ofInt n).toNatClampNeg = F at X' step
  have hTh : (T.setVm vm₁).heap = H := hT
  obtain ⟨f1, f2, -, -⟩ := Jvm.Free.Multi.fill_facts (T.setVm vm₁) G.2.2.2 G.2.1 (Int32.ofInt n).toNatClampNeg (Int32.ofInt k).toNatClampNeg (defaultValue .int) (Int32.ofInt n).toNatClampNeg
  rw [hF, hTh] at f1 f2
  have hold : ∀ x : Nat, x < H.size → F.heap[x]? = H[x]? := fun x hx => by
    have := Jvm.Free.Multi.fill_old (T.setVm vm₁) G.2.2.2 G.2.1 (Int32.ofInt n).toNatClampNeg (Int32.ofInt k).toNatClampNeg (defaultValue .int) (a := x) (by rw [hTh]; exact hx) (Int32.ofInt n).toNatClampNeg
    rw [hF, hTh] at this
    exact this
  have hz : ∀ j, j < (Int32.ofInt n).toNatClampNeg → Jvm.Free.Multi.innerC G.2.1 (Int32.ofInt k).toNatClampNeg (defaultValue .int) = vp_cell G.2.1 ((Int32.ofInt k).toNatClampNeg, .inl (f j)) := fun j hj => by
    rw [hf j hj]
    exact arrV_new _ _ _
  have hrow : ∀ j : Nat, j < (Int32.ofInt n).toNatClampNeg → F.heap[H.size + 1 + j]? = some (vp_cell G.2.1 ((Int32.ofInt k).toNatClampNeg, .inl (f j))) := fun j hj => by
    have := Jvm.Free.Multi.fill_inner (T.setVm vm₁) G.2.2.2 G.2.1 (Int32.ofInt n).toNatClampNeg (Int32.ofInt k).toNatClampNeg (defaultValue .int) (Int32.ofInt n).toNatClampNeg j hj
    rw [hF, hTh, hz j hj] at this
    exact this
  have hout : Jvm.Free.Multi.outerC G.2.2.2 (Int32.ofInt n).toNatClampNeg H.size (Int32.ofInt n).toNatClampNeg = vp_cell G.2.2.2 ((Int32.ofInt n).toNatClampNeg, .inr (.inr (.inr (.inr (fun i => if i < (Int32.ofInt n).toNatClampNeg then some (H.size + 1 + i) else none))))) := by
    rw [vp_cell_q]
    exact vr_outer G.2.2.2 (Int32.ofInt n).toNatClampNeg H.size (Int32.ofInt n).toNatClampNeg
  rw [hout] at f2
  generalize (Int32.ofInt n).toNatClampNeg = N at *
  generalize (Int32.ofInt k).toNatClampNeg = K at *
  have hP0 : va_P G.1 vwCl w F.heap := hP.kept (fun k9 x hx => hold x.1 ((hP k9 x hx).lt))
  have hP1 : va_P G.1 vwCl (w ++ [(H.size, .inl (G.2.2.2, N, .inr (.inr (.inr (.inr (fun i => if i < N then some (H.size + 1 + i) else none))))))]) F.heap := hP0.app (fun k9 x hx => by
    have h0 : k9 < 1 := (List.getElem?_eq_some_iff.mp hx).1
    rw [show k9 = 0 by omega] at hx
    cases hx
    exact f2)
  have hP2 : va_P G.1 vwCl ((w ++ [(H.size, .inl (G.2.2.2, N, .inr (.inr (.inr (.inr (fun i => if i < N then some (H.size + 1 + i) else none))))))]) ++ (List.range N).map (fun j => (H.size + 1 + j, .inl (G.2.1, K, .inl (f j))))) F.heap := hP1.app (fun k9 x hx => by
    obtain ⟨j, hj, rfl⟩ := List.mem_map.mp (List.mem_of_getElem? hx)
    exact hrow j (List.mem_range.mp hj))
  have hD2 : va_D A ((w ++ [(H.size, .inl (G.2.2.2, N, .inr (.inr (.inr (.inr (fun i => if i < N then some (H.size + 1 + i) else none))))))]) ++ (List.range N).map (fun j => (H.size + 1 + j, .inl (G.2.1, K, .inl (f j))))) := by
    have hD1 := hD.push (e := .inl (G.2.2.2, N, .inr (.inr (.inr (.inr (fun i => if i < N then some (H.size + 1 + i) else none)))))) hP rfl (hA _ hS.1)
    generalize hW1 : w ++ [(H.size, .inl (G.2.2.2, N, .inr (.inr (.inr (.inr (fun i => if i < N then some (H.size + 1 + i) else none))))))] = W1 at hD1 hP1 ⊢
    have hle : ∀ (k9 : Nat) (x : Nat × va_E), W1[k9]? = some x → x.1 ≤ H.size := fun k9 x hx => by
      rw [← hW1] at hx
      by_cases hl : k9 < w.length
      · rw [List.getElem?_append_left hl] at hx
        exact Nat.le_of_lt ((hP k9 x hx).lt)
      · rw [List.getElem?_append_right (by omega)] at hx
        have h0 : k9 - w.length < 1 := (List.getElem?_eq_some_iff.mp hx).1
        rw [show k9 - w.length = 0 by omega] at hx
        cases hx
        exact Nat.le_refl _
    have hr : ∀ (k9 : Nat) (x : Nat × va_E), ((List.range N).map (fun j => ((H.size + 1 + j, .inl (G.2.1, K, .inl (f j))) : Nat × va_E)))[k9]? = some x → x.1 = H.size + 1 + k9 := fun k9 x hx => by
      rw [List.getElem?_map] at hx
      by_cases h9 : k9 < N
      · rw [List.getElem?_range h9] at hx
        cases hx
        rfl
      · have hn0 : (List.range N)[k9]? = none := List.getElem?_eq_none (by rw [List.length_range]; omega)
        rw [hn0] at hx
        cases hx
    refine ⟨fun i j x y hi hj hxy => ?_, fun k9 x hx => ?_⟩
    · by_cases h1 : i < W1.length <;> by_cases h2 : j < W1.length
      · rw [List.getElem?_append_left h1] at hi
        rw [List.getElem?_append_left h2] at hj
        exact hD1.1 i j x y hi hj hxy
      · rw [List.getElem?_append_left h1] at hi
        rw [List.getElem?_append_right (by omega)] at hj
        have := hle _ _ hi
        have := hr _ _ hj
        omega
      · rw [List.getElem?_append_right (by omega)] at hi
        rw [List.getElem?_append_left h2] at hj
        have := hle _ _ hj
        have := hr _ _ hi
        omega
      · rw [List.getElem?_append_right (by omega)] at hi hj
        have := hr _ _ hi
        have := hr _ _ hj
        omega
    · by_cases h1 : k9 < W1.length
      · rw [List.getElem?_append_left h1] at hx
        exact hD1.2 k9 x hx
      · rw [List.getElem?_append_right (by omega)] at hx
        have := hr _ _ hx
        exact hA _ (by have := hS.1; omega)
  obtain ⟨t, a1, b1⟩ := kk H.size (fun j => H.size + 1 + j) A p l e s m args below meth c fx F.heap locs ls hP2 hD2 ⟨by rw [f1]; have := hS.1; omega, fun x h1 h2 => (hold x (Nat.lt_of_lt_of_le h1 hS.1)).trans (hS.2.1 x h1 h2), hS.2.2⟩ hl F rfl X'
  refine ⟨t, step t ?_, b1⟩
  have e : T.heap.size = H.size := by rw [hT]
  rw [e]
  exact a1
theorem Pk_blind (G : Gd) (vs : List Value) (sz ci : Nat) (fs : List Value) (h0 : Nat) : FrameBlind (va_Pc (.ref h0 :: vs) (fun U => U.heap.size = sz ∧ va_P G.1 vwCl [(h0, .inr (ci, fs))] U.heap ∧ KC G U ∧ va_D (fun _ => True) [(h0, .inr (ci, fs))])) := fun a U g mk q => by
  obtain ⟨q0, q1, qP, qK, qD⟩ := q
  exact ⟨q0, q1, qP, qK.same (rfl : U.vm = (U.calling g mk a).vm), qD⟩
/-- what stands behind the call of a constructor of the last cell -/
theorem join_last {A0 : Nat → Prop} {D : va_G} {cl : List vw_C} {wr w1 : va_W} {x : Nat × va_E} {H H1 : Heap} (hP : va_P D cl (wr ++ [x]) H) (hD : va_D A0 (wr ++ [x])) (hk : ∀ q : Nat, q < H.size → ¬ va_A [x] H.size q → H1[q]? = H[q]?) (hF : ∀ q, va_A [x] H.size q → A0 q) (hP1 : va_P D cl w1 H1) (hD1 : va_D (va_A [x] H.size) w1) : va_P D cl (wr ++ w1) H1 ∧ va_D A0 (wr ++ w1) := by
  have atl : ∀ (k : Nat) (q : Nat × va_E), wr[k]? = some q → (wr ++ [x])[k]? = some q := fun k q h => by
    rw [List.getElem?_append_left (List.getElem?_eq_some_iff.mp h).1]; exact h
  have last : (wr ++ [x])[wr.length]? = some x := by rw [List.getElem?_append_right (Nat.le_refl _), Nat.sub_self]; rfl
  have apart : ∀ (k : Nat) (q : Nat × va_E), wr[k]? = some q → q.1 < H.size ∧ ¬ va_A [x] H.size q.1 := by
    intro k q hq
    have hl := (hP k q (atl k q hq)).lt
    refine ⟨hl, fun h => ?_⟩
    rcases h with ⟨k2, e, h⟩ | h
    · have h0 : k2 < 1 := (List.getElem?_eq_some_iff.mp h).1
      rw [show k2 = 0 by omega] at h
      cases h
      have hij := hD.1 k wr.length q _ (atl k q hq) last rfl
      have := (List.getElem?_eq_some_iff.mp hq).1
      omega
    · omega
  refine ⟨va_P.app (fun k q hq => ?_) hP1, va_D.app ⟨fun i j p q h1 h2 h3 => hD.1 i j p q (atl i p h1) (atl j q h2) h3, fun k q h => hD.2 k q (atl k q h)⟩ (hD1.weaken (fun k q _ h => hF q.1 h)) (fun i j x y hx hy hxy => ?_)⟩
  · obtain ⟨g1, g2⟩ := apart k q hq
    exact (hP k q (atl k q hq)).kept (hk q.1 g1 g2)
  · exact (apart i x hx).2 (by rw [hxy]; exact hD1.2 j y hy)
theorem free_last {A : Nat → Prop} {wr : va_W} {x : Nat × va_E} {H0 H : Heap} {locs : List Loc} (hD : va_D A (wr ++ [x])) (hS : va_S A H0 H locs) (hA : ∀ q, H0.size ≤ q → A q) : ∀ q, va_A [x] H.size q → A q := fun q h => by
  rcases h with ⟨k, e, hk⟩ | h
  · have h0 : k < 1 := (List.getElem?_eq_some_iff.mp hk).1
    rw [show k = 0 by omega] at hk
    cases hk
    exact hD.2 wr.length _ (by rw [List.getElem?_append_right (Nat.le_refl _), Nat.sub_self]; rfl)
  · exact hA q (Nat.le_trans hS.1 h)
theorem last_PD {A : Nat → Prop} {D : va_G} {cl : List vw_C} {wr : va_W} {x : Nat × va_E} {H : Heap} (hP : va_P D cl (wr ++ [x]) H) (hD : va_D A (wr ++ [x])) : va_P D cl [x] H ∧ va_D (fun _ => True) [x] := by
  refine ⟨fun k q h => ?_, fun i j p q h1 h2 h3 => ?_, fun _ _ _ => trivial⟩
  · have h0 : k < 1 := (List.getElem?_eq_some_iff.mp h).1
    rw [show k = 0 by omega] at h
    cases h
    exact hP wr.length _ (by rw [List.getElem?_append_right (Nat.le_refl _), Nat.sub_self]; rfl)
  · have h4 : i < 1 := (List.getElem?_eq_some_iff.mp h1).1
    have h5 : j < 1 := (List.getElem?_eq_some_iff.mp h2).1
    omega

theorem u_call {G : Gd} {M : MD} {R : Room} {mc ms : Nat} {B : va_W → Prop} {cells slots pc : Nat} {lv : List (Nat × Value)} {st : List Value} {w : va_W} (M' : MD) {i q ci n : Nat} {d' mc' ms' : Nat} (As : List Value) {fs stk : List Value} {wr : va_W} {B' : va_W → Prop} (hstk : stk = As.reverse ++ .ref q :: st) (hwr : w = wr ++ [(q, .inr (ci, fs))]) (hdg : decode M.2.1 pc = .ok (.invokespecial i, 3)) (hlink : Cond.methodLink M.1.cls i M'.1 ∈ ALL) (hret : M'.2.2.2 = none) (hinst : Cond.instanceMethod M'.1 ∈ ALL) (hini : Cond.initialized M'.1.cls ∈ ALL) (hcode : Cond.code M'.1 M'.2.1 M'.2.2.1 M'.2.2.2 ∈ ALL) (hname : M'.1.name = "<init>") (hd : M'.1.cls ≠ "java/lang/invoke/MethodHandle" ∧ M'.1.cls ≠ "java/lang/invoke/VarHandle" ∧ (parseMethodDescriptor M'.1.desc).map (fun d => d.parameters.length) = some n) (hn : As.length = n) (hfr : d' + 1 ≤ R.frames) (hlo : 8 + (M'.2.2.1 + 11) + 64 * d' ≤ R.locals) (hst : (st.map (fun v => v.category)).sum ≤ 8) (hce : cells + mc' ≤ R.cells) (hsl : slots + ms' ≤ R.slots) (hrun : CRun G M' d' mc' ms' As ci fs q B')
    (kk : ∀ w1, B' w1 → CU G M R mc ms B (cells + mc') (slots + ms') (pc + 3) lv st (wr ++ w1)) : CU G M R mc ms B cells slots pc lv stk w := by
  intro A p l e s m args below meth c fx H locs ls hP hD hS hl
  have fx0 := fx
  obtain ⟨hx, hb, hml, hr, hown, hts, hlk, hK, hA, hin⟩ := fx0
  subst hstk
  subst hwr
  have hGI : GoodIn ALL (wsM M') := good_sub (fun w hw => ws_in hcode w hw)
  obtain ⟨M1, M2, M3, M4⟩ := M'
  have hret : M4 = none := hret
  subst hret
  have hM := hrun l H.size
  have hPD := last_PD hP hD
  have hFc := free_last hD hS hA
  refine va_callv (va_runI (g := F0 m pc ls (As.reverse ++ .ref q :: st)) (b := q) (As := As) (rest := st) (e := e) (below := below) (meth := meth) (locs := locs) (cells := cells) (slots := slots) (R := R) ⟨hx, hb, hml, hown, hts⟩ hM (cwI n hts hGI rfl rfl rfl (hts _ hini) (hts _ hlink) (hts _ hinst) hname hd ⟨hfr, hlo⟩) ⟨Pk_blind _ _ _ _ _ _, fun U hU hW => ⟨rfl, by rw [hU], by rw [hU]; exact hPD.1, hK.warm hW, hPD.2⟩⟩ rfl hn hl.1 rfl (lv_room hst) hdg ⟨hce, hsl⟩) hS (fun q _ h => hFc q h) hFc (fun w1 t H1 locs1 ht hvm hw hB hz1 hk1 hS1 => ?_)
  obtain ⟨hP1, hD1⟩ := hB
  rw [ht] at hP1
  obtain ⟨hP2, hD2⟩ := join_last hP hD hk1 hFc hP1 hD1
  exact kk w1 hw A p l e s m args below meth c fx H1 locs1 ls hP2 hD2 hS1 hl

theorem u_callN {G : Gd} {M : MD} {R : Room} {mc ms : Nat} {B : va_W → Prop} {cells slots pc : Nat} {lv : List (Nat × Value)} {st : List Value} {w : va_W} (M' : MD) {i q ci n : Nat} {d' mc' ms' : Nat} (As : List Value) {fs stk : List Value} {wr : va_W} {B' : va_W → Prop} (hstk : stk = As.reverse ++ .ref q :: st) (hwr : w = wr ++ [(q, .inr (ci, fs))]) (hdg : decode M.2.1 pc = .ok (.invokespecial i, 3)) (host : String) (hnest : (M.1.cls, i, M'.1, host) ∈ nestQ) (hret : M'.2.2.2 = none) (hinst : Cond.instanceMethod M'.1 ∈ ALL) (hini : Cond.initialized M'.1.cls ∈ ALL) (hcode : Cond.code M'.1 M'.2.1 M'.2.2.1 M'.2.2.2 ∈ ALL) (hname : M'.1.name = "<init>") (hd : M'.1.cls ≠ "java/lang/invoke/MethodHandle" ∧ M'.1.cls ≠ "java/lang/invoke/VarHandle" ∧ (parseMethodDescriptor M'.1.desc).map (fun d => d.parameters.length) = some n) (hn : As.length = n) (hfr : d' + 1 ≤ R.frames) (hlo : 8 + (M'.2.2.1 + 11) + 64 * d' ≤ R.locals) (hst : (st.map (fun v => v.category)).sum ≤ 8) (hce : cells + mc' ≤ R.cells) (hsl : slots + ms' ≤ R.slots) (hrun : CRun G M' d' mc' ms' As ci fs q B')
    (kk : ∀ w1, B' w1 → CU G M R mc ms B (cells + mc') (slots + ms') (pc + 3) lv st (wr ++ w1)) : CU G M R mc ms B cells slots pc lv stk w := by
  intro A p l e s m args below meth c fx H locs ls hP hD hS hl
  have fx0 := fx
  obtain ⟨hx, hb, hml, hr, hown, hts, hlk, hK, hA, hin⟩ := fx0
  subst hstk
  subst hwr
  have hGI : GoodIn ALL (wsM M') := good_sub (fun w hw => ws_in hcode w hw)
  obtain ⟨M1, M2, M3, M4⟩ := M'
  have hret : M4 = none := hret
  subst hret
  have hM := hrun l H.size
  have hPD := last_PD hP hD
  have hFc := free_last hD hS hA
  refine va_callv (va_runIN (g := F0 m pc ls (As.reverse ++ .ref q :: st)) (b := q) (As := As) (rest := st) (e := e) (below := below) (meth := meth) (locs := locs) (cells := cells) (slots := slots) (R := R) ⟨hx, hb, hml, hown, hts⟩ hM (⟨va_cnB n hts hGI rfl rfl rfl (hK.2.1 _ hnest) (hts _ hini) hd ⟨hfr, hlo⟩, hname, hts _ hinst⟩) ⟨Pk_blind _ _ _ _ _ _, fun U hU hW => ⟨rfl, by rw [hU], by rw [hU]; exact hPD.1, hK.warm hW, hPD.2⟩⟩ rfl hn hl.1 rfl (lv_room hst) hdg ⟨hce, hsl⟩) hS (fun q _ h => hFc q h) hFc (fun w1 t H1 locs1 ht hvm hw hB hz1 hk1 hS1 => ?_)
  obtain ⟨hP1, hD1⟩ := hB
  rw [ht] at hP1
  obtain ⟨hP2, hD2⟩ := join_last hP hD hk1 hFc hP1 hD1
  exact kk w1 hw A p l e s m args below meth c fx H1 locs1 ls hP2 hD2 hS1 hl

theorem u_vret {G : Gd} {M : MD} {R : Room} {mc ms : Nat} {B : va_W → Prop} {cells slots pc : Nat} {lv : List (Nat × Value)} {w : va_W} (hdg : decode M.2.1 pc = .ok (.return_, 1)) (hret : M.2.2.2 = none) (h1 : cells = mc) (h2 : slots = ms) (w2 : va_W) (hw : ∀ (A : Nat → Prop) (H : Heap), va_P G.1 vwCl w H → va_D A w → va_P G.1 vwCl w2 H ∧ va_D A w2) (hB : B w2) : CU G M R mc ms B cells slots pc lv [] w := by
  intro A p l e s m args below meth c fx H locs ls hP hD hS hl
  have fx0 := fx
  obtain ⟨hx, hb, hml, hr, hown, hts, hlk, hK, hA, hin⟩ := fx0
  subst h1
  subst h2
  rw [hret] at hr
  obtain ⟨hP2, hD2⟩ := hw A H hP hD
  exact W.vret hx hb hr (fun t ht hW => ⟨⟨w2, rfl, hB, by rw [ht]; exact hP2, hD2⟩, hS.F ht⟩) hS.2.2 hdg hlk
