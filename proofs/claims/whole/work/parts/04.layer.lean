/-! A layer over the kit's rows: methods whose answer and whose cells behind them are functions of what they find.
    Ahead of it (part of the names): cl_all (the classes of all worlds), wA (all words of the tables that methods need), nW (the links to members of nest mates), tyA (the array classes). -/
theorem ly_fm {α β : Type} {f : α → Option β} : ∀ {is : List α} {l : List β}, is.map f = l.map some → is.filterMap f = l
  | [], [], _ => rfl
  | [], _ :: _, h => by cases h
  | _ :: _, [], h => by cases h
  | i :: is, x :: l, h => by
    simp only [List.map_cons, List.cons.injEq] at h
    rw [List.filterMap_cons, h.1, ly_fm h.2]
/-- the nest's links hold, and the arrays of objects have their classes -/
def ly_N (U : State) : Prop := (∀ w ∈ nW, va_Nw w U) ∧ ∀ Cn ∈ aO, va_AO Cn U
theorem ly_N.same {u U : State} (h : u.vm = U.vm) (hN : ly_N u) : ly_N U := ⟨fun w hw => va_Nw.same (nW_tab w hw) h (hN.1 w hw), fun Cn hc => va_AO.moved (by rw [h]; exact Vm.Alike.refl _) (hN.2 Cn hc)⟩
theorem ly_N.warm {s U : State} (hW : s.WarmedH U.vm) (hN : ly_N s) : ly_N U := ⟨fun w hw => nW_warm hW w hw (hN.1 w hw), fun Cn hc => va_AO.moved hW.alike (hN.2 Cn hc)⟩
/-- a contract's start -/
def ly_pre (D : va_G) (K : Nat → ClassId) (args : List Value) (ws : va_W) (sz : Nat) : Array Value → State → Prop :=
  va_Pc args (fun U => U.heap.size = sz ∧ va_P D cl_all ws U.heap ∧ va_K D cl_all (tyA K) U ∧ va_D (fun _ => True) ws ∧ ly_N U)
/-- the world behind it -/
def ly_B (D : va_G) (K : Nat → ClassId) (A : Nat → Prop) (ws : va_W) (_ : Unit) (t : State) : Prop := va_P D cl_all ws t.heap ∧ va_K D cl_all (tyA K) t ∧ va_D A ws
def ly_rm (fr lo mc ms : Nat) : Room := { frames := fr, cells := mc, slots := ms, locals := lo }
/-- what a walk stands on -/
def ly_C (p : Program) (m : MethodId) (c : Code) (cc : ByteArray) (nL : Nat) (own : String) (s : State) (args : Array Value) (A : Nat → Prop) (D : va_G) (K : Nat → ClassId) : Prop :=
  p.tables.exec = Jvm.exec ∧ c.code = cc ∧ c.maxLocals = nL ∧ s.vm.findClass own = some m.cls ∧ (∀ w ∈ wA, w.before args s = true) ∧ (∀ q, s.heap.size ≤ q → A q) ∧ va_K D cl_all (tyA K) s ∧ ly_N s
/-- the answer is an int (a long; none): a function of the result, as are the cells -/
def ly_i {ρ : Type} (l : Launch) (y : MethodName) (cc : ByteArray) (maxL : Nat) (ret : Option FieldType) (fr lo : Nat) (D : va_G) (K : Nat → ClassId) (args : List Value) (ws : va_W) (rf : ρ → Int32) (wf : ρ → va_W) (res : ρ) : Prop :=
  ∀ sz : Nat, Met l y (Cond.code y cc maxL ret :: wA) (ly_rm fr lo 0 0) (ly_pre D K args ws sz) (va_Qi (fun x (_ : Unit) => x = rf res) (ly_B D K (va_A ws sz) (wf res)) (va_A ws sz)) 0 0 (va_A ws sz)
def ly_l {ρ : Type} (l : Launch) (y : MethodName) (cc : ByteArray) (maxL : Nat) (ret : Option FieldType) (fr lo : Nat) (D : va_G) (K : Nat → ClassId) (args : List Value) (ws : va_W) (rf : ρ → Int64) (wf : ρ → va_W) (res : ρ) : Prop :=
  ∀ sz : Nat, Met l y (Cond.code y cc maxL ret :: wA) (ly_rm fr lo 0 0) (ly_pre D K args ws sz) (va_Ql (fun x (_ : Unit) => x = rf res) (ly_B D K (va_A ws sz) (wf res)) (va_A ws sz)) 0 0 (va_A ws sz)
def ly_v {ρ : Type} (l : Launch) (y : MethodName) (cc : ByteArray) (maxL : Nat) (ret : Option FieldType) (fr lo : Nat) (D : va_G) (K : Nat → ClassId) (args : List Value) (ws : va_W) (wf : ρ → va_W) (res : ρ) : Prop :=
  ∀ sz : Nat, Met l y (Cond.code y cc maxL ret :: wA) (ly_rm fr lo 0 0) (ly_pre D K args ws sz) (va_Qv (fun (_ : Unit) => True) (ly_B D K (va_A ws sz) (wf res)) (va_A ws sz)) 0 0 (va_A ws sz)
/-- a constructor: it makes at most mc cells of ms slots, at addresses u -/
def ly_n (l : Launch) (y : MethodName) (cc : ByteArray) (maxL : Nat) (fr lo mc ms : Nat) (D : va_G) (K : Nat → ClassId) (args : List Value) (ws : va_W) (wfu : (Nat → Nat) → va_W) : Prop :=
  ∀ sz : Nat, Met l y (Cond.code y cc maxL none :: wA) (ly_rm fr lo mc ms) (ly_pre D K args ws sz) (va_Qv (fun (_ : Nat → Nat) => True) (fun u t => ly_B D K (va_A ws sz) (wfu u) () t) (va_A ws sz)) mc ms (va_A ws sz)
theorem ly_blind {D : va_G} {K : Nat → ClassId} {args : List Value} {ws : va_W} {sz : Nat} : FrameBlind (ly_pre D K args ws sz) := by
  intro a U g mk q
  obtain ⟨q0, q1, qP, qK, qD, qN⟩ := q
  exact ⟨q0, q1, qP, va_K.moved (u := U) (U := U.calling g mk a) (Vm.Alike.refl U.vm) qK, qD, ly_N.same (u := U) rfl qN⟩
theorem ly_good {w : Cond} (hw : w ∈ wA) : (w.onTables && w.keeps) = true ∨ ∃ ty, w = .arrayClass ty := wA_good w hw
theorem ly_GI {w : Cond} (hw : w ∈ wA) : GoodIn wA (w :: wA) := by
  intro x hx
  rcases List.mem_cons.mp hx with rfl | h
  · exact ⟨hw, ly_good hw⟩
  · exact ⟨h, ly_good h⟩
section LYE
variable {l : Launch} {y : MethodName} {cc : ByteArray} {maxL fr lo : Nat} {D : va_G} {K : Nat → ClassId} {args : List Value} {ws : va_W} {ρ : Type} {wf : ρ → va_W} {res0 : ρ}
theorem ly_ent {Qf : (Nat → Prop) → Array Value → State → Outcome → State → Prop} {ret : Option FieldType} {sz mc ms : Nat} (hy : plainName y.cls = true) (hlen : (lg_sl args).length ≤ maxL)
    (body : ∀ (p : Program) (e : Env) (s : State) (m : MethodId) (below : List Frame) (meth : Method) (c : Code) (A : Nat → Prop) (ls : Array Slot), meth.sig.returnType = ret → meth.locks = false → meth.name = y.name →
      ly_C p m c cc maxL y.cls s args.toArray A D K → va_S A s.heap s.heap [] → va_P D cl_all ws s.heap → va_D A ws → lv_has ls maxL (lv_args 0 args) →
      W p l e (ly_rm fr lo mc ms) s m args.toArray below meth c s.heap [] 0 0 (MQ below (Qf A) args.toArray s mc ms A) (F0 m 0 ls [])) :
    Met l y (Cond.code y cc maxL ret :: wA) (ly_rm fr lo mc ms) (ly_pre D K args ws sz) (Qf (va_A ws sz)) mc ms (va_A ws sz) := by
  refine Met.ofW (cc := cc) (maxL := maxL) (ret := ret) hy rfl ?_
  intro p e s m args' below meth c s₁ B hml hv
  obtain ⟨rfl, hsz, hP, hK, hD0, hN⟩ := hv
  subst hsz
  have hl := lv_entry args (n := maxL) hlen
  rw [lg_entry_eq]
  generalize (lg_sl args ++ List.replicate (maxL - (lg_sl args).length) Slot.unset).toArray = ls at hl ⊢
  have hts := atoms_spec (ws := Cond.code y cc maxL ret :: wA) B.pre
  exact body p e s m below meth c (va_A ws s.heap.size) ls B.returns B.notSynchronized (name_of_methodNamed B.named B.method).1
    ⟨B.exec, B.bytes, hml, findClass_of_methodNamed B.named, fun w h => hts w (List.mem_cons_of_mem _ h), fun q h => Or.inr h, hK, hN⟩ va_S.rf hP hD0.self hl
theorem ly_entI {rf : ρ → Int32} {ty : FieldType} (hy : plainName y.cls = true) (hlen : (lg_sl args).length ≤ maxL)
    (body : ∀ (p : Program) (e : Env) (s : State) (m : MethodId) (av : Array Value) (below : List Frame) (meth : Method) (c : Code) (A : Nat → Prop) (ls : Array Slot) (R : Room) (Q : State → Prop) (H : Heap) (locs : List Loc) (res : ρ), res0 = res →
      ly_C p m c cc maxL y.cls s av A D K → fr ≤ R.frames → lo ≤ R.locals → va_S A s.heap H locs → va_P D cl_all ws H → va_D A ws → lv_has ls maxL (lv_args 0 args) →
      (∀ (z : ρ) (H : Heap) (locs : List Loc) (pc : Nat) (ls : Array Slot), z = res → narrow ty (.int (rf z)) = .int (rf z) → va_S A s.heap H locs → va_P D cl_all (wf z) H → va_D A (wf z) → decode cc pc = .ok (.ireturn, 1) →
        W p l e R s m av below meth c H locs 0 0 Q (F0 m pc ls [.int (rf z)])) →
      W p l e R s m av below meth c H locs 0 0 Q (F0 m 0 ls [])) : ly_i l y cc maxL (some ty) fr lo D K args ws rf wf res0 := by
  intro sz
  refine ly_ent (Qf := fun A => va_Qi (fun x (_ : Unit) => x = rf res0) (ly_B D K A (wf res0)) A) hy hlen ?_
  intro p e s m below meth c A ls hr hlk _ C hS hP hD hl
  refine body p e s m args.toArray below meth c A ls _ _ s.heap [] res0 rfl C (Nat.le_refl _) (Nat.le_refl _) hS hP hD hl ?_
  intro z H locs pc ls' hz hn hS' hP' hD' hdg
  subst hz
  exact W.zret C.1 C.2.1 hr hn (fun t ht hW => ⟨⟨rf z, (), rfl, rfl, by rw [ht]; exact hP', va_K.moved hW.alike C.2.2.2.2.2.2.1, hD'⟩, hS'.F ht⟩) hS'.2.2 hdg (hlocks := hlk)
theorem ly_entL {rf : ρ → Int64} (hy : plainName y.cls = true) (hlen : (lg_sl args).length ≤ maxL)
    (body : ∀ (p : Program) (e : Env) (s : State) (m : MethodId) (av : Array Value) (below : List Frame) (meth : Method) (c : Code) (A : Nat → Prop) (ls : Array Slot) (R : Room) (Q : State → Prop) (H : Heap) (locs : List Loc) (res : ρ), res0 = res →
      ly_C p m c cc maxL y.cls s av A D K → fr ≤ R.frames → lo ≤ R.locals → va_S A s.heap H locs → va_P D cl_all ws H → va_D A ws → lv_has ls maxL (lv_args 0 args) →
      (∀ (z : ρ) (H : Heap) (locs : List Loc) (pc : Nat) (ls : Array Slot), z = res → va_S A s.heap H locs → va_P D cl_all (wf z) H → va_D A (wf z) → decode cc pc = .ok (.lreturn, 1) →
        W p l e R s m av below meth c H locs 0 0 Q (F0 m pc ls [.long (rf z)])) →
      W p l e R s m av below meth c H locs 0 0 Q (F0 m 0 ls [])) : ly_l l y cc maxL (some .long) fr lo D K args ws rf wf res0 := by
  intro sz
  refine ly_ent (Qf := fun A => va_Ql (fun x (_ : Unit) => x = rf res0) (ly_B D K A (wf res0)) A) hy hlen ?_
  intro p e s m below meth c A ls hr hlk _ C hS hP hD hl
  refine body p e s m args.toArray below meth c A ls _ _ s.heap [] res0 rfl C (Nat.le_refl _) (Nat.le_refl _) hS hP hD hl ?_
  intro z H locs pc ls' hz hS' hP' hD' hdg
  subst hz
  exact W.lret C.1 C.2.1 hr (fun t ht hW => ⟨⟨rf z, (), rfl, rfl, by rw [ht]; exact hP', va_K.moved hW.alike C.2.2.2.2.2.2.1, hD'⟩, hS'.F ht⟩) hS'.2.2 hdg (hlocks := hlk)
theorem ly_entV (hy : plainName y.cls = true) (hlen : (lg_sl args).length ≤ maxL)
    (body : ∀ (p : Program) (e : Env) (s : State) (m : MethodId) (av : Array Value) (below : List Frame) (meth : Method) (c : Code) (A : Nat → Prop) (ls : Array Slot) (R : Room) (Q : State → Prop) (H : Heap) (locs : List Loc) (res : ρ), res0 = res →
      ly_C p m c cc maxL y.cls s av A D K → fr ≤ R.frames → lo ≤ R.locals → va_S A s.heap H locs → va_P D cl_all ws H → va_D A ws → lv_has ls maxL (lv_args 0 args) →
      (∀ (z : ρ) (H : Heap) (locs : List Loc) (pc : Nat) (ls : Array Slot), z = res → va_S A s.heap H locs → va_P D cl_all (wf z) H → va_D A (wf z) → decode cc pc = .ok (.return_, 1) →
        W p l e R s m av below meth c H locs 0 0 Q (F0 m pc ls [])) →
      W p l e R s m av below meth c H locs 0 0 Q (F0 m 0 ls [])) : ly_v l y cc maxL none fr lo D K args ws wf res0 := by
  intro sz
  refine ly_ent (Qf := fun A => va_Qv (fun (_ : Unit) => True) (ly_B D K A (wf res0)) A) hy hlen ?_
  intro p e s m below meth c A ls hr hlk _ C hS hP hD hl
  refine body p e s m args.toArray below meth c A ls _ _ s.heap [] res0 rfl C (Nat.le_refl _) (Nat.le_refl _) hS hP hD hl ?_
  intro z H locs pc ls' hz hS' hP' hD' hdg
  subst hz
  exact W.vret C.1 C.2.1 hr (fun t ht hW => ⟨⟨(), rfl, trivial, by rw [ht]; exact hP', va_K.moved hW.alike C.2.2.2.2.2.2.1, hD'⟩, hS'.F ht⟩) hS'.2.2 hdg (hlocks := hlk)
theorem ly_entN {mc ms : Nat} {wfu : (Nat → Nat) → va_W} (hy : plainName y.cls = true) (hlen : (lg_sl args).length ≤ maxL) (hnm : y.name = "<init>")
    (body : ∀ (p : Program) (e : Env) (s : State) (m : MethodId) (av : Array Value) (below : List Frame) (meth : Method) (c : Code) (A : Nat → Prop) (ls : Array Slot) (R : Room) (Q : State → Prop) (H : Heap) (locs : List Loc),
      ly_C p m c cc maxL y.cls s av A D K → meth.name = "<init>" → fr ≤ R.frames → lo ≤ R.locals → mc ≤ R.cells → ms ≤ R.slots → va_S A s.heap H locs → va_P D cl_all ws H → va_D A ws → lv_has ls maxL (lv_args 0 args) →
      (∀ (u : Nat → Nat) (H : Heap) (locs : List Loc) (pc : Nat) (ls : Array Slot), va_S A s.heap H locs → va_P D cl_all (wfu u) H → va_D A (wfu u) → decode cc pc = .ok (.return_, 1) →
        W p l e R s m av below meth c H locs mc ms Q (F0 m pc ls [])) →
      W p l e R s m av below meth c H locs 0 0 Q (F0 m 0 ls [])) : ly_n l y cc maxL fr lo mc ms D K args ws wfu := by
  intro sz
  refine ly_ent (Qf := fun A => va_Qv (fun (_ : Nat → Nat) => True) (fun u t => ly_B D K A (wfu u) () t) A) hy hlen ?_
  intro p e s m below meth c A ls hr hlk hname C hS hP hD hl
  refine body p e s m args.toArray below meth c A ls _ _ s.heap [] C (hname.trans hnm) (Nat.le_refl _) (Nat.le_refl _) (Nat.le_refl _) (Nat.le_refl _) hS hP hD hl ?_
  intro u H locs pc ls' hS' hP' hD' hdg
  exact W.vret C.1 C.2.1 hr (fun t ht hW => ⟨⟨u, rfl, trivial, by rw [ht]; exact hP', va_K.moved hW.alike C.2.2.2.2.2.2.1, hD'⟩, hS'.F ht⟩) hS'.2.2 hdg (hlocks := hlk)
end LYE
section LYR
variable {p : Program} {l : Launch} {e : Env} {R : Room} {s : State} {m : MethodId} {args : Array Value} {below : List Frame} {meth : Method} {c : Code} {H : Heap} {locs : List Loc} {cells slots : Nat} {Q : State → Prop}
variable {cc : ByteArray} {pc nL : Nat} {own : String} {ls : Array Slot} {D : va_G} {K : Nat → ClassId} {A : Nat → Prop} {ws ws' wc wr wn : va_W} {a : Array Value} {st0 rest : List Value} {ρ : Type} {wf : ρ → va_W} {z res : ρ}
/-- the start of a callee, out of the caller's world -/
theorem ly_preS {As : List Value} (C : ly_C p m c cc nL own s args A D K) (hP : va_P D cl_all wc H) (hD : va_D A wc) : PreS s H (ly_pre D K As wc H.size) As :=
  ⟨ly_blind, fun U hU hW => ⟨rfl, by rw [hU], by rw [hU]; exact hP, va_K.moved hW.alike C.2.2.2.2.2.2.1, hD.weaken (fun _ _ _ _ => trivial), ly_N.warm hW C.2.2.2.2.2.2.2⟩⟩
theorem ly_preV {As : List Value} {b : Nat} {Cn : String} {T : u_T} {N q0 ci : Nat} {fs : List Value} (C : ly_C p m c cc nL own s args A D K) (hP : va_P D cl_all wc H) (hD : va_D A wc) (he : wc[q0]? = some (b, .inr (ci, fs))) (hc : cl_all[ci]? = some (Cn, T, N)) : PreV s H Cn b (ly_pre D K (.ref b :: As) wc H.size) As :=
  ⟨ly_blind, va_recv (q := (Cn, T, N)) C.2.2.2.2.2.2.1 hP hc he, (ly_preS C hP hD).2⟩
section LYQ
variable {y : MethodName} {bytes : ByteArray} {maxL fr lo n index : Nat} {ret : Option FieldType} {As : List Value} {b : Nat} {host : String} {Qc : Array Value → State → Outcome → State → Prop} {Cn : String} {T : u_T} {N q0 ci : Nat} {fs : List Value}
/-- a static method: by a link, by a nest's link -/
theorem ly_runS (C : ly_C p m c cc nL own s args A D K) (hM : Met l y (Cond.code y bytes maxL ret :: wA) (ly_rm fr lo 0 0) (ly_pre D K As wc H.size) Qc 0 0 (va_A wc H.size))
    (hcode : Cond.code y bytes maxL ret ∈ wA) (hlk : Cond.methodLink own index y ∈ wA) (hini : Cond.initialized y.cls ∈ wA) (hst : Cond.static y ∈ wA)
    (hd : y.cls ≠ "java/lang/invoke/MethodHandle" ∧ y.cls ≠ "java/lang/invoke/VarHandle" ∧ (parseMethodDescriptor y.desc).map (fun d => d.parameters.length) = some n) (hfr : fr + 1 ≤ R.frames) (hlo : 8 + (maxL + 11) + lo ≤ R.locals)
    (hcs : cells ≤ R.cells ∧ slots ≤ R.slots) (hP : va_P D cl_all wc H) (hD : va_D A wc) (hn : As.length = n) (hsize : ls.size = nL) (hstack : st0 = As.reverse ++ rest) (hW : (rest.map fun v => v.category).sum ≤ 8) (hdg : decode cc pc = .ok (.invokestatic index, 3)) :
    va_Run p l e R s m args below meth c H locs cells slots 0 0 (F0 m pc ls st0) rest (Qc As.toArray) (va_A wc H.size) :=
  va_runS (Ts := wA) ⟨C.1, C.2.1, C.2.2.1, C.2.2.2.1, C.2.2.2.2.1⟩ hM ⟨callB_of n C.2.2.2.2.1 (ly_GI hcode) rfl rfl rfl (C.2.2.2.2.1 _ hini) (C.2.2.2.2.1 _ hlk) hd ⟨hfr, hlo⟩, C.2.2.2.2.1 _ hst⟩ (ly_preS C hP hD) rfl hn hsize hstack (lv_room hW) hdg hcs
theorem ly_runSN (C : ly_C p m c cc nL own s args A D K) (hM : Met l y (Cond.code y bytes maxL ret :: wA) (ly_rm fr lo 0 0) (ly_pre D K As wc H.size) Qc 0 0 (va_A wc H.size))
    (hcode : Cond.code y bytes maxL ret ∈ wA) (hlk : Cond.methodLinkNest own index y host ∈ nW) (hini : Cond.initialized y.cls ∈ wA) (hst : Cond.static y ∈ wA)
    (hd : y.cls ≠ "java/lang/invoke/MethodHandle" ∧ y.cls ≠ "java/lang/invoke/VarHandle" ∧ (parseMethodDescriptor y.desc).map (fun d => d.parameters.length) = some n) (hfr : fr + 1 ≤ R.frames) (hlo : 8 + (maxL + 11) + lo ≤ R.locals)
    (hcs : cells ≤ R.cells ∧ slots ≤ R.slots) (hP : va_P D cl_all wc H) (hD : va_D A wc) (hn : As.length = n) (hsize : ls.size = nL) (hstack : st0 = As.reverse ++ rest) (hW : (rest.map fun v => v.category).sum ≤ 8) (hdg : decode cc pc = .ok (.invokestatic index, 3)) :
    va_Run p l e R s m args below meth c H locs cells slots 0 0 (F0 m pc ls st0) rest (Qc As.toArray) (va_A wc H.size) :=
  va_runSN (Ts := wA) ⟨C.1, C.2.1, C.2.2.1, C.2.2.2.1, C.2.2.2.2.1⟩ hM ⟨va_cnB n C.2.2.2.2.1 (ly_GI hcode) rfl rfl rfl (C.2.2.2.2.2.2.2.1 _ hlk) (C.2.2.2.2.1 _ hini) hd ⟨hfr, hlo⟩, C.2.2.2.2.1 _ hst, trivial⟩ (ly_preS C hP hD) rfl hn hsize hstack (lv_room hW) hdg hcs
theorem ly_runV (C : ly_C p m c cc nL own s args A D K) (hM : Met l y (Cond.code y bytes maxL ret :: wA) (ly_rm fr lo 0 0) (ly_pre D K (.ref b :: As) wc H.size) Qc 0 0 (va_A wc H.size))
    (hcode : Cond.code y bytes maxL ret ∈ wA) (hlk : Cond.methodLink own index y ∈ wA) (hini : Cond.initialized y.cls ∈ wA) (hst : Cond.instanceMethod y ∈ wA) (hsel : Cond.selects Cn y y ∈ wA)
    (hd : y.cls ≠ "java/lang/invoke/MethodHandle" ∧ y.cls ≠ "java/lang/invoke/VarHandle" ∧ (parseMethodDescriptor y.desc).map (fun d => d.parameters.length) = some n) (hfr : fr + 1 ≤ R.frames) (hlo : 8 + (maxL + 11) + lo ≤ R.locals)
    (hcs : cells ≤ R.cells ∧ slots ≤ R.slots) (hP : va_P D cl_all wc H) (hD : va_D A wc) (q0 : Nat) (he : wc[q0]? = some (b, .inr (ci, fs))) (hc : cl_all[ci]? = some (Cn, T, N)) (hn : As.length = n) (hsize : ls.size = nL) (hstack : st0 = As.reverse ++ .ref b :: rest) (hW : (rest.map fun v => v.category).sum ≤ 8) (hdg : decode cc pc = .ok (.invokevirtual index, 3)) :
    va_Run p l e R s m args below meth c H locs cells slots 0 0 (F0 m pc ls st0) rest (Qc (Value.ref b :: As).toArray) (va_A wc H.size) :=
  va_runV (Ts := wA) ⟨C.1, C.2.1, C.2.2.1, C.2.2.2.1, C.2.2.2.2.1⟩ hM ⟨callB_of n C.2.2.2.2.1 (ly_GI hcode) rfl rfl rfl (C.2.2.2.2.1 _ hini) (C.2.2.2.2.1 _ hlk) hd ⟨hfr, hlo⟩, C.2.2.2.2.1 _ hst, C.2.2.2.2.1 _ hsel⟩ (ly_preV C hP hD he hc) rfl hn hsize hstack (lv_room hW) hdg hcs
theorem ly_runVN (C : ly_C p m c cc nL own s args A D K) (hM : Met l y (Cond.code y bytes maxL ret :: wA) (ly_rm fr lo 0 0) (ly_pre D K (.ref b :: As) wc H.size) Qc 0 0 (va_A wc H.size))
    (hcode : Cond.code y bytes maxL ret ∈ wA) (hlk : Cond.methodLinkNest own index y host ∈ nW) (hini : Cond.initialized y.cls ∈ wA) (hst : Cond.instanceMethod y ∈ wA) (hsel : Cond.selects Cn y y ∈ wA)
    (hd : y.cls ≠ "java/lang/invoke/MethodHandle" ∧ y.cls ≠ "java/lang/invoke/VarHandle" ∧ (parseMethodDescriptor y.desc).map (fun d => d.parameters.length) = some n) (hfr : fr + 1 ≤ R.frames) (hlo : 8 + (maxL + 11) + lo ≤ R.locals)
    (hcs : cells ≤ R.cells ∧ slots ≤ R.slots) (hP : va_P D cl_all wc H) (hD : va_D A wc) (q0 : Nat) (he : wc[q0]? = some (b, .inr (ci, fs))) (hc : cl_all[ci]? = some (Cn, T, N)) (hn : As.length = n) (hsize : ls.size = nL) (hstack : st0 = As.reverse ++ .ref b :: rest) (hW : (rest.map fun v => v.category).sum ≤ 8) (hdg : decode cc pc = .ok (.invokevirtual index, 3)) :
    va_Run p l e R s m args below meth c H locs cells slots 0 0 (F0 m pc ls st0) rest (Qc (Value.ref b :: As).toArray) (va_A wc H.size) :=
  va_runVN (Ts := wA) ⟨C.1, C.2.1, C.2.2.1, C.2.2.2.1, C.2.2.2.2.1⟩ hM ⟨va_cnB n C.2.2.2.2.1 (ly_GI hcode) rfl rfl rfl (C.2.2.2.2.2.2.2.1 _ hlk) (C.2.2.2.2.1 _ hini) hd ⟨hfr, hlo⟩, C.2.2.2.2.1 _ hst, C.2.2.2.2.1 _ hsel⟩ (ly_preV C hP hD he hc) rfl hn hsize hstack (lv_room hW) hdg hcs
end LYQ
section LYW
variable {y : MethodName} {bytes : ByteArray} {maxL fr lo n index : Nat} {ret : Option FieldType} {As : List Value} {b : Nat} {host : String} {Cn : String} {T : u_T} {N ci : Nat} {fs : List Value}
/-! a call: isC the callee's places, isR the rest's, isB the order wanted behind it -/
theorem ly_j_i {rf : ρ → Int32} (C : ly_C p m c cc nL own s args A D K) (hz : z = res) (isC isR isB : List Nat) (hP : va_P D cl_all ws H) (hD : va_D A ws) (hS : va_S A s.heap H locs) (hC : isC.map (fun i => ws[i]?) = wc.map some) (hR : isR.map (fun i => ws[i]?) = (isR.filterMap (fun i => ws[i]?)).map some)
    (hnd : va_nd isR = true ∧ va_nd isC = true ∧ va_nd isB = true ∧ ∀ i ∈ isR, i ∉ isC) (hB : isB.map (fun i => (isR.filterMap (fun i => ws[i]?) ++ wf z)[i]?) = wn.map some)
    (run : va_P D cl_all wc H → va_D A wc → va_Run p l e R s m args below meth c H locs cells slots 0 0 (F0 m pc ls st0) rest (va_Qi (fun x (_ : Unit) => x = rf res) (ly_B D K (va_A wc H.size) (wf res)) (va_A wc H.size) a) (va_A wc H.size))
    (kk : ∀ (H1 : Heap) (locs1 : List Loc), va_P D cl_all wn H1 → va_D A wn → va_S A s.heap H1 locs1 → W p l e R s m args below meth c H1 locs1 cells slots Q (F0 m (pc + 3) ls (.int (rf z) :: rest))) : W p l e R s m args below meth c H locs cells slots Q (F0 m pc ls st0) := by
  subst hz
  have hFc := va_free (wc := wc) hD hS C.2.2.2.2.2.1 isC hC
  refine va_calli (run (hP.sub isC (ly_fm hC)) (hD.sub isC hnd.2.1 hC)) hS (fun q _ h => hFc q h) hFc (fun x u t H1 locs1 ht hvm hx hB1 hz hk hS1 => ?_)
  subst hx
  obtain ⟨hP1, -, hD1⟩ := hB1
  rw [ht] at hP1
  obtain ⟨hP2, hD2⟩ := va_join hP hD isC isR hC hR hnd.1 hnd.2.2.2 hk hFc hP1 hD1
  exact kk H1 locs1 (hP2.sub isB (ly_fm hB)) (hD2.sub isB hnd.2.2.1 hB) hS1
theorem ly_cS_i {rf : ρ → Int32} (C : ly_C p m c cc nL own s args A D K) (hM : ly_i l y bytes maxL ret fr lo D K As wc rf wf res) (hz : z = res) (hcode : Cond.code y bytes maxL ret ∈ wA) (hlk : Cond.methodLink own index y ∈ wA) (hini : Cond.initialized y.cls ∈ wA) (hst : Cond.static y ∈ wA)
    (hd : y.cls ≠ "java/lang/invoke/MethodHandle" ∧ y.cls ≠ "java/lang/invoke/VarHandle" ∧ (parseMethodDescriptor y.desc).map (fun d => d.parameters.length) = some n) (hfr : fr + 1 ≤ R.frames) (hlo : 8 + (maxL + 11) + lo ≤ R.locals) (hn : As.length = n) (hsize : ls.size = nL) (hstack : st0 = As.reverse ++ rest) (hW : (rest.map fun v => v.category).sum ≤ 8) (hdg : decode cc pc = .ok (.invokestatic index, 3))
    (hcs : cells ≤ R.cells ∧ slots ≤ R.slots) (isC isR isB : List Nat) (hP : va_P D cl_all ws H) (hD : va_D A ws) (hS : va_S A s.heap H locs) (hC : isC.map (fun i => ws[i]?) = wc.map some) (hR : isR.map (fun i => ws[i]?) = (isR.filterMap (fun i => ws[i]?)).map some)
    (hnd : va_nd isR = true ∧ va_nd isC = true ∧ va_nd isB = true ∧ ∀ i ∈ isR, i ∉ isC) (hB : isB.map (fun i => (isR.filterMap (fun i => ws[i]?) ++ wf z)[i]?) = wn.map some)
    (kk : ∀ (H1 : Heap) (locs1 : List Loc), va_P D cl_all wn H1 → va_D A wn → va_S A s.heap H1 locs1 → W p l e R s m args below meth c H1 locs1 cells slots Q (F0 m (pc + 3) ls (.int (rf z) :: rest))) : W p l e R s m args below meth c H locs cells slots Q (F0 m pc ls st0) :=
  ly_j_i C hz isC isR isB hP hD hS hC hR hnd hB (fun hPc hDc => ly_runS C (hM H.size) hcode hlk hini hst hd hfr hlo hcs hPc hDc hn hsize hstack hW hdg) kk
theorem ly_cSN_i {rf : ρ → Int32} (C : ly_C p m c cc nL own s args A D K) (hM : ly_i l y bytes maxL ret fr lo D K As wc rf wf res) (hz : z = res) (hcode : Cond.code y bytes maxL ret ∈ wA) (hlk : Cond.methodLinkNest own index y host ∈ nW) (hini : Cond.initialized y.cls ∈ wA) (hst : Cond.static y ∈ wA)
    (hd : y.cls ≠ "java/lang/invoke/MethodHandle" ∧ y.cls ≠ "java/lang/invoke/VarHandle" ∧ (parseMethodDescriptor y.desc).map (fun d => d.parameters.length) = some n) (hfr : fr + 1 ≤ R.frames) (hlo : 8 + (maxL + 11) + lo ≤ R.locals) (hn : As.length = n) (hsize : ls.size = nL) (hstack : st0 = As.reverse ++ rest) (hW : (rest.map fun v => v.category).sum ≤ 8) (hdg : decode cc pc = .ok (.invokestatic index, 3))
    (hcs : cells ≤ R.cells ∧ slots ≤ R.slots) (isC isR isB : List Nat) (hP : va_P D cl_all ws H) (hD : va_D A ws) (hS : va_S A s.heap H locs) (hC : isC.map (fun i => ws[i]?) = wc.map some) (hR : isR.map (fun i => ws[i]?) = (isR.filterMap (fun i => ws[i]?)).map some)
    (hnd : va_nd isR = true ∧ va_nd isC = true ∧ va_nd isB = true ∧ ∀ i ∈ isR, i ∉ isC) (hB : isB.map (fun i => (isR.filterMap (fun i => ws[i]?) ++ wf z)[i]?) = wn.map some)
    (kk : ∀ (H1 : Heap) (locs1 : List Loc), va_P D cl_all wn H1 → va_D A wn → va_S A s.heap H1 locs1 → W p l e R s m args below meth c H1 locs1 cells slots Q (F0 m (pc + 3) ls (.int (rf z) :: rest))) : W p l e R s m args below meth c H locs cells slots Q (F0 m pc ls st0) :=
  ly_j_i C hz isC isR isB hP hD hS hC hR hnd hB (fun hPc hDc => ly_runSN C (hM H.size) hcode hlk hini hst hd hfr hlo hcs hPc hDc hn hsize hstack hW hdg) kk
theorem ly_cV_i {rf : ρ → Int32} (C : ly_C p m c cc nL own s args A D K) (hM : ly_i l y bytes maxL ret fr lo D K (.ref b :: As) wc rf wf res) (hz : z = res) (hcode : Cond.code y bytes maxL ret ∈ wA) (hlk : Cond.methodLink own index y ∈ wA) (hini : Cond.initialized y.cls ∈ wA) (hst : Cond.instanceMethod y ∈ wA) (hsel : Cond.selects Cn y y ∈ wA)
    (hd : y.cls ≠ "java/lang/invoke/MethodHandle" ∧ y.cls ≠ "java/lang/invoke/VarHandle" ∧ (parseMethodDescriptor y.desc).map (fun d => d.parameters.length) = some n) (hfr : fr + 1 ≤ R.frames) (hlo : 8 + (maxL + 11) + lo ≤ R.locals) (hn : As.length = n) (hsize : ls.size = nL) (hstack : st0 = As.reverse ++ .ref b :: rest) (hW : (rest.map fun v => v.category).sum ≤ 8) (hdg : decode cc pc = .ok (.invokevirtual index, 3))
    (hcs : cells ≤ R.cells ∧ slots ≤ R.slots) (isC isR isB : List Nat) (hP : va_P D cl_all ws H) (hD : va_D A ws) (hS : va_S A s.heap H locs) (hC : isC.map (fun i => ws[i]?) = wc.map some) (hR : isR.map (fun i => ws[i]?) = (isR.filterMap (fun i => ws[i]?)).map some)
    (hnd : va_nd isR = true ∧ va_nd isC = true ∧ va_nd isB = true ∧ ∀ i ∈ isR, i ∉ isC) (hB : isB.map (fun i => (isR.filterMap (fun i => ws[i]?) ++ wf z)[i]?) = wn.map some) (he : wc[0]? = some (b, .inr (ci, fs))) (hc : cl_all[ci]? = some (Cn, T, N))
    (kk : ∀ (H1 : Heap) (locs1 : List Loc), va_P D cl_all wn H1 → va_D A wn → va_S A s.heap H1 locs1 → W p l e R s m args below meth c H1 locs1 cells slots Q (F0 m (pc + 3) ls (.int (rf z) :: rest))) : W p l e R s m args below meth c H locs cells slots Q (F0 m pc ls st0) :=
  ly_j_i C hz isC isR isB hP hD hS hC hR hnd hB (fun hPc hDc => ly_runV C (hM H.size) hcode hlk hini hst hsel hd hfr hlo hcs hPc hDc 0 he hc hn hsize hstack hW hdg) kk
theorem ly_cVN_i {rf : ρ → Int32} (C : ly_C p m c cc nL own s args A D K) (hM : ly_i l y bytes maxL ret fr lo D K (.ref b :: As) wc rf wf res) (hz : z = res) (hcode : Cond.code y bytes maxL ret ∈ wA) (hlk : Cond.methodLinkNest own index y host ∈ nW) (hini : Cond.initialized y.cls ∈ wA) (hst : Cond.instanceMethod y ∈ wA) (hsel : Cond.selects Cn y y ∈ wA)
    (hd : y.cls ≠ "java/lang/invoke/MethodHandle" ∧ y.cls ≠ "java/lang/invoke/VarHandle" ∧ (parseMethodDescriptor y.desc).map (fun d => d.parameters.length) = some n) (hfr : fr + 1 ≤ R.frames) (hlo : 8 + (maxL + 11) + lo ≤ R.locals) (hn : As.length = n) (hsize : ls.size = nL) (hstack : st0 = As.reverse ++ .ref b :: rest) (hW : (rest.map fun v => v.category).sum ≤ 8) (hdg : decode cc pc = .ok (.invokevirtual index, 3))
    (hcs : cells ≤ R.cells ∧ slots ≤ R.slots) (isC isR isB : List Nat) (hP : va_P D cl_all ws H) (hD : va_D A ws) (hS : va_S A s.heap H locs) (hC : isC.map (fun i => ws[i]?) = wc.map some) (hR : isR.map (fun i => ws[i]?) = (isR.filterMap (fun i => ws[i]?)).map some)
    (hnd : va_nd isR = true ∧ va_nd isC = true ∧ va_nd isB = true ∧ ∀ i ∈ isR, i ∉ isC) (hB : isB.map (fun i => (isR.filterMap (fun i => ws[i]?) ++ wf z)[i]?) = wn.map some) (he : wc[0]? = some (b, .inr (ci, fs))) (hc : cl_all[ci]? = some (Cn, T, N))
    (kk : ∀ (H1 : Heap) (locs1 : List Loc), va_P D cl_all wn H1 → va_D A wn → va_S A s.heap H1 locs1 → W p l e R s m args below meth c H1 locs1 cells slots Q (F0 m (pc + 3) ls (.int (rf z) :: rest))) : W p l e R s m args below meth c H locs cells slots Q (F0 m pc ls st0) :=
  ly_j_i C hz isC isR isB hP hD hS hC hR hnd hB (fun hPc hDc => ly_runVN C (hM H.size) hcode hlk hini hst hsel hd hfr hlo hcs hPc hDc 0 he hc hn hsize hstack hW hdg) kk
theorem ly_j_l {rf : ρ → Int64} (C : ly_C p m c cc nL own s args A D K) (hz : z = res) (isC isR isB : List Nat) (hP : va_P D cl_all ws H) (hD : va_D A ws) (hS : va_S A s.heap H locs) (hC : isC.map (fun i => ws[i]?) = wc.map some) (hR : isR.map (fun i => ws[i]?) = (isR.filterMap (fun i => ws[i]?)).map some)
    (hnd : va_nd isR = true ∧ va_nd isC = true ∧ va_nd isB = true ∧ ∀ i ∈ isR, i ∉ isC) (hB : isB.map (fun i => (isR.filterMap (fun i => ws[i]?) ++ wf z)[i]?) = wn.map some)
    (run : va_P D cl_all wc H → va_D A wc → va_Run p l e R s m args below meth c H locs cells slots 0 0 (F0 m pc ls st0) rest (va_Ql (fun x (_ : Unit) => x = rf res) (ly_B D K (va_A wc H.size) (wf res)) (va_A wc H.size) a) (va_A wc H.size))
    (kk : ∀ (H1 : Heap) (locs1 : List Loc), va_P D cl_all wn H1 → va_D A wn → va_S A s.heap H1 locs1 → W p l e R s m args below meth c H1 locs1 cells slots Q (F0 m (pc + 3) ls (.long (rf z) :: rest))) : W p l e R s m args below meth c H locs cells slots Q (F0 m pc ls st0) := by
  subst hz
  have hFc := va_free (wc := wc) hD hS C.2.2.2.2.2.1 isC hC
  refine va_calll (run (hP.sub isC (ly_fm hC)) (hD.sub isC hnd.2.1 hC)) hS (fun q _ h => hFc q h) hFc (fun x u t H1 locs1 ht hvm hx hB1 hz hk hS1 => ?_)
  subst hx
  obtain ⟨hP1, -, hD1⟩ := hB1
  rw [ht] at hP1
  obtain ⟨hP2, hD2⟩ := va_join hP hD isC isR hC hR hnd.1 hnd.2.2.2 hk hFc hP1 hD1
  exact kk H1 locs1 (hP2.sub isB (ly_fm hB)) (hD2.sub isB hnd.2.2.1 hB) hS1
theorem ly_cS_l {rf : ρ → Int64} (C : ly_C p m c cc nL own s args A D K) (hM : ly_l l y bytes maxL ret fr lo D K As wc rf wf res) (hz : z = res) (hcode : Cond.code y bytes maxL ret ∈ wA) (hlk : Cond.methodLink own index y ∈ wA) (hini : Cond.initialized y.cls ∈ wA) (hst : Cond.static y ∈ wA)
    (hd : y.cls ≠ "java/lang/invoke/MethodHandle" ∧ y.cls ≠ "java/lang/invoke/VarHandle" ∧ (parseMethodDescriptor y.desc).map (fun d => d.parameters.length) = some n) (hfr : fr + 1 ≤ R.frames) (hlo : 8 + (maxL + 11) + lo ≤ R.locals) (hn : As.length = n) (hsize : ls.size = nL) (hstack : st0 = As.reverse ++ rest) (hW : (rest.map fun v => v.category).sum ≤ 8) (hdg : decode cc pc = .ok (.invokestatic index, 3))
    (hcs : cells ≤ R.cells ∧ slots ≤ R.slots) (isC isR isB : List Nat) (hP : va_P D cl_all ws H) (hD : va_D A ws) (hS : va_S A s.heap H locs) (hC : isC.map (fun i => ws[i]?) = wc.map some) (hR : isR.map (fun i => ws[i]?) = (isR.filterMap (fun i => ws[i]?)).map some)
    (hnd : va_nd isR = true ∧ va_nd isC = true ∧ va_nd isB = true ∧ ∀ i ∈ isR, i ∉ isC) (hB : isB.map (fun i => (isR.filterMap (fun i => ws[i]?) ++ wf z)[i]?) = wn.map some)
    (kk : ∀ (H1 : Heap) (locs1 : List Loc), va_P D cl_all wn H1 → va_D A wn → va_S A s.heap H1 locs1 → W p l e R s m args below meth c H1 locs1 cells slots Q (F0 m (pc + 3) ls (.long (rf z) :: rest))) : W p l e R s m args below meth c H locs cells slots Q (F0 m pc ls st0) :=
  ly_j_l C hz isC isR isB hP hD hS hC hR hnd hB (fun hPc hDc => ly_runS C (hM H.size) hcode hlk hini hst hd hfr hlo hcs hPc hDc hn hsize hstack hW hdg) kk
theorem ly_cSN_l {rf : ρ → Int64} (C : ly_C p m c cc nL own s args A D K) (hM : ly_l l y bytes maxL ret fr lo D K As wc rf wf res) (hz : z = res) (hcode : Cond.code y bytes maxL ret ∈ wA) (hlk : Cond.methodLinkNest own index y host ∈ nW) (hini : Cond.initialized y.cls ∈ wA) (hst : Cond.static y ∈ wA)
    (hd : y.cls ≠ "java/lang/invoke/MethodHandle" ∧ y.cls ≠ "java/lang/invoke/VarHandle" ∧ (parseMethodDescriptor y.desc).map (fun d => d.parameters.length) = some n) (hfr : fr + 1 ≤ R.frames) (hlo : 8 + (maxL + 11) + lo ≤ R.locals) (hn : As.length = n) (hsize : ls.size = nL) (hstack : st0 = As.reverse ++ rest) (hW : (rest.map fun v => v.category).sum ≤ 8) (hdg : decode cc pc = .ok (.invokestatic index, 3))
    (hcs : cells ≤ R.cells ∧ slots ≤ R.slots) (isC isR isB : List Nat) (hP : va_P D cl_all ws H) (hD : va_D A ws) (hS : va_S A s.heap H locs) (hC : isC.map (fun i => ws[i]?) = wc.map some) (hR : isR.map (fun i => ws[i]?) = (isR.filterMap (fun i => ws[i]?)).map some)
    (hnd : va_nd isR = true ∧ va_nd isC = true ∧ va_nd isB = true ∧ ∀ i ∈ isR, i ∉ isC) (hB : isB.map (fun i => (isR.filterMap (fun i => ws[i]?) ++ wf z)[i]?) = wn.map some)
    (kk : ∀ (H1 : Heap) (locs1 : List Loc), va_P D cl_all wn H1 → va_D A wn → va_S A s.heap H1 locs1 → W p l e R s m args below meth c H1 locs1 cells slots Q (F0 m (pc + 3) ls (.long (rf z) :: rest))) : W p l e R s m args below meth c H locs cells slots Q (F0 m pc ls st0) :=
  ly_j_l C hz isC isR isB hP hD hS hC hR hnd hB (fun hPc hDc => ly_runSN C (hM H.size) hcode hlk hini hst hd hfr hlo hcs hPc hDc hn hsize hstack hW hdg) kk
theorem ly_cV_l {rf : ρ → Int64} (C : ly_C p m c cc nL own s args A D K) (hM : ly_l l y bytes maxL ret fr lo D K (.ref b :: As) wc rf wf res) (hz : z = res) (hcode : Cond.code y bytes maxL ret ∈ wA) (hlk : Cond.methodLink own index y ∈ wA) (hini : Cond.initialized y.cls ∈ wA) (hst : Cond.instanceMethod y ∈ wA) (hsel : Cond.selects Cn y y ∈ wA)
    (hd : y.cls ≠ "java/lang/invoke/MethodHandle" ∧ y.cls ≠ "java/lang/invoke/VarHandle" ∧ (parseMethodDescriptor y.desc).map (fun d => d.parameters.length) = some n) (hfr : fr + 1 ≤ R.frames) (hlo : 8 + (maxL + 11) + lo ≤ R.locals) (hn : As.length = n) (hsize : ls.size = nL) (hstack : st0 = As.reverse ++ .ref b :: rest) (hW : (rest.map fun v => v.category).sum ≤ 8) (hdg : decode cc pc = .ok (.invokevirtual index, 3))
    (hcs : cells ≤ R.cells ∧ slots ≤ R.slots) (isC isR isB : List Nat) (hP : va_P D cl_all ws H) (hD : va_D A ws) (hS : va_S A s.heap H locs) (hC : isC.map (fun i => ws[i]?) = wc.map some) (hR : isR.map (fun i => ws[i]?) = (isR.filterMap (fun i => ws[i]?)).map some)
    (hnd : va_nd isR = true ∧ va_nd isC = true ∧ va_nd isB = true ∧ ∀ i ∈ isR, i ∉ isC) (hB : isB.map (fun i => (isR.filterMap (fun i => ws[i]?) ++ wf z)[i]?) = wn.map some) (he : wc[0]? = some (b, .inr (ci, fs))) (hc : cl_all[ci]? = some (Cn, T, N))
    (kk : ∀ (H1 : Heap) (locs1 : List Loc), va_P D cl_all wn H1 → va_D A wn → va_S A s.heap H1 locs1 → W p l e R s m args below meth c H1 locs1 cells slots Q (F0 m (pc + 3) ls (.long (rf z) :: rest))) : W p l e R s m args below meth c H locs cells slots Q (F0 m pc ls st0) :=
  ly_j_l C hz isC isR isB hP hD hS hC hR hnd hB (fun hPc hDc => ly_runV C (hM H.size) hcode hlk hini hst hsel hd hfr hlo hcs hPc hDc 0 he hc hn hsize hstack hW hdg) kk
theorem ly_cVN_l {rf : ρ → Int64} (C : ly_C p m c cc nL own s args A D K) (hM : ly_l l y bytes maxL ret fr lo D K (.ref b :: As) wc rf wf res) (hz : z = res) (hcode : Cond.code y bytes maxL ret ∈ wA) (hlk : Cond.methodLinkNest own index y host ∈ nW) (hini : Cond.initialized y.cls ∈ wA) (hst : Cond.instanceMethod y ∈ wA) (hsel : Cond.selects Cn y y ∈ wA)
    (hd : y.cls ≠ "java/lang/invoke/MethodHandle" ∧ y.cls ≠ "java/lang/invoke/VarHandle" ∧ (parseMethodDescriptor y.desc).map (fun d => d.parameters.length) = some n) (hfr : fr + 1 ≤ R.frames) (hlo : 8 + (maxL + 11) + lo ≤ R.locals) (hn : As.length = n) (hsize : ls.size = nL) (hstack : st0 = As.reverse ++ .ref b :: rest) (hW : (rest.map fun v => v.category).sum ≤ 8) (hdg : decode cc pc = .ok (.invokevirtual index, 3))
    (hcs : cells ≤ R.cells ∧ slots ≤ R.slots) (isC isR isB : List Nat) (hP : va_P D cl_all ws H) (hD : va_D A ws) (hS : va_S A s.heap H locs) (hC : isC.map (fun i => ws[i]?) = wc.map some) (hR : isR.map (fun i => ws[i]?) = (isR.filterMap (fun i => ws[i]?)).map some)
    (hnd : va_nd isR = true ∧ va_nd isC = true ∧ va_nd isB = true ∧ ∀ i ∈ isR, i ∉ isC) (hB : isB.map (fun i => (isR.filterMap (fun i => ws[i]?) ++ wf z)[i]?) = wn.map some) (he : wc[0]? = some (b, .inr (ci, fs))) (hc : cl_all[ci]? = some (Cn, T, N))
    (kk : ∀ (H1 : Heap) (locs1 : List Loc), va_P D cl_all wn H1 → va_D A wn → va_S A s.heap H1 locs1 → W p l e R s m args below meth c H1 locs1 cells slots Q (F0 m (pc + 3) ls (.long (rf z) :: rest))) : W p l e R s m args below meth c H locs cells slots Q (F0 m pc ls st0) :=
  ly_j_l C hz isC isR isB hP hD hS hC hR hnd hB (fun hPc hDc => ly_runVN C (hM H.size) hcode hlk hini hst hsel hd hfr hlo hcs hPc hDc 0 he hc hn hsize hstack hW hdg) kk
theorem ly_j_v (C : ly_C p m c cc nL own s args A D K) (hz : z = res) (isC isR isB : List Nat) (hP : va_P D cl_all ws H) (hD : va_D A ws) (hS : va_S A s.heap H locs) (hC : isC.map (fun i => ws[i]?) = wc.map some) (hR : isR.map (fun i => ws[i]?) = (isR.filterMap (fun i => ws[i]?)).map some)
    (hnd : va_nd isR = true ∧ va_nd isC = true ∧ va_nd isB = true ∧ ∀ i ∈ isR, i ∉ isC) (hB : isB.map (fun i => (isR.filterMap (fun i => ws[i]?) ++ wf z)[i]?) = wn.map some)
    (run : va_P D cl_all wc H → va_D A wc → va_Run p l e R s m args below meth c H locs cells slots 0 0 (F0 m pc ls st0) rest (va_Qv (fun (_ : Unit) => True) (ly_B D K (va_A wc H.size) (wf res)) (va_A wc H.size) a) (va_A wc H.size))
    (kk : ∀ (H1 : Heap) (locs1 : List Loc), va_P D cl_all wn H1 → va_D A wn → va_S A s.heap H1 locs1 → W p l e R s m args below meth c H1 locs1 cells slots Q (F0 m (pc + 3) ls rest)) : W p l e R s m args below meth c H locs cells slots Q (F0 m pc ls st0) := by
  subst hz
  have hFc := va_free (wc := wc) hD hS C.2.2.2.2.2.1 isC hC
  refine va_callv (run (hP.sub isC (ly_fm hC)) (hD.sub isC hnd.2.1 hC)) hS (fun q _ h => hFc q h) hFc (fun u t H1 locs1 ht hvm hx hB1 hz hk hS1 => ?_)
  obtain ⟨hP1, -, hD1⟩ := hB1
  rw [ht] at hP1
  obtain ⟨hP2, hD2⟩ := va_join hP hD isC isR hC hR hnd.1 hnd.2.2.2 hk hFc hP1 hD1
  exact kk H1 locs1 (hP2.sub isB (ly_fm hB)) (hD2.sub isB hnd.2.2.1 hB) hS1
theorem ly_cS_v (C : ly_C p m c cc nL own s args A D K) (hM : ly_v l y bytes maxL ret fr lo D K As wc wf res) (hz : z = res) (hcode : Cond.code y bytes maxL ret ∈ wA) (hlk : Cond.methodLink own index y ∈ wA) (hini : Cond.initialized y.cls ∈ wA) (hst : Cond.static y ∈ wA)
    (hd : y.cls ≠ "java/lang/invoke/MethodHandle" ∧ y.cls ≠ "java/lang/invoke/VarHandle" ∧ (parseMethodDescriptor y.desc).map (fun d => d.parameters.length) = some n) (hfr : fr + 1 ≤ R.frames) (hlo : 8 + (maxL + 11) + lo ≤ R.locals) (hn : As.length = n) (hsize : ls.size = nL) (hstack : st0 = As.reverse ++ rest) (hW : (rest.map fun v => v.category).sum ≤ 8) (hdg : decode cc pc = .ok (.invokestatic index, 3))
    (hcs : cells ≤ R.cells ∧ slots ≤ R.slots) (isC isR isB : List Nat) (hP : va_P D cl_all ws H) (hD : va_D A ws) (hS : va_S A s.heap H locs) (hC : isC.map (fun i => ws[i]?) = wc.map some) (hR : isR.map (fun i => ws[i]?) = (isR.filterMap (fun i => ws[i]?)).map some)
    (hnd : va_nd isR = true ∧ va_nd isC = true ∧ va_nd isB = true ∧ ∀ i ∈ isR, i ∉ isC) (hB : isB.map (fun i => (isR.filterMap (fun i => ws[i]?) ++ wf z)[i]?) = wn.map some)
    (kk : ∀ (H1 : Heap) (locs1 : List Loc), va_P D cl_all wn H1 → va_D A wn → va_S A s.heap H1 locs1 → W p l e R s m args below meth c H1 locs1 cells slots Q (F0 m (pc + 3) ls rest)) : W p l e R s m args below meth c H locs cells slots Q (F0 m pc ls st0) :=
  ly_j_v C hz isC isR isB hP hD hS hC hR hnd hB (fun hPc hDc => ly_runS C (hM H.size) hcode hlk hini hst hd hfr hlo hcs hPc hDc hn hsize hstack hW hdg) kk
theorem ly_cSN_v (C : ly_C p m c cc nL own s args A D K) (hM : ly_v l y bytes maxL ret fr lo D K As wc wf res) (hz : z = res) (hcode : Cond.code y bytes maxL ret ∈ wA) (hlk : Cond.methodLinkNest own index y host ∈ nW) (hini : Cond.initialized y.cls ∈ wA) (hst : Cond.static y ∈ wA)
    (hd : y.cls ≠ "java/lang/invoke/MethodHandle" ∧ y.cls ≠ "java/lang/invoke/VarHandle" ∧ (parseMethodDescriptor y.desc).map (fun d => d.parameters.length) = some n) (hfr : fr + 1 ≤ R.frames) (hlo : 8 + (maxL + 11) + lo ≤ R.locals) (hn : As.length = n) (hsize : ls.size = nL) (hstack : st0 = As.reverse ++ rest) (hW : (rest.map fun v => v.category).sum ≤ 8) (hdg : decode cc pc = .ok (.invokestatic index, 3))
    (hcs : cells ≤ R.cells ∧ slots ≤ R.slots) (isC isR isB : List Nat) (hP : va_P D cl_all ws H) (hD : va_D A ws) (hS : va_S A s.heap H locs) (hC : isC.map (fun i => ws[i]?) = wc.map some) (hR : isR.map (fun i => ws[i]?) = (isR.filterMap (fun i => ws[i]?)).map some)
    (hnd : va_nd isR = true ∧ va_nd isC = true ∧ va_nd isB = true ∧ ∀ i ∈ isR, i ∉ isC) (hB : isB.map (fun i => (isR.filterMap (fun i => ws[i]?) ++ wf z)[i]?) = wn.map some)
    (kk : ∀ (H1 : Heap) (locs1 : List Loc), va_P D cl_all wn H1 → va_D A wn → va_S A s.heap H1 locs1 → W p l e R s m args below meth c H1 locs1 cells slots Q (F0 m (pc + 3) ls rest)) : W p l e R s m args below meth c H locs cells slots Q (F0 m pc ls st0) :=
  ly_j_v C hz isC isR isB hP hD hS hC hR hnd hB (fun hPc hDc => ly_runSN C (hM H.size) hcode hlk hini hst hd hfr hlo hcs hPc hDc hn hsize hstack hW hdg) kk
theorem ly_cV_v (C : ly_C p m c cc nL own s args A D K) (hM : ly_v l y bytes maxL ret fr lo D K (.ref b :: As) wc wf res) (hz : z = res) (hcode : Cond.code y bytes maxL ret ∈ wA) (hlk : Cond.methodLink own index y ∈ wA) (hini : Cond.initialized y.cls ∈ wA) (hst : Cond.instanceMethod y ∈ wA) (hsel : Cond.selects Cn y y ∈ wA)
    (hd : y.cls ≠ "java/lang/invoke/MethodHandle" ∧ y.cls ≠ "java/lang/invoke/VarHandle" ∧ (parseMethodDescriptor y.desc).map (fun d => d.parameters.length) = some n) (hfr : fr + 1 ≤ R.frames) (hlo : 8 + (maxL + 11) + lo ≤ R.locals) (hn : As.length = n) (hsize : ls.size = nL) (hstack : st0 = As.reverse ++ .ref b :: rest) (hW : (rest.map fun v => v.category).sum ≤ 8) (hdg : decode cc pc = .ok (.invokevirtual index, 3))
    (hcs : cells ≤ R.cells ∧ slots ≤ R.slots) (isC isR isB : List Nat) (hP : va_P D cl_all ws H) (hD : va_D A ws) (hS : va_S A s.heap H locs) (hC : isC.map (fun i => ws[i]?) = wc.map some) (hR : isR.map (fun i => ws[i]?) = (isR.filterMap (fun i => ws[i]?)).map some)
    (hnd : va_nd isR = true ∧ va_nd isC = true ∧ va_nd isB = true ∧ ∀ i ∈ isR, i ∉ isC) (hB : isB.map (fun i => (isR.filterMap (fun i => ws[i]?) ++ wf z)[i]?) = wn.map some) (he : wc[0]? = some (b, .inr (ci, fs))) (hc : cl_all[ci]? = some (Cn, T, N))
    (kk : ∀ (H1 : Heap) (locs1 : List Loc), va_P D cl_all wn H1 → va_D A wn → va_S A s.heap H1 locs1 → W p l e R s m args below meth c H1 locs1 cells slots Q (F0 m (pc + 3) ls rest)) : W p l e R s m args below meth c H locs cells slots Q (F0 m pc ls st0) :=
  ly_j_v C hz isC isR isB hP hD hS hC hR hnd hB (fun hPc hDc => ly_runV C (hM H.size) hcode hlk hini hst hsel hd hfr hlo hcs hPc hDc 0 he hc hn hsize hstack hW hdg) kk
theorem ly_cVN_v (C : ly_C p m c cc nL own s args A D K) (hM : ly_v l y bytes maxL ret fr lo D K (.ref b :: As) wc wf res) (hz : z = res) (hcode : Cond.code y bytes maxL ret ∈ wA) (hlk : Cond.methodLinkNest own index y host ∈ nW) (hini : Cond.initialized y.cls ∈ wA) (hst : Cond.instanceMethod y ∈ wA) (hsel : Cond.selects Cn y y ∈ wA)
    (hd : y.cls ≠ "java/lang/invoke/MethodHandle" ∧ y.cls ≠ "java/lang/invoke/VarHandle" ∧ (parseMethodDescriptor y.desc).map (fun d => d.parameters.length) = some n) (hfr : fr + 1 ≤ R.frames) (hlo : 8 + (maxL + 11) + lo ≤ R.locals) (hn : As.length = n) (hsize : ls.size = nL) (hstack : st0 = As.reverse ++ .ref b :: rest) (hW : (rest.map fun v => v.category).sum ≤ 8) (hdg : decode cc pc = .ok (.invokevirtual index, 3))
    (hcs : cells ≤ R.cells ∧ slots ≤ R.slots) (isC isR isB : List Nat) (hP : va_P D cl_all ws H) (hD : va_D A ws) (hS : va_S A s.heap H locs) (hC : isC.map (fun i => ws[i]?) = wc.map some) (hR : isR.map (fun i => ws[i]?) = (isR.filterMap (fun i => ws[i]?)).map some)
    (hnd : va_nd isR = true ∧ va_nd isC = true ∧ va_nd isB = true ∧ ∀ i ∈ isR, i ∉ isC) (hB : isB.map (fun i => (isR.filterMap (fun i => ws[i]?) ++ wf z)[i]?) = wn.map some) (he : wc[0]? = some (b, .inr (ci, fs))) (hc : cl_all[ci]? = some (Cn, T, N))
    (kk : ∀ (H1 : Heap) (locs1 : List Loc), va_P D cl_all wn H1 → va_D A wn → va_S A s.heap H1 locs1 → W p l e R s m args below meth c H1 locs1 cells slots Q (F0 m (pc + 3) ls rest)) : W p l e R s m args below meth c H locs cells slots Q (F0 m pc ls st0) :=
  ly_j_v C hz isC isR isB hP hD hS hC hR hnd hB (fun hPc hDc => ly_runVN C (hM H.size) hcode hlk hini hst hsel hd hfr hlo hcs hPc hDc 0 he hc hn hsize hstack hW hdg) kk
/-- a constructor's contract: new cells at addresses u -/
theorem ly_cI {mc ms : Nat} {wfu wnf : (Nat → Nat) → va_W} (C : ly_C p m c cc nL own s args A D K) (hM : ly_n l y bytes maxL fr lo mc ms D K (.ref b :: As) wc wfu) (hcode : Cond.code y bytes maxL none ∈ wA) (hlk : Cond.methodLink own index y ∈ wA) (hini : Cond.initialized y.cls ∈ wA) (hst : Cond.instanceMethod y ∈ wA) (hy1 : y.name = "<init>")
    (hd : y.cls ≠ "java/lang/invoke/MethodHandle" ∧ y.cls ≠ "java/lang/invoke/VarHandle" ∧ (parseMethodDescriptor y.desc).map (fun d => d.parameters.length) = some n) (hfr : fr + 1 ≤ R.frames) (hlo : 8 + (maxL + 11) + lo ≤ R.locals) (hn : As.length = n) (hsize : ls.size = nL) (hstack : st0 = As.reverse ++ .ref b :: rest) (hW : (rest.map fun v => v.category).sum ≤ 8) (hdg : decode cc pc = .ok (.invokespecial index, 3))
    (hcs : cells + mc ≤ R.cells ∧ slots + ms ≤ R.slots) (isC isR isB : List Nat) (hP : va_P D cl_all ws H) (hD : va_D A ws) (hS : va_S A s.heap H locs) (hC : isC.map (fun i => ws[i]?) = wc.map some) (hR : isR.map (fun i => ws[i]?) = (isR.filterMap (fun i => ws[i]?)).map some)
    (hnd : va_nd isR = true ∧ va_nd isC = true ∧ va_nd isB = true ∧ ∀ i ∈ isR, i ∉ isC) (hB : ∀ u, isB.map (fun i => (isR.filterMap (fun i => ws[i]?) ++ wfu u)[i]?) = (wnf u).map some)
    (kk : ∀ (u : Nat → Nat) (H1 : Heap) (locs1 : List Loc), va_P D cl_all (wnf u) H1 → va_D A (wnf u) → va_S A s.heap H1 locs1 → W p l e R s m args below meth c H1 locs1 (cells + mc) (slots + ms) Q (F0 m (pc + 3) ls rest)) : W p l e R s m args below meth c H locs cells slots Q (F0 m pc ls st0) := by
  have hFc := va_free (wc := wc) hD hS C.2.2.2.2.2.1 isC hC
  have hPc := hP.sub isC (ly_fm hC)
  have hDc := hD.sub isC hnd.2.1 hC
  refine va_callv (va_runI (Ts := wA) ⟨C.1, C.2.1, C.2.2.1, C.2.2.2.1, C.2.2.2.2.1⟩ (hM H.size) (cwI n C.2.2.2.2.1 (ly_GI hcode) rfl rfl rfl (C.2.2.2.2.1 _ hini) (C.2.2.2.2.1 _ hlk) (C.2.2.2.2.1 _ hst) hy1 hd ⟨hfr, hlo⟩) (ly_preS C hPc hDc) rfl hn hsize hstack (lv_room hW) hdg hcs) hS (fun q _ h => hFc q h) hFc (fun u t H1 locs1 ht hvm hx hB1 hz hk hS1 => ?_)
  obtain ⟨hP1, -, hD1⟩ := hB1
  rw [ht] at hP1
  obtain ⟨hP2, hD2⟩ := va_join hP hD isC isR hC hR hnd.1 hnd.2.2.2 hk hFc hP1 hD1
  exact kk u H1 locs1 (hP2.sub isB (ly_fm (hB u))) (hD2.sub isB hnd.2.2.1 (hB u)) hS1
theorem ly_cIN {mc ms : Nat} {wfu wnf : (Nat → Nat) → va_W} (C : ly_C p m c cc nL own s args A D K) (hM : ly_n l y bytes maxL fr lo mc ms D K (.ref b :: As) wc wfu) (hcode : Cond.code y bytes maxL none ∈ wA) (hlk : Cond.methodLinkNest own index y host ∈ nW) (hini : Cond.initialized y.cls ∈ wA) (hst : Cond.instanceMethod y ∈ wA) (hy1 : y.name = "<init>")
    (hd : y.cls ≠ "java/lang/invoke/MethodHandle" ∧ y.cls ≠ "java/lang/invoke/VarHandle" ∧ (parseMethodDescriptor y.desc).map (fun d => d.parameters.length) = some n) (hfr : fr + 1 ≤ R.frames) (hlo : 8 + (maxL + 11) + lo ≤ R.locals) (hn : As.length = n) (hsize : ls.size = nL) (hstack : st0 = As.reverse ++ .ref b :: rest) (hW : (rest.map fun v => v.category).sum ≤ 8) (hdg : decode cc pc = .ok (.invokespecial index, 3))
    (hcs : cells + mc ≤ R.cells ∧ slots + ms ≤ R.slots) (isC isR isB : List Nat) (hP : va_P D cl_all ws H) (hD : va_D A ws) (hS : va_S A s.heap H locs) (hC : isC.map (fun i => ws[i]?) = wc.map some) (hR : isR.map (fun i => ws[i]?) = (isR.filterMap (fun i => ws[i]?)).map some)
    (hnd : va_nd isR = true ∧ va_nd isC = true ∧ va_nd isB = true ∧ ∀ i ∈ isR, i ∉ isC) (hB : ∀ u, isB.map (fun i => (isR.filterMap (fun i => ws[i]?) ++ wfu u)[i]?) = (wnf u).map some)
    (kk : ∀ (u : Nat → Nat) (H1 : Heap) (locs1 : List Loc), va_P D cl_all (wnf u) H1 → va_D A (wnf u) → va_S A s.heap H1 locs1 → W p l e R s m args below meth c H1 locs1 (cells + mc) (slots + ms) Q (F0 m (pc + 3) ls rest)) : W p l e R s m args below meth c H locs cells slots Q (F0 m pc ls st0) := by
  have hFc := va_free (wc := wc) hD hS C.2.2.2.2.2.1 isC hC
  have hPc := hP.sub isC (ly_fm hC)
  have hDc := hD.sub isC hnd.2.1 hC
  refine va_callv (va_runIN (Ts := wA) ⟨C.1, C.2.1, C.2.2.1, C.2.2.2.1, C.2.2.2.2.1⟩ (hM H.size) ⟨va_cnB n C.2.2.2.2.1 (ly_GI hcode) rfl rfl rfl (C.2.2.2.2.2.2.2.1 _ hlk) (C.2.2.2.2.1 _ hini) hd ⟨hfr, hlo⟩, hy1, C.2.2.2.2.1 _ hst⟩ (ly_preS C hPc hDc) rfl hn hsize hstack (lv_room hW) hdg hcs) hS (fun q _ h => hFc q h) hFc (fun u t H1 locs1 ht hvm hx hB1 hz hk hS1 => ?_)
  obtain ⟨hP1, -, hD1⟩ := hB1
  rw [ht] at hP1
  obtain ⟨hP2, hD2⟩ := va_join hP hD isC isR hC hR hnd.1 hnd.2.2.2 hk hFc hP1 hD1
  exact kk u H1 locs1 (hP2.sub isB (ly_fm (hB u))) (hD2.sub isB hnd.2.2.1 (hB u)) hS1
end LYW
/-! arrays, by a number that is their place -/
theorem ly_iald (C : ly_C p m c cc nL own s args A D K) (hP : va_P D cl_all ws H) (q0 : Nat) {ad n : Nat} {f : Nat → Int32} (ha : ws[q0]? = some (ad, .inl (K 1, n, .inl f))) {i : Int32} (j : Nat) (hi : i = nI j) (hj : j < n) (hn : n < 2 ^ 31) (hdg : decode cc pc = .ok (.iaload, 1))
    (kk : W p l e R s m args below meth c H locs cells slots Q (F0 m (pc + 1) ls (.int (f j) :: rest))) : W p l e R s m args below meth c H locs cells slots Q (F0 m pc ls (.int i :: .ref ad :: rest)) := by
  subst hi
  refine va_iald C.1 C.2.1 C.2.2.2.2.2.2.1 hP q0 1 ha rfl (vp_in_nI hj hn) hdg ?_
  rw [nI_clamp (Nat.lt_trans hj hn)]
  exact kk
theorem ly_zald (C : ly_C p m c cc nL own s args A D K) (hP : va_P D cl_all ws H) (q0 : Nat) {ad n : Nat} {f : Nat → Int32} (ha : ws[q0]? = some (ad, .inl (K 2, n, .inl f))) {i : Int32} (j : Nat) (hi : i = nI j) (hj : j < n) (hn : n < 2 ^ 31) (hdg : decode cc pc = .ok (.baload, 1))
    (kk : W p l e R s m args below meth c H locs cells slots Q (F0 m (pc + 1) ls (.int (f j) :: rest))) : W p l e R s m args below meth c H locs cells slots Q (F0 m pc ls (.int i :: .ref ad :: rest)) := by
  subst hi
  refine va_zald C.1 C.2.1 C.2.2.2.2.2.2.1 hP q0 2 ha rfl (vp_in_nI hj hn) hdg ?_
  rw [nI_clamp (Nat.lt_trans hj hn)]
  exact kk
theorem ly_lald (C : ly_C p m c cc nL own s args A D K) (hP : va_P D cl_all ws H) (q0 : Nat) {ad n : Nat} {f : Nat → Int64} (ha : ws[q0]? = some (ad, .inl (K 0, n, .inr (.inl f)))) {i : Int32} (j : Nat) (hi : i = nI j) (hj : j < n) (hn : n < 2 ^ 31) (hdg : decode cc pc = .ok (.laload, 1))
    (kk : W p l e R s m args below meth c H locs cells slots Q (F0 m (pc + 1) ls (.long (f j) :: rest))) : W p l e R s m args below meth c H locs cells slots Q (F0 m pc ls (.int i :: .ref ad :: rest)) := by
  subst hi
  refine va_lald C.1 C.2.1 C.2.2.2.2.2.2.1 hP q0 0 ha rfl (vp_in_nI hj hn) hdg ?_
  rw [nI_clamp (Nat.lt_trans hj hn)]
  exact kk
theorem ly_iast (C : ly_C p m c cc nL own s args A D K) (hP : va_P D cl_all ws H) (hD : va_D A ws) (hS : va_S A s.heap H locs) (q0 : Nat) {ad n : Nat} {f : Nat → Int32} (ha : ws[q0]? = some (ad, .inl (K 1, n, .inl f))) {i x : Int32} (j : Nat) (hi : i = nI j) (hj : j < n) (hn : n < 2 ^ 31) (hdg : decode cc pc = .ok (.iastore, 1)) (hw : ws.set q0 (ad, .inl (K 1, n, .inl (upd f j x))) = ws')
    (kk : ∀ (H1 : Heap) (locs1 : List Loc), va_P D cl_all ws' H1 → va_D A ws' → va_S A s.heap H1 locs1 → W p l e R s m args below meth c H1 locs1 cells slots Q (F0 m (pc + 1) ls rest)) : W p l e R s m args below meth c H locs cells slots Q (F0 m pc ls (.int x :: .int i :: .ref ad :: rest)) := by
  subst hi; subst hw
  have h := va_iast (p := p) (l := l) (e := e) (R := R) (s := s) (m := m) (args := args) (below := below) (meth := meth) (c := c) (cells := cells) (slots := slots) (Q := Q) (ls := ls) (rest := rest) (x := x) C.1 C.2.1 C.2.2.2.2.2.2.1 hP hD hS q0 1 ha rfl (vp_in_nI hj hn) hdg
  rw [nI_clamp (Nat.lt_trans hj hn)] at h
  exact h kk
theorem ly_zast (C : ly_C p m c cc nL own s args A D K) (hP : va_P D cl_all ws H) (hD : va_D A ws) (hS : va_S A s.heap H locs) (q0 : Nat) {ad n : Nat} {f : Nat → Int32} (ha : ws[q0]? = some (ad, .inl (K 2, n, .inl f))) {i x x' : Int32} (hx : vp_nar .boolean x = x') (j : Nat) (hi : i = nI j) (hj : j < n) (hn : n < 2 ^ 31) (hdg : decode cc pc = .ok (.bastore, 1)) (hw : ws.set q0 (ad, .inl (K 2, n, .inl (upd f j x'))) = ws')
    (kk : ∀ (H1 : Heap) (locs1 : List Loc), va_P D cl_all ws' H1 → va_D A ws' → va_S A s.heap H1 locs1 → W p l e R s m args below meth c H1 locs1 cells slots Q (F0 m (pc + 1) ls rest)) : W p l e R s m args below meth c H locs cells slots Q (F0 m pc ls (.int x :: .int i :: .ref ad :: rest)) := by
  subst hi; subst hx; subst hw
  have h := va_zast (p := p) (l := l) (e := e) (R := R) (s := s) (m := m) (args := args) (below := below) (meth := meth) (c := c) (cells := cells) (slots := slots) (Q := Q) (ls := ls) (rest := rest) (x := x) C.1 C.2.1 C.2.2.2.2.2.2.1 hP hD hS q0 2 ha rfl (vp_in_nI hj hn) hdg
  rw [nI_clamp (Nat.lt_trans hj hn)] at h
  exact h kk
theorem ly_last (C : ly_C p m c cc nL own s args A D K) (hP : va_P D cl_all ws H) (hD : va_D A ws) (hS : va_S A s.heap H locs) (q0 : Nat) {ad n : Nat} {f : Nat → Int64} (ha : ws[q0]? = some (ad, .inl (K 0, n, .inr (.inl f)))) {i : Int32} {x : Int64} (j : Nat) (hi : i = nI j) (hj : j < n) (hn : n < 2 ^ 31) (hdg : decode cc pc = .ok (.lastore, 1)) (hw : ws.set q0 (ad, .inl (K 0, n, .inr (.inl (vp_updL f j x)))) = ws')
    (kk : ∀ (H1 : Heap) (locs1 : List Loc), va_P D cl_all ws' H1 → va_D A ws' → va_S A s.heap H1 locs1 → W p l e R s m args below meth c H1 locs1 cells slots Q (F0 m (pc + 1) ls rest)) : W p l e R s m args below meth c H locs cells slots Q (F0 m pc ls (.long x :: .int i :: .ref ad :: rest)) := by
  subst hi; subst hw
  have h := va_last (p := p) (l := l) (e := e) (R := R) (s := s) (m := m) (args := args) (below := below) (meth := meth) (c := c) (cells := cells) (slots := slots) (Q := Q) (ls := ls) (rest := rest) (x := x) C.1 C.2.1 C.2.2.2.2.2.2.1 hP hD hS q0 0 ha rfl (vp_in_nI hj hn) hdg
  rw [nI_clamp (Nat.lt_trans hj hn)] at h
  exact h kk
end LYR
section LYG
variable {p : Program} {l : Launch} {e : Env} {R : Room} {s : State} {m : MethodId} {args : Array Value} {below : List Frame} {meth : Method} {c : Code} {H : Heap} {locs : List Loc} {cells slots : Nat} {Q : State → Prop}
variable {cc : ByteArray} {pc nL : Nat} {own : String} {ls : Array Slot} {D : va_G} {K : Nat → ClassId} {A : Nat → Prop} {ws ws' : va_W} {rest : List Value} {ad index : Nat} {Cn : String}
theorem ly_newq (C : ly_C p m c cc nL own s args A D K) (t0 : Nat) (ht : (tyA K)[t0]? = some (K t0, .object Cn)) (hlk : Cond.classLink own index Cn ∈ wA) (hao : Cn ∈ aO) (hP : va_P D cl_all ws H) (hD : va_D A ws) (hS : va_S A s.heap H locs)
    {n : Int32} (N' : Nat) (hn : n = nI N') (hN : N' < 2 ^ 24) (hcells : cells + 1 ≤ R.cells) (hslots : slots + N' ≤ R.slots) (hdg : decode cc pc = .ok (.anewarray index, 3))
    (kk : ∀ (q : Nat) (H1 : Heap), va_P D cl_all (ws ++ [(q, .inl (K t0, N', .inr (.inr (.inr (.inr (fun _ => none))))))]) H1 → va_D A (ws ++ [(q, .inl (K t0, N', .inr (.inr (.inr (.inr (fun _ => none))))))]) → va_S A s.heap H1 locs → W p l e R s m args below meth c H1 locs (cells + 1) (slots + N') Q (F0 m (pc + 3) ls (.ref q :: rest))) : W p l e R s m args below meth c H locs cells slots Q (F0 m pc ls (.int n :: rest)) := by
  subst hn
  have hK := C.2.2.2.2.2.2.1
  refine va_newq C.1 C.2.1 C.2.2.2.1 (C.2.2.2.2.1 _ hlk) (C.2.2.2.2.2.2.2.2 _ hao) hK hP hD hS C.2.2.2.2.2.1 (nI_pos (by omega)) (nI_clamp (by omega)) (by omega) hcells hslots hdg (fun q cA H1 hK1 hP1 hD1 hS1 => ?_)
  obtain ⟨_, _, _, _, _, h1⟩ := (hK1.2 (tyA K).length (cA, .object Cn) (by rw [List.getElem?_append_right (Nat.le_refl _), Nat.sub_self]; rfl)).2
  obtain ⟨_, _, _, _, _, h2⟩ := (hK.2 t0 (K t0, .object Cn) ht).2
  have h3 : cA = K t0 := Option.some.inj (h1.symm.trans h2)
  subst h3
  exact kk q H1 hP1 hD1 hS1
theorem ly_astq (C : ly_C p m c cc nL own s args A D K) (hP : va_P D cl_all ws H) (hD : va_D A ws) (hS : va_S A s.heap H locs) (q0 qk : Nat) {t0 ci n v : Nat} {r : vw_C} {vs : List Value} {f : Nat → Option Nat} (ht : (tyA K)[t0]? = some (K t0, .object r.1)) (ha : ws[q0]? = some (ad, .inl (K t0, n, .inr (.inr (.inr (.inr f)))))) (hv : ws[qk]? = some (v, .inr (ci, vs))) (hc : cl_all[ci]? = some r) {i : Int32} (j : Nat) (hi : i = nI j) (hj : j < n) (hn : n < 2 ^ 31) (hdg : decode cc pc = .ok (.aastore, 1)) (hw : ws.set q0 (ad, .inl (K t0, n, .inr (.inr (.inr (.inr (va_up f j (some v))))))) = ws')
    (kk : ∀ (H1 : Heap) (locs1 : List Loc), va_P D cl_all ws' H1 → va_D A ws' → va_S A s.heap H1 locs1 → W p l e R s m args below meth c H1 locs1 cells slots Q (F0 m (pc + 1) ls rest)) : W p l e R s m args below meth c H locs cells slots Q (F0 m pc ls (.ref v :: .int i :: .ref ad :: rest)) := by
  subst hi; subst hw
  have h := va_astq (p := p) (l := l) (e := e) (R := R) (s := s) (m := m) (args := args) (below := below) (meth := meth) (c := c) (cells := cells) (slots := slots) (Q := Q) (ls := ls) (rest := rest) C.1 C.2.1 C.2.2.2.2.2.2.1 hP hD hS q0 t0 qk ci ha ht hv hc (vp_in_nI hj hn) hdg
  rw [nI_clamp (Nat.lt_trans hj hn)] at h
  exact h kk
end LYG
theorem ly_inc (x : Int32) : x + Int32.ofInt 1 = x + 1 := rfl
theorem ly_incN (j : Nat) : nI j + Int32.ofInt 1 = nI (j + 1) := (nI_succ j).symm
theorem ly_decN (j : Nat) : nI j + Int32.ofInt (-1) = nI j - 1 := by
  rw [Int32.sub_eq_add_neg]; rfl
section LYF
variable {p : Program} {l : Launch} {e : Env} {R : Room} {s : State} {m : MethodId} {args : Array Value} {below : List Frame} {meth : Method} {c : Code} {H : Heap} {locs : List Loc} {cells slots : Nat} {Q : State → Prop}
variable {cc : ByteArray} {pc nL : Nat} {own : String} {ls : Array Slot} {D : va_G} {K : Nat → ClassId} {A : Nat → Prop} {ws ws' : va_W} {rest : List Value} {ad ci N index : Nat} {fs : List Value} {Cn host : String} {T : u_T} {v : Value} {ty0 : Nat → FieldType} {ty : FieldType}
theorem ly_get (C : ly_C p m c cc nL own s args A D K) (hP : va_P D cl_all ws H) (q0 : Nat) (he : ws[q0]? = some (ad, .inr (ci, fs))) (hin : ∀ w ∈ u_ws Cn T N, w ∈ wA) (hc : cl_all[ci]? = some (Cn, T, N)) (k : Nat) (hk : k < N) (hlk : Cond.fieldLink own index (T k).1 (T k).2.1 (T k).2.2.1 ∈ wA) (hv : fs[k]? = some v) (hdg : decode cc pc = .ok (.getfield index, 3))
    (kk : W p l e R s m args below meth c H locs cells slots Q (F0 m (pc + 3) ls (v :: rest))) : W p l e R s m args below meth c H locs cells slots Q (F0 m pc ls (.ref ad :: rest)) :=
  va_get C.1 C.2.1 C.2.2.2.2.1 hin C.2.2.2.1 C.2.2.2.2.2.2.1 hP q0 he hc k hk (C.2.2.2.2.1 _ hlk) (fun _ h => h) hv hdg kk
theorem ly_getN (C : ly_C p m c cc nL own s args A D K) (hP : va_P D cl_all ws H) (q0 : Nat) (he : ws[q0]? = some (ad, .inr (ci, fs))) (hin : ∀ w ∈ u_ws Cn T N, w ∈ wA) (hc : cl_all[ci]? = some (Cn, T, N)) (k : Nat) (hk : k < N) (hlk : Cond.fieldLinkNest own index (T k).1 (T k).2.1 (T k).2.2.1 host ∈ nW) (hv : fs[k]? = some v) (hdg : decode cc pc = .ok (.getfield index, 3))
    (kk : W p l e R s m args below meth c H locs cells slots Q (F0 m (pc + 3) ls (v :: rest))) : W p l e R s m args below meth c H locs cells slots Q (F0 m pc ls (.ref ad :: rest)) :=
  va_getN C.1 C.2.1 C.2.2.2.2.1 hin C.2.2.2.1 C.2.2.2.2.2.2.1 hP q0 he hc k hk (va_Nw.use rfl (C.2.2.2.2.2.2.2.1 _ hlk)) (fun _ h => h) hv hdg kk
theorem ly_put (C : ly_C p m c cc nL own s args A D K) (hP : va_P D cl_all ws H) (hD : va_D A ws) (hS : va_S A s.heap H locs) (q0 : Nat) (he : ws[q0]? = some (ad, .inr (ci, fs))) (hin : ∀ w ∈ u_ws Cn T N, w ∈ wA) (hty : ∀ k, k < N → parseFieldDescriptor (T k).2.2.1 = some (ty0 k)) (hnm : ∀ a, a < N → ∀ b, b < N → a ≠ b → (T a).2.1 ≠ (T b).2.1) (hc : cl_all[ci]? = some (Cn, T, N)) (k : Nat) (hk : k < N) (hlk : Cond.fieldLink own index (T k).1 (T k).2.1 (T k).2.2.1 ∈ wA)
    (hfin : (T k).2.2.2 = false) (hn : narrow (ty0 k) v = v) (hfit : fits (ty0 k) v = true) (hl : k < fs.length) (hdg : decode cc pc = .ok (.putfield index, 3)) (hw : ws.set q0 (ad, .inr (ci, fs.set k v)) = ws')
    (kk : ∀ (H1 : Heap) (locs1 : List Loc), va_P D cl_all ws' H1 → va_D A ws' → va_S A s.heap H1 locs1 → W p l e R s m args below meth c H1 locs1 cells slots Q (F0 m (pc + 3) ls rest)) : W p l e R s m args below meth c H locs cells slots Q (F0 m pc ls (v :: .ref ad :: rest)) := by
  subst hw
  exact va_put C.1 C.2.1 C.2.2.2.2.1 hin ty0 hty hnm C.2.2.2.1 C.2.2.2.2.2.2.1 hP hD hS q0 he hc k hk (C.2.2.2.2.1 _ hlk) (fun _ h => h) hfin (hty k hk) hn hfit hl hdg kk
theorem ly_putF (C : ly_C p m c cc nL own s args A D K) (hP : va_P D cl_all ws H) (hD : va_D A ws) (hS : va_S A s.heap H locs) (q0 : Nat) (he : ws[q0]? = some (ad, .inr (ci, fs))) (hin : ∀ w ∈ u_ws Cn T N, w ∈ wA) (hty : ∀ k, k < N → parseFieldDescriptor (T k).2.2.1 = some (ty0 k)) (hnm : ∀ a, a < N → ∀ b, b < N → a ≠ b → (T a).2.1 ≠ (T b).2.1) (hc : cl_all[ci]? = some (Cn, T, N)) (k : Nat) (hk : k < N) (hlk : Cond.fieldLink own index (T k).1 (T k).2.1 (T k).2.2.1 ∈ wA)
    (hfin : (T k).2.2.2 = true) (hin2 : meth.name = "<init>") (hdecl : (T k).1 = own) (hn : narrow (ty0 k) v = v) (hfit : fits (ty0 k) v = true) (hl : k < fs.length) (hdg : decode cc pc = .ok (.putfield index, 3)) (hw : ws.set q0 (ad, .inr (ci, fs.set k v)) = ws')
    (kk : ∀ (H1 : Heap) (locs1 : List Loc), va_P D cl_all ws' H1 → va_D A ws' → va_S A s.heap H1 locs1 → W p l e R s m args below meth c H1 locs1 cells slots Q (F0 m (pc + 3) ls rest)) : W p l e R s m args below meth c H locs cells slots Q (F0 m pc ls (v :: .ref ad :: rest)) := by
  subst hw
  exact va_putF C.1 C.2.1 C.2.2.2.2.1 hin ty0 hty hnm C.2.2.2.1 C.2.2.2.2.2.2.1 hP hD hS q0 he hc k hk (C.2.2.2.2.1 _ hlk) (fun _ h => h) hfin hin2 hdecl (hty k hk) hn hfit hl hdg kk
theorem ly_ldc2 {x : Int64} (C : ly_C p m c cc nL own s args A D K) (hlk : Cond.constantLong own index x ∈ wA) (hdg : decode cc pc = .ok (.ldc2_w index, 3))
    (kk : W p l e R s m args below meth c H locs cells slots Q (F0 m (pc + 3) ls (.long x :: rest))) : W p l e R s m args below meth c H locs cells slots Q (F0 m pc ls rest) :=
  lv_ldc2 C.1 C.2.1 C.2.2.2.1 (C.2.2.2.2.1 _ hlk) hdg kk
theorem ly_ldcw {x : Int32} (C : ly_C p m c cc nL own s args A D K) (hlk : Cond.constant own index x ∈ wA) (hdg : decode cc pc = .ok (.ldc_w index, 3))
    (kk : W p l e R s m args below meth c H locs cells slots Q (F0 m (pc + 3) ls (.int x :: rest))) : W p l e R s m args below meth c H locs cells slots Q (F0 m pc ls rest) :=
  lv_ldcw C.1 C.2.1 C.2.2.2.1 (C.2.2.2.2.1 _ hlk) hdg kk
theorem ly_aldq (C : ly_C p m c cc nL own s args A D K) (hP : va_P D cl_all ws H) (q0 : Nat) {n t0 b : Nat} {f : Nat → Option Nat} {Cq : String} (ht : (tyA K)[t0]? = some (K t0, .object Cq)) (ha : ws[q0]? = some (ad, .inl (K t0, n, .inr (.inr (.inr (.inr f)))))) {i : Int32} (j : Nat) (hi : i = nI j) (hj : j < n) (hn : n < 2 ^ 31) (hf : f j = some b) (hdg : decode cc pc = .ok (.aaload, 1))
    (kk : W p l e R s m args below meth c H locs cells slots Q (F0 m (pc + 1) ls (.ref b :: rest))) : W p l e R s m args below meth c H locs cells slots Q (F0 m pc ls (.int i :: .ref ad :: rest)) := by
  subst hi
  refine va_aldq C.1 C.2.1 C.2.2.2.2.2.2.1 hP q0 t0 ha ht (vp_in_nI hj hn) hdg ?_
  rw [nI_clamp (Nat.lt_trans hj hn), hf]
  exact kk
theorem ly_new (C : ly_C p m c cc nL own s args A D K) (hin : ∀ w ∈ u_ws Cn T N, w ∈ wA) (hty : ∀ k, k < N → parseFieldDescriptor (T k).2.2.1 = some (ty0 k)) (hlk : Cond.classLink own index Cn ∈ wA) (hinst : Cond.instantiable Cn N ∈ wA) (hini : Cond.initialized Cn ∈ wA) (hP : va_P D cl_all ws H) (hD : va_D A ws) (hS : va_S A s.heap H locs) (hc : cl_all[ci]? = some (Cn, T, N)) (hfs : ∀ j, j < N → defaultValue (ty0 j) = vp_V fs j) (hcells : cells + 1 ≤ R.cells) (hslots : slots + N ≤ R.slots) (hdg : decode cc pc = .ok (.new index, 3))
    (kk : ∀ (q : Nat) (H1 : Heap), va_P D cl_all (ws ++ [(q, .inr (ci, fs))]) H1 → va_D A (ws ++ [(q, .inr (ci, fs))]) → va_S A s.heap H1 locs → W p l e R s m args below meth c H1 locs (cells + 1) (slots + N) Q (F0 m (pc + 3) ls (.ref q :: rest))) : W p l e R s m args below meth c H locs cells slots Q (F0 m pc ls rest) :=
  va_new C.1 C.2.1 C.2.2.2.2.1 hin ty0 hty C.2.2.2.1 (C.2.2.2.2.1 _ hlk) (C.2.2.2.2.1 _ hinst) (C.2.2.2.2.1 _ hini) C.2.2.2.2.2.2.1 hP hD hS C.2.2.2.2.2.1 hc hfs hcells hslots hdg kk
theorem ly_newa (C : ly_C p m c cc nL own s args A D K) {at0 : ArrayType} (t0 : Nat) (hty : newarray.typeOf at0 = ty) (ht : (tyA K)[t0]? = some (K t0, ty)) (hprim : ∀ (cA : ClassId), va_RA s cA ty → s.vm.findClass ("[" ++ ty.toString) = some cA) (harr : Cond.arrayClass ty ∈ wA) (hP : va_P D cl_all ws H) (hD : va_D A ws) (hS : va_S A s.heap H locs)
    {n : Int32} (N' : Nat) {a0 : vp_A} (ha : ∀ cA : ClassId, vp_cell cA a0 = arrV cA N' (fun _ => defaultValue ty)) (hn : n = nI N') (hN : N' < 2 ^ 24) (hb8 : componentBytes ty ≤ 8) (hcells : cells + 1 ≤ R.cells) (hslots : slots + N' ≤ R.slots) (hdg : decode cc pc = .ok (.newarray at0, 2))
    (kk : ∀ (q : Nat) (H1 : Heap), va_P D cl_all (ws ++ [(q, .inl (K t0, a0))]) H1 → va_D A (ws ++ [(q, .inl (K t0, a0))]) → va_S A s.heap H1 locs → W p l e R s m args below meth c H1 locs (cells + 1) (slots + N') Q (F0 m (pc + 2) ls (.ref q :: rest))) : W p l e R s m args below meth c H locs cells slots Q (F0 m pc ls (.int n :: rest)) := by
  subst hn
  have hK := C.2.2.2.2.2.2.1
  refine va_newa C.1 C.2.1 (atype := at0) (by rw [hty]; exact C.2.2.2.2.1 _ harr) hty hK hP hD hS C.2.2.2.2.2.1 ha (nI_pos (by omega)) (nI_clamp (by omega)) (Nat.le_trans (Nat.mul_le_mul (Nat.le_of_lt hN) hb8) (by decide)) hcells hslots hdg (fun q cA H1 hK1 hP1 hD1 hS1 => ?_)
  have h1 := hprim _ (hK1.2 (tyA K).length (cA, ty) (by rw [List.getElem?_append_right (Nat.le_refl _), Nat.sub_self]; rfl)).2
  have h2 := hprim _ (hK.2 t0 (K t0, ty) ht).2
  have h3 : cA = K t0 := Option.some.inj (h1.symm.trans h2)
  subst h3
  exact kk q H1 hP1 hD1 hS1
end LYF
/-! a contract over the same cells in another order -/
theorem ly_mono {l : Launch} {y : MethodName} {wd : List Cond} {rm : Room} {Pc Pc' : Array Value → State → Prop} {Qc Qc' : Array Value → State → Outcome → State → Prop} {mc ms : Nat} {fr fr' : Addr → Prop} (h : Met l y wd rm Pc Qc mc ms fr) (hP : ∀ a s, Pc' a s → Pc a s) (hQ : ∀ a s o t, Qc a s o t → Qc' a s o t) (hf : ∀ q, fr q → fr' q) : Met l y wd rm Pc' Qc' mc ms fr' := by
  intro p e h1 h2 h3 s m args below h4 h5 h6 h7
  obtain ⟨n, o, a1, a2, a3, q, L, b1, b2⟩ := h p e h1 h2 h3 s m args below h4 h5 (hP _ _ h6) h7
  exact ⟨n, o, a1, a2, a3, hQ _ _ _ _ q, L, b1, fun q hq => hf _ (b2 q hq)⟩
theorem ly_mapAt {ws w : va_W} {is : List Nat} (hs : is.map (fun i => ws[i]?) = w.map some) (k : Nat) (q : Nat × va_E) (hq : w[k]? = some q) : ∃ i, is[k]? = some i ∧ ws[i]? = some q := by
  have h1 : (is.map (fun i => ws[i]?))[k]? = some (some q) := by rw [hs, List.getElem?_map, hq]; rfl
  rw [List.getElem?_map] at h1
  cases hi : is[k]? with
  | none => rw [hi] at h1; cases h1
  | some i => rw [hi] at h1; exact ⟨i, rfl, Option.some.inj h1⟩
theorem ly_permA {ws w : va_W} {is : List Nat} (hs : is.map (fun i => ws[i]?) = w.map some) (hc : ∀ k, k < ws.length → k ∈ is) (sz q : Nat) : va_A w sz q ↔ va_A ws sz q := by
  constructor
  · rintro (⟨k, e, h⟩ | h)
    · obtain ⟨i, -, h2⟩ := ly_mapAt hs k (q, e) h
      exact Or.inl ⟨i, e, h2⟩
    · exact Or.inr h
  · rintro (⟨k, e, h⟩ | h)
    · obtain ⟨i, hi⟩ := List.getElem?_of_mem (hc k (List.getElem?_eq_some_iff.mp h).1)
      have h1 : (is.map (fun i => ws[i]?))[i]? = some (ws[k]?) := by rw [List.getElem?_map, hi]; rfl
      rw [hs, List.getElem?_map, h] at h1
      cases hw : w[i]? with
      | none => rw [hw] at h1; cases h1
      | some x =>
        rw [hw] at h1
        have hx : x = (q, e) := Option.some.inj (Option.some.inj h1)
        exact Or.inl ⟨i, e, by rw [hw, hx]⟩
    · exact Or.inr h
theorem ly_permD {ws : va_W} {A B : Nat → Prop} (h : ∀ q, A q ↔ B q) (hD : va_D A ws) : va_D B ws := ⟨hD.1, fun k q hk => (h q.1).mp (hD.2 k q hk)⟩
theorem ly_permF {A B : Nat → Prop} (h : ∀ q, A q ↔ B q) {st t : State} (hF : va_F A st t) : va_F B st t := ⟨hF.1, fun q h1 h2 => hF.2 q h1 (fun z => h2 ((h q).mp z))⟩
section LYP
variable {ρ σ : Type} {l : Launch} {y : MethodName} {cc : ByteArray} {maxL : Nat} {ret : Option FieldType} {fr lo : Nat} {D : va_G} {K : Nat → ClassId} {args : List Value} {ws ws2 : va_W} {wf : ρ → va_W} {wf2 : σ → va_W} {res : ρ} {res2 : σ}
theorem ly_permP (is : List Nat) (h1 : is.map (fun i => ws2[i]?) = ws.map some) (hn : va_nd is = true) (sz : Nat) (a : Array Value) (s : State) (h : ly_pre D K args ws2 sz a s) : ly_pre D K args ws sz a s := by
  obtain ⟨q0, q1, qP, qK, qD, qN⟩ := h
  exact ⟨q0, q1, qP.sub is (ly_fm h1), qK, qD.sub is hn h1, qN⟩
theorem ly_perm_i {rf : ρ → Int32} {rf2 : σ → Int32} (h : ly_i l y cc maxL ret fr lo D K args ws rf wf res) (is js : List Nat) (h1 : is.map (fun i => ws2[i]?) = ws.map some) (h2 : js.map (fun i => (wf res)[i]?) = (wf2 res2).map some) (hr : rf res = rf2 res2) (hc : va_nd is = true ∧ va_nd js = true) (hcov : ∀ k, k < ws2.length → k ∈ is) : ly_i l y cc maxL ret fr lo D K args ws2 rf2 wf2 res2 := by
  intro sz
  have hA := ly_permA h1 hcov sz
  refine ly_mono (h sz) (ly_permP is h1 hc.1 sz) ?_ (fun q hq => (hA q).mp hq)
  rintro a s o t ⟨⟨r, u, ho, hp, hB⟩, hF⟩
  exact ⟨⟨r, u, ho, hp.trans hr, hB.1.sub js (ly_fm h2), hB.2.1, (ly_permD hA hB.2.2).sub js hc.2 h2⟩, ly_permF hA hF⟩
theorem ly_perm_l {rf : ρ → Int64} {rf2 : σ → Int64} (h : ly_l l y cc maxL ret fr lo D K args ws rf wf res) (is js : List Nat) (h1 : is.map (fun i => ws2[i]?) = ws.map some) (h2 : js.map (fun i => (wf res)[i]?) = (wf2 res2).map some) (hr : rf res = rf2 res2) (hc : va_nd is = true ∧ va_nd js = true) (hcov : ∀ k, k < ws2.length → k ∈ is) : ly_l l y cc maxL ret fr lo D K args ws2 rf2 wf2 res2 := by
  intro sz
  have hA := ly_permA h1 hcov sz
  refine ly_mono (h sz) (ly_permP is h1 hc.1 sz) ?_ (fun q hq => (hA q).mp hq)
  rintro a s o t ⟨⟨r, u, ho, hp, hB⟩, hF⟩
  exact ⟨⟨r, u, ho, hp.trans hr, hB.1.sub js (ly_fm h2), hB.2.1, (ly_permD hA hB.2.2).sub js hc.2 h2⟩, ly_permF hA hF⟩
end LYP
