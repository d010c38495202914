/-! the law: its script, its helper, what it stands on -/
section LLS
variable {p : Program} {l : Launch} {e : Env} {R : Room} {s : State} {m : MethodId} {args : Array Value} {below : List Frame} {meth : Method} {c : Code} {H : Heap} {locs : List Loc} {cells slots : Nat} {Q : State → Prop}
variable {cc : ByteArray} {pc nL : Nat} {own : String} {ls : Array Slot} {D : va_G} {K : Nat → ClassId} {A : Nat → Prop} {ws : va_W} {rest : List Value}
theorem ly_sld (hx : p.tables.exec = Jvm.exec) (hb : c.code = cc) {b L : Nat} {xs : Nat → Int32} (hX : va_X b L xs s s.heap) (hbl : b < s.heap.size) (hbA : ¬ A b) (hS : va_S A s.heap H locs) (j : Nat) (hj : j < L) (hL : L < 2 ^ 31) (hdg : decode cc pc = .ok (.iaload, 1))
    (kk : W p l e R s m args below meth c H locs cells slots Q (F0 m (pc + 1) ls (.int (xs j) :: rest))) : W p l e R s m args below meth c H locs cells slots Q (F0 m pc ls (.int (nI j) :: .ref b :: rest)) := by
  refine va_sld hx hb hX hbl hbA hS (vp_in_nI hj hL) hdg ?_
  rw [nI_clamp (Nat.lt_trans hj hL)]
  exact kk
end LLS
theorem ly_lt5 {L j : Nat} (hL : L < 2 ^ 30) (hj : j < 2 ^ 30) : (Int32.ofNat L - 5 < nI j) ↔ L < j + 5 := by
  have h1 : (nI L - nI 5).toInt = (L : Int) - (5 : Nat) := pk_sub_toInt hL (by decide)
  have h2 : (nI j).toInt = (j : Int) := nI_toInt (by omega)
  show (nI L - nI 5 < nI j) ↔ _
  rw [Int32.lt_iff_toInt_lt, h1, h2]
  omega
theorem ly_inc5 (j : Nat) : nI j + Int32.ofInt 5 = nI (j + 5) := nI_add j 5
def lc_v (L : Nat) (xs : Nat → Int32) : Int32 := if Int32.ofNat L ≤ 0 then 0 else xs 0
def lc_pre (b L : Nat) (xs : Nat → Int32) (sz : Nat) : Array Value → State → Prop := va_Pc [.ref b, .int 0] (fun U => U.heap.size = sz ∧ va_X b L xs U U.heap ∧ b < U.heap.size)
set_option maxRecDepth 20000 in
theorem lc_cell (l : Launch) (b L : Nat) (xs : Nat → Int32) (hL : L ≤ 2561) (sz : Nat) : Met l yy_La_cell (Cond.code yy_La_cell bb_La_cell 2 (some .int) :: wA) (ly_rm 0 0 0 0) (lc_pre b L xs sz) (va_Qi (fun x (_ : Unit) => x = lc_v L xs) (fun _ _ => True) (va_A [] sz)) 0 0 (va_A [] sz) := by
  refine Met.ofW (cc := bb_La_cell) (maxL := 2) (ret := some .int) (by decide) rfl ?_
  intro p e s m args' below meth c s₁ B hml hv
  obtain ⟨rfl, hsz, hX, hbl⟩ := hv
  subst hsz
  have hx := B.exec
  have hb := B.bytes
  have hr := B.returns
  have hlk := B.notSynchronized
  have hl := lv_entry [Value.ref b, Value.int 0] (n := 2) (Nat.le_of_ble_eq_true rfl)
  rw [lg_entry_eq]
  generalize (lg_sl [Value.ref b, Value.int 0] ++ List.replicate (2 - (lg_sl [Value.ref b, Value.int 0]).length) Slot.unset).toArray = ls at hl ⊢
  have hl : lv_has ls 2 [(0, .ref b), (1, .int 0)] := hl
  have hbA : ¬ va_A [] s.heap.size b := by
    rintro (⟨k, e, h⟩ | h)
    · simp at h
    · omega
  have hS : va_S (va_A [] s.heap.size) s.heap s.heap [] := va_S.rf
  refine lv_iload_n hx hb dd_La_cell_0 rfl (lv_at hl 1 rfl) ?_
  refine lv_aload_n hx hb dd_La_cell_1 rfl (lv_at hl 0 rfl) ?_
  refine va_slen hx hb hX hbl hbA hS dd_La_cell_2 ?_
  refine lv_icmp_ge (tgt := 12) hx hb dd_La_cell_3 (by decide) (fun h => ?_) (fun h => ?_)
  · refine lv_iconst (v := (0 : Int32)) hx hb dd_La_cell_12 (by decide) ?_
    exact W.iret (v := 0) hx hb hr (fun t ht hW => ⟨⟨0, (), rfl, by show (0 : Int32) = lc_v L xs; unfold lc_v; rw [if_pos h], trivial⟩, hS.F ht⟩) hS.2.2 dd_La_cell_13 (hlocks := hlk)
  · have h0 : 0 < L := Nat.pos_of_ne_zero (fun h1 => h (by rw [h1]; decide))
    refine lv_aload_n hx hb dd_La_cell_6 rfl (lv_at hl 0 rfl) ?_
    refine lv_iload_n hx hb dd_La_cell_7 rfl (lv_at hl 1 rfl) ?_
    refine ly_sld hx hb hX hbl hbA hS 0 h0 (by omega) dd_La_cell_8 ?_
    refine lv_goto (tgt := 13) hx hb dd_La_cell_9 (by decide) ?_
    exact W.iret (v := xs 0) hx hb hr (fun t ht hW => ⟨⟨xs 0, (), rfl, by show xs 0 = lc_v L xs; unfold lc_v; rw [if_neg h], trivial⟩, hS.F ht⟩) hS.2.2 dd_La_cell_13 (hlocks := hlk)
section LLC
variable {p : Program} {l : Launch} {e : Env} {R : Room} {s : State} {m : MethodId} {below : List Frame} {meth : Method} {c : Code} {H : Heap} {locs : List Loc} {cells slots : Nat} {Q : State → Prop}
variable {pc : Nat} {ls : Array Slot} {D : va_G} {K : Nat → ClassId} {A : Nat → Prop} {ws : va_W} {rest : List Value} {b L : Nat} {xs : Nat → Int32}
theorem lc_blind {sz : Nat} : FrameBlind (lc_pre b L xs sz) := by
  intro a U g mk q
  obtain ⟨q0, q1, qX, qb⟩ := q
  exact ⟨q0, q1, va_X.moved (u := U) (U := U.calling g mk a) (Vm.Alike.refl U.vm) qX, qb⟩
theorem lc_call {args : Array Value} (C : ly_C p m c code 4 "RepairGroupsLaw" s args A D K) (hL : L ≤ 2561) (hX : va_X b L xs s s.heap) (hbl : b < s.heap.size) (hbA : ¬ A b) (hP : va_P D cl_all ws H) (hS : va_S A s.heap H locs) (hfr : 1 ≤ R.frames) (hlo : 21 ≤ R.locals) (hsize : ls.size = 4) (hW : (rest.map fun v => v.category).sum ≤ 8) (hcs : cells ≤ R.cells ∧ slots ≤ R.slots)
    (hlk : Cond.methodLink "RepairGroupsLaw" 9 yy_La_cell ∈ wA) (hcode : Cond.code yy_La_cell bb_La_cell 2 (some .int) ∈ wA) (hini : Cond.initialized "RepairGroupsLaw" ∈ wA) (hst : Cond.static yy_La_cell ∈ wA) (hdg : decode code pc = .ok (.invokestatic 9, 3))
    (kk : ∀ (H1 : Heap) (locs1 : List Loc), va_P D cl_all ws H1 → va_S A s.heap H1 locs1 → W p l e R s m args below meth c H1 locs1 cells slots Q (F0 m (pc + 3) ls (.int (lc_v L xs) :: rest))) : W p l e R s m args below meth c H locs cells slots Q (F0 m pc ls (.int 0 :: .ref b :: rest)) := by
  have hFc : ∀ q, va_A [] H.size q → A q := by
    rintro q (⟨k, e, h⟩ | h)
    · simp at h
    · exact C.2.2.2.2.2.1 q (Nat.le_trans hS.1 h)
  have hXH : va_X b L xs s H := hX.kept (hS.2.1 b hbl hbA)
  refine va_calli (va_runS (Ts := wA) (As := [.ref b, .int 0]) (rest := rest) ⟨C.1, C.2.1, C.2.2.1, C.2.2.2.1, C.2.2.2.2.1⟩ (lc_cell l b L xs hL H.size) ⟨callB_of 2 C.2.2.2.2.1 (ly_GI hcode) rfl rfl rfl (C.2.2.2.2.1 _ hini) (C.2.2.2.2.1 _ hlk) (by decide) ⟨hfr, hlo⟩, C.2.2.2.2.1 _ hst⟩
    ⟨lc_blind, fun U hU hW1 => ⟨rfl, by rw [hU], by rw [hU]; exact va_X.moved hW1.alike hXH, by rw [hU]; exact Nat.lt_of_lt_of_le hbl hS.1⟩⟩ rfl rfl hsize rfl (lv_room hW) hdg hcs) hS (fun q _ h => hFc q h) hFc (fun x u t H1 locs1 ht hvm hx hB hz hk hS1 => ?_)
  subst hx
  refine kk H1 locs1 (hP.kept (fun k q hq => hk q.1 ((hP k q hq).lt) ?_)) hS1
  rintro (⟨k', e', h⟩ | h)
  · simp at h
  · exact absurd ((hP k q hq).lt) (Nat.not_lt.mpr h)
end LLC
/-! THE CLAIM OUT OF ONE WALK OF THE LAW'S BODY. Your part is whole_start (and what it stands on); all else here is the same for every law, but numbers. -/
def R_law : String := "RepairGroupsLaw"
def lw_P (b : Addr) (xs : List Int32) (args : Array Value) (s : State) : Prop := args = #[.ref b] ∧ s.IntsAt b xs ∧ xs.length ≤ 2561 ∧ (Jvm.Cond.and given_1 narrow_1).before args s = true
def lw_Q (_ : Array Value) (s : State) (o : Outcome) (t : State) : Prop := o = .returned (some (.int 1)) ∧ Framed s o t [] 600000 7302250
def lw_Z (below : List Frame) (a : Array Value) (s : State) : State → Prop := fun t => ∃ o, t.status = .running ∧ Ended t below o ∧ lw_Q a s o t
/-- the law's own end, with 1 on the stack, nothing written that was there before, its room as the claim has it -/
theorem lw_ret {p : Program} {l : Launch} {e : Env} {s : State} {m : MethodId} {below : List Frame} {meth : Method} {c : Code} {b : Nat} (hx : p.tables.exec = Jvm.exec) (hb : c.code = code) (hr : meth.sig.returnType = ret) (hlocks : meth.locks = false) {pc : Nat} {H : Heap} {ls : Array Slot} (hdg : decode code pc = .ok (.ireturn, 1)) : W p l e room_1 s m #[Value.ref b] below meth c H [] 600000 7302250 (lw_Z below #[Value.ref b] s) (F0 m pc ls [.int 1]) := by
  intro T hT X
  obtain ⟨fs, hret, hrun, hended, hW, hframe⟩ := X.leave (v := some (.int 1)) (hlocks := hlocks) (fun h => by rw [hr] at h; cases h)
  have hmeth' : T.vm.method? m = some meth := X.method'
  refine ⟨T.setFrames fs, ?_, .returned (some (.int 1)), hrun, hended, rfl, ⟨_, rfl⟩, hW, hframe⟩
  jvm_step X.here [X.here.top, hx, hb, hdg, hmeth', hr, ret, narrow_b1]
  (try refine ⟨rfl, ?_⟩); (try refine ⟨rfl, ?_⟩)
  first | (intro acts; rw [hret _ acts rfl rfl rfl]) | rw [hret _ _ rfl rfl rfl]
  exact Steps.refl _
/-- what holds at the law's entry: the machine, the code, the tables' words (any of lw_tbl by 'hts w (by decide +kernel)'), the script of L ints xs at the cell b, what the Statement gives of the start (any of its parts by flat_of_before) -/
def lw_At (p : Program) (s : State) (m : MethodId) (meth : Method) (c : Code) (b L : Nat) (xs : Nat → Int32) : Prop :=
  p.tables.exec = Jvm.exec ∧ c.code = code ∧ meth.sig.returnType = ret ∧ c.maxLocals = 4 ∧ s.vm.findClass R_law = some m.cls ∧ (∀ w ∈ lw_tbl, w.before #[Value.ref b] s = true) ∧ va_X b L xs s s.heap ∧ b < s.heap.size ∧ meth.locks = false ∧ (Jvm.Cond.and given_1 narrow_1).before #[Value.ref b] s = true
theorem lw_start {p : Program} {s : State} {m : MethodId} {meth : Method} {c : Code} {b L : Nat} {xs : Nat → Int32} (C0 : lw_At p s m meth c b L xs) : ∃ (D : va_G) (K : Nat → ClassId), ly_C p m c code 4 "RepairGroupsLaw" s #[Value.ref b] (fun q => s.heap.size ≤ q) D K := by
  obtain ⟨hx, hb, hr, hml, hown, hts, hX, hbl, hlocks, hgv⟩ := C0
  have ht : ∀ w ∈ wA, w.before #[Value.ref b] s = true := fun w hw => hts w (wA_tbl w hw)
  obtain ⟨c0, i0, k0⟩ := u_known ht uw_RG (ht _ wa_375)
  obtain ⟨c1, i1, k1⟩ := u_known ht uw_Co (ht _ wa_40)
  obtain ⟨c2, i2, k2⟩ := u_known ht uw_Sp (ht _ wa_46)
  obtain ⟨c3, i3, k3⟩ := u_known ht uw_Sq (ht _ wa_52)
  obtain ⟨c4, i4, k4⟩ := u_known ht uw_Mo (ht _ wa_382)
  obtain ⟨aJ, bJ, dJ, fJ, gJ, hJ⟩ := Cond.arrayClass_spec (ht _ wa_208)
  obtain ⟨aI, bI, dI, fI, gI, hI⟩ := Cond.arrayClass_spec (ht _ wa_58)
  obtain ⟨aZ, bZ, dZ, fZ, gZ, hZ⟩ := Cond.arrayClass_spec (ht _ wa_56)
  have hao : va_AO "RepairGroups$Stripe" s := va_AO.of (hts _ aO_tbl)
  obtain ⟨dS, aS, bS, p1, p2, p3, p4, p5⟩ := Cond.arrayOver_spec hao
  refine ⟨(fun c => match c with | 0 => c0 | 1 => c1 | 2 => c2 | 3 => c3 | _ => c4, fun c => match c with | 0 => i0 | 1 => i1 | 2 => i2 | 3 => i3 | _ => i4), fun t => match t with | 0 => aJ | 1 => aI | 2 => aZ | _ => aS, hx, hb, hml, hown, ht, fun q h => h, ⟨?_, ?_⟩, ⟨?_, ?_⟩⟩
  · intro c q h
    have hc : c < 5 := (List.getElem?_eq_some_iff.mp h).1
    rcases (by omega : c = 0 ∨ c = 1 ∨ c = 2 ∨ c = 3 ∨ c = 4) with rfl | rfl | rfl | rfl | rfl
    · obtain rfl := Option.some.inj h
      exact k0
    · obtain rfl := Option.some.inj h
      exact k1
    · obtain rfl := Option.some.inj h
      exact k2
    · obtain rfl := Option.some.inj h
      exact k3
    · obtain rfl := Option.some.inj h
      exact k4
  · intro k q h
    have hc : k < 4 := (List.getElem?_eq_some_iff.mp h).1
    rcases (by omega : k = 0 ∨ k = 1 ∨ k = 2 ∨ k = 3) with rfl | rfl | rfl | rfl
    · obtain rfl := Option.some.inj h
      exact ⟨fun n z => ⟨fun k h => (by cases h), bJ, gJ, dJ, hJ⟩, fJ⟩
    · obtain rfl := Option.some.inj h
      exact ⟨fun n z => ⟨fun k h => (by cases h), bI, gI, dI, hI⟩, fI⟩
    · obtain rfl := Option.some.inj h
      exact ⟨fun n z => ⟨fun k h => (by cases h), bZ, gZ, dZ, hZ⟩, fZ⟩
    · obtain rfl := Option.some.inj h
      exact ⟨fun n z => ⟨fun k h => (by cases h), bS, p3, dS, p4⟩, bS, dS, p3, p4, p1, p5⟩
  · exact fun w hw => va_Nw.of (nW_tab w hw) (hts w (nW_tbl w hw))
  · intro Cn hc
    obtain rfl : Cn = "RepairGroups$Stripe" := by simpa [aO] using hc
    exact hao
