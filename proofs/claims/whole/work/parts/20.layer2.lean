/-! numbers as numbers: sums, products, places; arrays of small numbers -/
section LYN
variable {p : Program} {l : Launch} {e : Env} {R : Room} {s : State} {m : MethodId} {args : Array Value} {below : List Frame} {meth : Method} {c : Code} {H : Heap} {locs : List Loc} {cells slots : Nat} {Q : State → Prop}
variable {cc : ByteArray} {pc nL : Nat} {own : String} {ls : Array Slot} {D : va_G} {K : Nat → ClassId} {A : Nat → Prop} {ws ws' : va_W} {rest : List Value} {x y : Int32}
theorem ly_iaddN (C : ly_C p m c cc nL own s args A D K) (a b : Nat) (ex : x = nI a) (ey : y = nI b) (hdg : decode cc pc = .ok (.iadd, 1))
    (kk : W p l e R s m args below meth c H locs cells slots Q (F0 m (pc + 1) ls (.int (nI (a + b)) :: rest))) : W p l e R s m args below meth c H locs cells slots Q (F0 m pc ls (.int y :: .int x :: rest)) := by
  subst ex; subst ey
  refine lv_iadd C.1 C.2.1 hdg ?_
  rw [nI_add]; exact kk
theorem ly_imulN (C : ly_C p m c cc nL own s args A D K) (a b : Nat) (ex : x = nI a) (ey : y = nI b) (hdg : decode cc pc = .ok (.imul, 1))
    (kk : W p l e R s m args below meth c H locs cells slots Q (F0 m (pc + 1) ls (.int (nI (a * b)) :: rest))) : W p l e R s m args below meth c H locs cells slots Q (F0 m pc ls (.int y :: .int x :: rest)) := by
  subst ex; subst ey
  refine lv_imul C.1 C.2.1 hdg ?_
  rw [pk_mul]; exact kk
theorem ly_ne0 {b : Nat} (h0 : 0 < b) (hb : b < 2 ^ 31) : ¬ nI b = 0 := nI_ne0 h0 hb
theorem ly_iremN (C : ly_C p m c cc nL own s args A D K) (a b : Nat) (ex : x = nI a) (ey : y = nI b) (ha : a < 2 ^ 31) (h0 : 0 < b) (hb : b < 2 ^ 31) (hdg : decode cc pc = .ok (.irem, 1))
    (kk : W p l e R s m args below meth c H locs cells slots Q (F0 m (pc + 1) ls (.int (nI (a % b)) :: rest))) : W p l e R s m args below meth c H locs cells slots Q (F0 m pc ls (.int y :: .int x :: rest)) := by
  subst ex; subst ey
  refine lv_irem C.1 C.2.1 hdg (ly_ne0 h0 hb) ?_
  rw [pk_rem ha h0 hb]; exact kk
theorem ly_idivN (C : ly_C p m c cc nL own s args A D K) (a b : Nat) (ex : x = nI a) (ey : y = nI b) (ha : a < 2 ^ 31) (h0 : 0 < b) (hb : b < 2 ^ 31) (hdg : decode cc pc = .ok (.idiv, 1))
    (kk : W p l e R s m args below meth c H locs cells slots Q (F0 m (pc + 1) ls (.int (nI (a / b)) :: rest))) : W p l e R s m args below meth c H locs cells slots Q (F0 m pc ls (.int y :: .int x :: rest)) := by
  subst ex; subst ey
  refine lv_idiv C.1 C.2.1 hdg (ly_ne0 h0 hb) ?_
  rw [pk_div ha h0 hb]; exact kk
theorem ly_nald (C : ly_C p m c cc nL own s args A D K) (hP : va_P D cl_all ws H) (q0 : Nat) {ad n M : Nat} {f : Nat → Nat} (ha : ws[q0]? = some (ad, .inl (K 1, n, .inl (fun j => nI (f j % M))))) {i : Int32} (j : Nat) (hi : i = nI j) (hj : j < n) (hn : n < 2 ^ 31) (hdg : decode cc pc = .ok (.iaload, 1))
    (kk : W p l e R s m args below meth c H locs cells slots Q (F0 m (pc + 1) ls (.int (nI (f j % M)) :: rest))) : W p l e R s m args below meth c H locs cells slots Q (F0 m pc ls (.int i :: .ref ad :: rest)) :=
  ly_iald C hP q0 ha j hi hj hn hdg kk
theorem ly_updN {f : Nat → Nat} {M j v : Nat} (hv : v < M) : upd (fun j => nI (f j % M)) j (nI v) = fun i => nI (va_up f j v i % M) := by
  funext i
  by_cases h : i = j
  · subst h
    rw [pk_us]
    unfold va_up
    rw [if_pos rfl, Nat.mod_eq_of_lt hv]
  · rw [pk_un h]
    unfold va_up
    rw [if_neg h]
theorem ly_nast (C : ly_C p m c cc nL own s args A D K) (hP : va_P D cl_all ws H) (hD : va_D A ws) (hS : va_S A s.heap H locs) (q0 : Nat) {ad n M : Nat} {f : Nat → Nat} (ha : ws[q0]? = some (ad, .inl (K 1, n, .inl (fun j => nI (f j % M))))) {i x : Int32} (v : Nat) (hv : v < M) (j : Nat) (hx : x = nI v) (hi : i = nI j) (hj : j < n) (hn : n < 2 ^ 31) (hdg : decode cc pc = .ok (.iastore, 1)) (hw : ws.set q0 (ad, .inl (K 1, n, .inl (fun i => nI (va_up f j v i % M)))) = ws')
    (kk : ∀ (H1 : Heap) (locs1 : List Loc), va_P D cl_all ws' H1 → va_D A ws' → va_S A s.heap H1 locs1 → W p l e R s m args below meth c H1 locs1 cells slots Q (F0 m (pc + 1) ls rest)) : W p l e R s m args below meth c H locs cells slots Q (F0 m pc ls (.int x :: .int i :: .ref ad :: rest)) := by
  subst hx
  rw [← ly_updN hv] at hw
  exact ly_iast C hP hD hS q0 ha j hi hj hn hdg hw kk
end LYN
