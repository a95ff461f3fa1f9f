/-! CONTRACTS over the world, and calls by contract -/
/-- returns an int / a boolean; the numbers are then u -/
abbrev hr_Mi (l : Launch) (E : hr_E) (y : MethodName) (ws : List Cond) (rm : Room) (av : List Value) (S : hr_S) (o : Int64) (post : Int32 → hr_S → Prop) : Prop := Met l y ws rm (va_Pc av (hr_Ok E S o)) (va_Qi post (fun u t => hr_P E u o t.heap) (hr_A E)) 0 0 (hr_A E)
abbrev hr_Mv (l : Launch) (E : hr_E) (y : MethodName) (ws : List Cond) (rm : Room) (av : List Value) (S : hr_S) (o : Int64) (post : hr_S → Prop) : Prop := Met l y ws rm (va_Pc av (hr_Ok E S o)) (va_Qv post (fun u t => hr_P E u o t.heap) (hr_A E)) 0 0 (hr_A E)
abbrev hr_Mr (l : Launch) (E : hr_E) (y : MethodName) (ws : List Cond) (rm : Room) (av : List Value) (S : hr_S) (o : Int64) (ra : Nat) (post : hr_S → Prop) : Prop := Met l y ws rm (va_Pc av (hr_Ok E S o)) (va_Qr post (fun u a t => a = ra ∧ hr_P E u o t.heap) (hr_A E)) 0 0 (hr_A E)
/-- .. or throws an exception of a class of which xs is true, and nothing has changed -/
abbrev hr_Xi (l : Launch) (E : hr_E) (y : MethodName) (ws : List Cond) (rm : Room) (av : List Value) (S : hr_S) (o : Int64) (post : Int32 → hr_S → Prop) (xs : String → Prop) (mc ms : Nat) : Prop := vx_Met l y ws rm (va_Pc av (hr_Ok E S o)) (va_Qi post (fun u t => hr_P E u o t.heap) (hr_A E)) (vx_X (fun _ : Unit => True) (fun X _ t => xs X ∧ hr_P E S o t.heap) (hr_A E)) mc ms (hr_A E)
abbrev hr_Xv (l : Launch) (E : hr_E) (y : MethodName) (ws : List Cond) (rm : Room) (av : List Value) (S : hr_S) (o : Int64) (post : hr_S → Prop) (xs : String → Prop) (mc ms : Nat) : Prop := vx_Met l y ws rm (va_Pc av (hr_Ok E S o)) (va_Qv post (fun u t => hr_P E u o t.heap) (hr_A E)) (vx_X (fun _ : Unit => True) (fun X _ t => xs X ∧ hr_P E S o t.heap) (hr_A E)) mc ms (hr_A E)
section HB
variable {l : Launch} {E : hr_E} {y : MethodName} {rm : Room} {av : List Value} {S : hr_S} {o : Int64} {cc : ByteArray} {maxL : Nat} {ret : Option FieldType}
/-- a body's walk gives the contract -/
theorem hr_of {Qc : Array Value → State → Outcome → State → Prop} (hy : plainName y.cls = true) (hn : (lg_sl av).length ≤ maxL)
    (body : ∀ (p : Program) (e : Env) (s : State) (m : MethodId) (below : List Frame) (meth : Method) (c : Code), hr_C p s m av.toArray meth c cc y.cls (Cond.code y cc maxL ret) maxL E → meth.sig.returnType = ret →
      hr_G p l e rm s m av.toArray below meth c (MQ below Qc av.toArray s 0 0 (hr_A E)) E maxL 0 0 S o (lv_args 0 av) 0 []) : Met l y (Cond.code y cc maxL ret :: hr_W) rm (va_Pc av (hr_Ok E S o)) Qc 0 0 (hr_A E) := by
  refine Met.ofW (cc := cc) (maxL := maxL) (ret := ret) hy rfl ?_
  intro p e s m args below meth c s₁ B hml hv
  obtain ⟨rfl, hK, hP⟩ := hv
  have hown : s.vm.findClass y.cls = some m.cls := findClass_of_methodNamed B.named
  rw [lg_entry_eq]
  exact body p e s m below meth c ⟨⟨B.exec, B.bytes, hml, hown, atoms_spec (ws := Cond.code y cc maxL ret :: hr_W) B.pre⟩, B.notSynchronized, hK⟩ B.returns s.heap [] _ hP va_S.rf (lv_entry av hn)
theorem hr_ofX {mc ms : Nat} {Qc : Array Value → State → Outcome → State → Prop} {XC : String → State → State → Prop} (hy : plainName y.cls = true) (hn : (lg_sl av).length ≤ maxL)
    (body : ∀ (p : Program) (e : Env) (s : State) (m : MethodId) (below : List Frame) (meth : Method) (c : Code), hr_C p s m av.toArray meth c cc y.cls (Cond.code y cc maxL ret) maxL E → meth.sig.returnType = ret → (∀ x ∈ c.exceptionTable.toList, False) →
      hr_G p l e rm s m av.toArray below meth c (vx_MQ below Qc XC av.toArray s mc ms (hr_A E)) E maxL 0 0 S o (lv_args 0 av) 0 []) : vx_Met l y (Cond.code y cc maxL ret :: hr_W) rm (va_Pc av (hr_Ok E S o)) Qc XC mc ms (hr_A E) := by
  refine vx_ofW (cc := cc) (maxL := maxL) (ret := ret) hy rfl ?_
  intro p e s m args below meth c s₁ B hml hx hv
  obtain ⟨rfl, hK, hP⟩ := hv
  have hown : s.vm.findClass y.cls = some m.cls := findClass_of_methodNamed B.named
  rw [lg_entry_eq]
  exact body p e s m below meth c ⟨⟨B.exec, B.bytes, hml, hown, atoms_spec (ws := Cond.code y cc maxL ret :: hr_W) B.pre⟩, B.notSynchronized, hK⟩ B.returns hx s.heap [] _ hP va_S.rf (lv_entry av hn)
end HB
section HE
variable {p : Program} {l : Launch} {e : Env} {R : Room} {s : State} {m : MethodId} {args : Array Value} {below : List Frame} {meth : Method} {c : Code} {Q : State → Prop} {E : hr_E} {nL cells slots pc mc ms : Nat} {S S0 : hr_S} {o : Int64} {lv : List (Nat × Value)} {st : List Value} {cc : ByteArray} {own : String} {c0 : Cond}
theorem hr_iret {post : Int32 → hr_S → Prop} {v : Int32} (C : hr_C p s m args meth c cc own c0 nL E) (hr : meth.sig.returnType = some .int) (d : decode cc pc = .ok (.ireturn, 1)) (h : post v S) :
    hr_G p l e R s m args below meth c (MQ below (va_Qi post (fun u t => hr_P E u o t.heap) (hr_A E)) args s cells slots (hr_A E)) E nL cells slots S o lv pc [.int v] := fun H locs ls hP hS hl =>
  W.iret (hlocks := C.2.1) C.1.1 C.1.2.1 hr (fun t ht hW => ⟨⟨v, S, rfl, h, by show hr_P E S o t.heap; rw [ht]; exact hP⟩, hS.F ht⟩) hS.2.2 d
theorem hr_zret {post : Int32 → hr_S → Prop} {v : Int32} (C : hr_C p s m args meth c cc own c0 nL E) (hr : meth.sig.returnType = some .boolean) (hv : narrow .boolean (.int v) = .int v) (d : decode cc pc = .ok (.ireturn, 1)) (h : post v S) :
    hr_G p l e R s m args below meth c (MQ below (va_Qi post (fun u t => hr_P E u o t.heap) (hr_A E)) args s cells slots (hr_A E)) E nL cells slots S o lv pc [.int v] := fun H locs ls hP hS hl =>
  W.zret (hlocks := C.2.1) C.1.1 C.1.2.1 hr hv (fun t ht hW => ⟨⟨v, S, rfl, h, by show hr_P E S o t.heap; rw [ht]; exact hP⟩, hS.F ht⟩) hS.2.2 d
theorem hr_vret {post : hr_S → Prop} (C : hr_C p s m args meth c cc own c0 nL E) (hr : meth.sig.returnType = none) (d : decode cc pc = .ok (.return_, 1)) (h : post S) :
    hr_G p l e R s m args below meth c (MQ below (va_Qv post (fun u t => hr_P E u o t.heap) (hr_A E)) args s cells slots (hr_A E)) E nL cells slots S o lv pc [] := fun H locs ls hP hS hl =>
  W.vret (hlocks := C.2.1) C.1.1 C.1.2.1 hr (fun t ht hW => ⟨⟨S, rfl, h, by show hr_P E S o t.heap; rw [ht]; exact hP⟩, hS.F ht⟩) hS.2.2 d
theorem hr_aret {post : hr_S → Prop} {ra : Nat} {rt : FieldType} (C : hr_C p s m args meth c cc own c0 nL E) (hr : meth.sig.returnType = some rt) (hrt : (∃ n, rt = .object n) ∨ ∃ t, rt = .array t) (d : decode cc pc = .ok (.areturn, 1)) (h : post S) :
    hr_G p l e R s m args below meth c (MQ below (va_Qr post (fun u a t => a = ra ∧ hr_P E u o t.heap) (hr_A E)) args s cells slots (hr_A E)) E nL cells slots S o lv pc [.ref ra] := fun H locs ls hP hS hl =>
  W.aret (hlocks := C.2.1) C.1.1 C.1.2.1 hr hrt (Or.inr ⟨_, rfl⟩) (fun t ht hW => ⟨⟨S, ra, rfl, h, rfl, by show hr_P E S o t.heap; rw [ht]; exact hP⟩, hS.F ht⟩) hS.2.2 d
/-- an end that returns, in a body that may throw -/
theorem hr_xr {Qc : Array Value → State → Outcome → State → Prop} {XC : String → State → State → Prop} (K : hr_G p l e R s m args below meth c (MQ below Qc args s mc ms (hr_A E)) E nL mc ms S o lv pc st) (h1 : cells ≤ mc) (h2 : slots ≤ ms) :
    hr_G p l e R s m args below meth c (vx_MQ below Qc XC args s mc ms (hr_A E)) E nL cells slots S o lv pc st := fun H locs ls hP hS hl => W.widen h1 h2 (vx_ret (K H locs ls hP hS hl))
/-- throw new X("text") -/
theorem hr_throw {Qc : Array Value → State → Outcome → State → Prop} {xs : String → Prop} {X text : String} {ik is ic : Nat} (C : hr_C p s m args meth c cc RX3 c0 nL E) (htr : l.stackTraces = false) (htab : ∀ x ∈ c.exceptionTable.toList, False) (hX : Bundle.fit X = true) (hxs : xs X)
    (hk : Cond.classLink RX3 ik X ∈ hr_W) (hini : Cond.initialized X ∈ hr_W) (hs : (is, text) ∈ hr_strs) (hat : ∀ w ∈ vx_atS RX3 ic X ["java/lang/RuntimeException", "java/lang/Exception"], w.before args s = true)
    (hgood : ∀ w ∈ Cond.classLink RX3 ik X :: Cond.initialized X :: vx_atS RX3 ic X ["java/lang/RuntimeException", "java/lang/Exception"], vx_ot w = true)
    (d0 : decode cc pc = .ok (.new ik, 3)) (d3 : decode cc (pc + 3) = .ok (.dup, 1)) (d4 : decode cc (pc + 4) = .ok (.ldc is, 2)) (d6 : decode cc (pc + 6) = .ok (.invokespecial ic, 3)) (d9 : decode cc (pc + 9) = .ok (.athrow, 1))
    (hRf : 6 ≤ R.frames) (hRl : (st.map fun v => v.category).sum + 82 ≤ R.locals) (hRc : cells + 1 ≤ R.cells) (hRs : slots + 6 ≤ R.slots) (hc : cells + 1 ≤ mc) (hsl : slots + 6 ≤ ms) (hS0 : S = S0) :
    hr_G p l e R s m args below meth c (vx_MQ below Qc (vx_X (fun _ : Unit => True) (fun X _ t => xs X ∧ hr_P E S0 o t.heap) (hr_A E)) args s mc ms (hr_A E)) E nL cells slots S o lv pc st := fun H locs ls hP hS hl => by
  subst hS0
  refine vx_throwS (A := hr_A E) (sa := E.2.2.2.2 is) C.1.1 C.1.2.1 htr C.1.2.2.2.1 hX (by decide) (C.1.2.2.2.2 _ (List.mem_cons_of_mem _ hk)) (C.1.2.2.2.2 _ (List.mem_cons_of_mem _ hini)) (C.2.2.2.2.2.2.1 _ hs) hat hgood C.2.2.2.2.1 C.2.2.2.2.2.1 hS (hl.1.trans C.1.2.2.1.symm) d0 d3 d4 d6 d9 (fun x hx => (htab x hx).elim) (show 2 + 3 < R.frames by omega) (show _ + (13 * (2 + 1) + 43) ≤ R.locals by omega) hRc hRs C.2.1 (fun t hvm hz hk1 => ⟨(), trivial, ⟨hxs, ?_⟩, ?_, ?_⟩) hS.2.2 hc hsl
  · intro k i hki
    exact (hP k i hki).kept (hk1 _ (hP k i hki).lt)
  · exact Nat.le_trans hS.1 hz
  · intro q hq hA
    rw [hk1 q (Nat.lt_of_lt_of_le hq hS.1)]
    exact hS.2.1 q hq hA
/-- it was thrown by a callee, and goes on to the caller -/
theorem hr_xout {Qc : Array Value → State → Outcome → State → Prop} {xs : String → Prop} {X : String} {ce : Cell} {q : Addr} {H : Heap} {locs : List Loc} {ls : Array Slot} (C : hr_C p s m args meth c cc own c0 nL E) (htab : ∀ x ∈ c.exceptionTable.toList, False) (hP : hr_P E S o H) (hS : va_S (hr_A E) s.heap H locs) (hcell : H[q]? = some ce) (hv : ce.vm = .none) (hcl : s.vm.findClass X = some ce.cls) (hxs : xs X) (hc : cells ≤ mc) (hs : slots ≤ ms) :
    vx_W p l e R s m args below meth c H locs cells slots (vx_MQ below Qc (vx_X (fun _ : Unit => True) (fun X _ t => xs X ∧ hr_P E S o t.heap) (hr_A E)) args s mc ms (hr_A E)) (F0 m pc ls st) q :=
  vx_out (fun x hx => (htab x hx).elim) C.2.1 hcell hv hcl (fun t ht hvm => ⟨(), trivial, ⟨hxs, by rw [ht]; exact hP⟩, hS.F ht⟩) hS.2.2 hc hs
variable {y : MethodName} {bytes : ByteArray} {maxL n index b k i ci : Nat} {ret : Option FieldType} {ws : List Cond} {rm : Room} {As : List Value} {Cn : String} {T : u_T} {N : Nat} {fs : List Value}
theorem hr_pre (C : hr_C p s m args meth c cc own c0 nL E) {H : Heap} {locs : List Loc} (hP : hr_P E S o H) (hS : va_S (hr_A E) s.heap H locs) (av : List Value) : ∀ U : State, U.heap = H → s.WarmedH U.vm → va_Pc av (hr_Ok E S o) av.toArray U :=
  fun U hU hW => ⟨rfl, hr_K_moved C.2.2 hW hS hU, by rw [hU]; exact hP⟩
theorem hr_rcv (C : hr_C p s m args meth c cc own c0 nL E) {H : Heap} (hP : hr_P E S o H) (hk : i < hr_cnt k) (hx : hr_cell E S o k i = .inr (ci, fs)) (hc : vwCl[ci]? = some (Cn, T, N)) : ∃ cell : Cell, H[hr_ad E k i]? = some cell ∧ cell.vm.isStatics = false ∧ s.vm.findClass Cn = some cell.cls :=
  va_recv (q0 := 0) C.2.2.1 (hr_one hP hk hx) hc rfl
/-- invokevirtual, an int comes back -/
theorem hr_cVi {post : Int32 → hr_S → Prop} (C : hr_C p s m args meth c cc own c0 nL E) (hM : hr_Mi l E y ws rm (.ref (hr_ad E k i) :: As) S o post) (cw : CallW R s args own Cn index y bytes maxL ret ws rm 0 0 n) (hk : i < hr_cnt k) (hx : hr_cell E S o k i = .inr (ci, fs)) (hc : vwCl[ci]? = some (Cn, T, N))
    (hn : As.length = n) (hst : (st.map fun v => v.category).sum ≤ 8) (d : decode cc pc = .ok (.invokevirtual index, 3)) (hR : cells ≤ R.cells ∧ slots ≤ R.slots) (K : ∀ (r : Int32) (S1 : hr_S), post r S1 → hr_G p l e R s m args below meth c Q E nL cells slots S1 o lv (pc + 3) (.int r :: st)) :
    ∀ {st0 : List Value}, st0 = As.reverse ++ .ref (hr_ad E k i) :: st → hr_G p l e R s m args below meth c Q E nL cells slots S o lv pc st0 := fun h0 H locs ls hP hS hl => by
  subst h0
  exact va_calli (va_runV (As := As) (rest := st) C.1 hM cw ⟨hr_blind E S o _, hr_rcv C hP hk hx hc, hr_pre C hP hS _⟩ rfl hn hl.1 rfl (lv_room hst) d hR) hS (fun q _ h => h) (fun q h => h) (fun r u t H1 locs1 ht hvm hw hB hz hk1 hS1 => K r u hw H1 locs1 ls (by rw [← ht]; exact hB) hS1 hl)
theorem hr_cVv {post : hr_S → Prop} (C : hr_C p s m args meth c cc own c0 nL E) (hM : hr_Mv l E y ws rm (.ref (hr_ad E k i) :: As) S o post) (cw : CallW R s args own Cn index y bytes maxL ret ws rm 0 0 n) (hk : i < hr_cnt k) (hx : hr_cell E S o k i = .inr (ci, fs)) (hc : vwCl[ci]? = some (Cn, T, N))
    (hn : As.length = n) (hst : (st.map fun v => v.category).sum ≤ 8) (d : decode cc pc = .ok (.invokevirtual index, 3)) (hR : cells ≤ R.cells ∧ slots ≤ R.slots) (K : ∀ (S1 : hr_S), post S1 → hr_G p l e R s m args below meth c Q E nL cells slots S1 o lv (pc + 3) st) :
    ∀ {st0 : List Value}, st0 = As.reverse ++ .ref (hr_ad E k i) :: st → hr_G p l e R s m args below meth c Q E nL cells slots S o lv pc st0 := fun h0 H locs ls hP hS hl => by
  subst h0
  exact va_callv (va_runV (As := As) (rest := st) C.1 hM cw ⟨hr_blind E S o _, hr_rcv C hP hk hx hc, hr_pre C hP hS _⟩ rfl hn hl.1 rfl (lv_room hst) d hR) hS (fun q _ h => h) (fun q h => h) (fun u t H1 locs1 ht hvm hw hB hz hk1 hS1 => K u hw H1 locs1 ls (by rw [← ht]; exact hB) hS1 hl)
theorem hr_cVr {post : hr_S → Prop} {ra : Nat} (C : hr_C p s m args meth c cc own c0 nL E) (hM : hr_Mr l E y ws rm (.ref (hr_ad E k i) :: As) S o ra post) (cw : CallW R s args own Cn index y bytes maxL ret ws rm 0 0 n) (hk : i < hr_cnt k) (hx : hr_cell E S o k i = .inr (ci, fs)) (hc : vwCl[ci]? = some (Cn, T, N))
    (hn : As.length = n) (hst : (st.map fun v => v.category).sum ≤ 8) (d : decode cc pc = .ok (.invokevirtual index, 3)) (hR : cells ≤ R.cells ∧ slots ≤ R.slots) (K : ∀ (S1 : hr_S), post S1 → hr_G p l e R s m args below meth c Q E nL cells slots S1 o lv (pc + 3) (.ref ra :: st)) :
    ∀ {st0 : List Value}, st0 = As.reverse ++ .ref (hr_ad E k i) :: st → hr_G p l e R s m args below meth c Q E nL cells slots S o lv pc st0 := fun h0 H locs ls hP hS hl => by
  subst h0
  refine va_callr (va_runV (As := As) (rest := st) C.1 hM cw ⟨hr_blind E S o _, hr_rcv C hP hk hx hc, hr_pre C hP hS _⟩ rfl hn hl.1 rfl (lv_room hst) d hR) hS (fun q _ h => h) (fun q h => h) (fun u a t H1 locs1 ht hvm hw hB hz hk1 hS1 => ?_)
  obtain ⟨rfl, hB⟩ := hB
  exact K u hw H1 locs1 ls (by rw [← ht]; exact hB) hS1 hl
/-- invokestatic, an int comes back -/
theorem hr_cSi {post : Int32 → hr_S → Prop} (C : hr_C p s m args meth c cc own c0 nL E) (hM : hr_Mi l E y ws rm As S o post) (cw : CallB R s args own index y bytes maxL ret ws rm 0 0 n ∧ (Cond.static y).before args s = true)
    (hn : As.length = n) (hst : (st.map fun v => v.category).sum ≤ 8) (d : decode cc pc = .ok (.invokestatic index, 3)) (hR : cells ≤ R.cells ∧ slots ≤ R.slots) (K : ∀ (r : Int32) (S1 : hr_S), post r S1 → hr_G p l e R s m args below meth c Q E nL cells slots S1 o lv (pc + 3) (.int r :: st)) :
    ∀ {st0 : List Value}, st0 = As.reverse ++ st → hr_G p l e R s m args below meth c Q E nL cells slots S o lv pc st0 := fun h0 H locs ls hP hS hl => by
  subst h0
  exact va_calli (va_runS (As := As) (rest := st) C.1 hM cw ⟨hr_blind E S o _, hr_pre C hP hS _⟩ rfl hn hl.1 rfl (lv_room hst) d hR) hS (fun q _ h => h) (fun q h => h) (fun r u t H1 locs1 ht hvm hw hB hz hk1 hS1 => K r u hw H1 locs1 ls (by rw [← ht]; exact hB) hS1 hl)
end HE
theorem hr_bz {P : Prop} [Decidable P] : ((if P then (1 : Int32) else 0) = 0) ↔ ¬ P := by by_cases h : P <;> simp [h]
theorem hr_bn {P : Prop} [Decidable P] : (¬ (if P then (1 : Int32) else 0) = 0) ↔ P := by by_cases h : P <;> simp [h]
