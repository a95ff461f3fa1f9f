/-! THE LAW: its own array of one long, its script, the calls that it catches from -/
theorem arrV_cg (cA : ClassId) {n : Nat} {f g : Nat → Value} (h : ∀ j, j < n → f j = g j) : arrV cA n f = arrV cA n g := by
  unfold arrV
  congr 1
  exact congrArg _ (funext fun j => h j.val j.isLt)
theorem va_P_swap {D : va_G} {cl : List vw_C} {ws : va_W} {H : Heap} {q0 a : Nat} {e1 e2 : va_E} (hP : va_P D cl (ws.set q0 (a, e1)) H) (hl : q0 < ws.length) (h : va_at D cl (a, e1) H → va_at D cl (a, e2) H) : va_P D cl (ws.set q0 (a, e2)) H := by
  intro n q hq
  by_cases hn : q0 = n
  · subst hn
    rw [List.getElem?_set_self hl] at hq
    cases hq
    exact h (hP q0 _ (List.getElem?_set_self hl))
  · rw [List.getElem?_set_ne hn] at hq
    exact hP n q (by rw [List.getElem?_set_ne hn]; exact hq)
section HL0
variable {p : Program} {l : Launch} {e : Env} {R : Room} {s : State} {m : MethodId} {args : Array Value} {below : List Frame} {meth : Method} {c : Code} {Q : State → Prop} {E : hr_E} {nL cells slots pc : Nat} {S : hr_S} {o : Int64} {lv : List (Nat × Value)} {st : List Value} {cc : ByteArray} {own : String} {c0 : Cond}
theorem hr_wid {c2 s2 : Nat} (h1 : cells ≤ c2) (h2 : slots ≤ s2) (K : hr_G p l e R s m args below meth c Q E nL c2 s2 S o lv pc st) : hr_G p l e R s m args below meth c Q E nL cells slots S o lv pc st := fun H locs ls hP hS hl => W.widen h1 h2 (K H locs ls hP hS hl)
theorem hr_last {x : Int64} (C : hr_C p s m args meth c cc own c0 nL E) (d : decode cc pc = .ok (.lastore, 1)) (K : hr_G p l e R s m args below meth c Q E nL cells slots S x lv (pc + 1) st) : hr_G p l e R s m args below meth c Q E nL cells slots S o lv pc (.long x :: .int 0 :: .ref (hr_ad E 27 0) :: st) := fun H locs ls hP hS hl => by
  obtain ⟨q0, hq⟩ := hr_L_get E S o (k := 27) (i := 0) (by decide)
  refine va_last C.1.1 C.1.2.1 C.2.2.1 hP.list (C.2.2.2.1.list S o) hS q0 2 hq rfl (vp_in_nI (n := 0) (N := 1) (by decide) (by decide)) d (fun H1 locs1 hP1 hD1 hS1' => ?_)
  have hl0 := (List.getElem?_eq_some_iff.mp hq).1
  refine K H1 locs1 ls (hr_P_set (e' := .inl (E.2.2.1 2, 1, .inr (.inl (fun _ => x)))) C.2.2.2.1 (by decide) hq (va_P_swap hP1 hl0 (fun h => ?_)) rfl (fun k' i' hk' hc => ?_)) hS1' hl
  · show H1[hr_ad E 27 0]? = some (vp_cell _ _)
    have h2 : H1[hr_ad E 27 0]? = some (vp_cell _ _) := h
    rw [h2, vp_cell_l, vp_cell_l]
    rfl
  · have h27 : k' ≠ 27 := fun h => by
      subst h
      have : i' < 1 := hk'
      exact hc ⟨rfl, by omega⟩
    have hlt : k' < 28 := by
      have := hr_ix_mem hk'
      obtain ⟨k2, hk2, h2⟩ := List.mem_flatMap.mp this
      obtain ⟨i2, -, e2⟩ := List.mem_map.mp h2
      have e3 : k2 = k' := congrArg Prod.fst e2
      rw [← e3]
      exact List.mem_range.mp hk2
    rcases (show k' = 0 ∨ k' = 1 ∨ k' = 2 ∨ k' = 3 ∨ k' = 4 ∨ k' = 5 ∨ k' = 6 ∨ k' = 7 ∨ k' = 8 ∨ k' = 9 ∨ k' = 10 ∨ k' = 11 ∨ k' = 12 ∨ k' = 13 ∨ k' = 14 ∨ k' = 15 ∨ k' = 16 ∨ k' = 17 ∨ k' = 18 ∨ k' = 19 ∨ k' = 20 ∨ k' = 21 ∨ k' = 22 ∨ k' = 23 ∨ k' = 24 ∨ k' = 25 ∨ k' = 26 by omega) with rfl | rfl | rfl | rfl | rfl | rfl | rfl | rfl | rfl | rfl | rfl | rfl | rfl | rfl | rfl | rfl | rfl | rfl | rfl | rfl | rfl | rfl | rfl | rfl | rfl | rfl | rfl <;> rfl
theorem hr_lald (C : hr_C p s m args meth c cc own c0 nL E) (d : decode cc pc = .ok (.laload, 1)) (K : hr_G p l e R s m args below meth c Q E nL cells slots S o lv (pc + 1) (.long o :: st)) : hr_G p l e R s m args below meth c Q E nL cells slots S o lv pc (.int 0 :: .ref (hr_ad E 27 0) :: st) := fun H locs ls hP hS hl =>
  va_lald C.1.1 C.1.2.1 C.2.2.1 (hr_one hP (k := 27) (i := 0) (by decide) rfl) 0 2 rfl rfl (vp_in_nI (n := 0) (N := 1) (by decide) (by decide)) d (K H locs ls hP hS hl)
theorem hr_slen {b L : Nat} {xs : Nat → Int32} (C : hr_C p s m args meth c cc own c0 nL E) (hX : va_X b L xs s s.heap) (hbl : b < s.heap.size) (hbA : ¬ hr_A E b) (d : decode cc pc = .ok (.arraylength, 1)) (K : hr_G p l e R s m args below meth c Q E nL cells slots S o lv (pc + 1) (.int (Int32.ofNat L) :: st)) : hr_G p l e R s m args below meth c Q E nL cells slots S o lv pc (.ref b :: st) := fun H locs ls hP hS hl =>
  va_slen C.1.1 C.1.2.1 hX hbl hbA hS d (K H locs ls hP hS hl)
theorem hr_sld {b L : Nat} {xs : Nat → Int32} {x : Int32} (j : Nat) (C : hr_C p s m args meth c cc own c0 nL E) (hX : va_X b L xs s s.heap) (hbl : b < s.heap.size) (hbA : ¬ hr_A E b) (hj : x = nI j) (hlt : j < L) (hL : L < 2 ^ 31) (d : decode cc pc = .ok (.iaload, 1)) (K : hr_G p l e R s m args below meth c Q E nL cells slots S o lv (pc + 1) (.int (xs j) :: st)) : hr_G p l e R s m args below meth c Q E nL cells slots S o lv pc (.int x :: .ref b :: st) := fun H locs ls hP hS hl => by
  subst hj
  refine va_sld C.1.1 C.1.2.1 hX hbl hbA hS (vp_in_nI hlt hL) d ?_
  rw [nI_clamp (by omega)]
  exact K H locs ls hP hS hl
/-- the end of one of the law's own methods -/
theorem hr_liret {post : Int32 → hr_S × Int64 → Prop} {v : Int32} (C : hr_C p s m args meth c cc own c0 nL E) (hr : meth.sig.returnType = some .int) (d : decode cc pc = .ok (.ireturn, 1)) (h : post v (S, o)) :
    hr_G p l e R s m args below meth c (MQ below (va_Qi post (fun (u : hr_S × Int64) t => hr_P E u.1 u.2 t.heap) (hr_A E)) args s cells slots (hr_A E)) E nL cells slots S o lv pc [.int v] := fun H locs ls hP hS hl =>
  W.iret (hlocks := C.2.1) C.1.1 C.1.2.1 hr (fun t ht hW => ⟨⟨v, (S, o), rfl, h, by show hr_P E S o t.heap; rw [ht]; exact hP⟩, hS.F ht⟩) hS.2.2 d
variable {y : MethodName} {bytes : ByteArray} {maxL n index k i ci mc0 ms0 : Nat} {ret : Option FieldType} {ws : List Cond} {rm : Room} {As : List Value} {Cn : String} {T : u_T} {N : Nat} {fs : List Value} {xs : String → Prop} {hh : List (Nat × Nat × Nat × Nat)}
/-- what takes an exception of class X that comes at pc -/
def hl_takes (own : String) (hh : List (Nat × Nat × Nat × Nat)) (pc : Nat) (X : String) (hp : Nat) : Prop :=
  ∃ (pre : List ExceptionTableEntry) (x : ExceptionTableEntry) (suf : List ExceptionTableEntry) (name : String), tableOf hh = pre ++ x :: suf ∧ (∀ z ∈ pre, z.catchType ≠ 0 ∧ ∃ nm, Cond.classLink own z.catchType nm ∈ hr_W ∧ (X, nm) ∈ hr_nc) ∧ covers x pc = true ∧ x.catchType ≠ 0 ∧ Cond.classLink own x.catchType name ∈ hr_W ∧ Cond.castable X name ∈ hr_Wx ∧ x.handlerPc = hp
theorem hl_go {X : String} {hp : Nat} {ce : Cell} {q : Addr} {H : Heap} {locs : List Loc} {ls : Array Slot} (C : hr_C p s m args meth c cc own c0 nL E) (htab : c.exceptionTable.toList = tableOf hh) (ht : hl_takes own hh pc X hp) (hce : H[q]? = some ce) (hcv : ce.vm = .none) (hcl : s.vm.findClass X = some ce.cls)
    (kk : W p l e R s m args below meth c H locs cells slots Q (F0 m hp ls [.ref q])) : vx_W p l e R s m args below meth c H locs cells slots Q (F0 m pc ls st) q := by
  obtain ⟨pre, x, suf, name, e1, e2, e3, e4, e5, e6, rfl⟩ := ht
  refine vx_catch (name := name) C.1.2.2.2.1 pre x suf (htab.trans e1) (fun z hz => Or.inr ?_) e3 e4 (C.1.2.2.2.2 _ (List.mem_cons_of_mem _ e5)) (va_Nw.use (hr_Wx_on _ e6) (C.2.2.2.2.2.2.2.2.1 _ e6)) hce hcv hcl kk
  obtain ⟨h1, nm, h2, h3⟩ := e2 z hz
  exact ⟨h1, nm, C.1.2.2.2.2 _ (List.mem_cons_of_mem _ h2), C.2.2.2.2.2.2.2.2.2 _ h3⟩
theorem hr_lVi {post : Int32 → hr_S → Prop} (C : hr_C p s m args meth c cc own c0 nL E) (htab : c.exceptionTable.toList = tableOf hh) (hM : hr_Xi l E y ws rm (.ref (hr_ad E k i) :: As) S o post xs mc0 ms0) (cw : CallW R s args own Cn index y bytes maxL ret ws rm mc0 ms0 n) (hk : i < hr_cnt k) (hx : hr_cell E S o k i = .inr (ci, fs)) (hc : vwCl[ci]? = some (Cn, T, N))
    (hn : As.length = n) (hst : (st.map fun v => v.category).sum ≤ 8) (d : decode cc pc = .ok (.invokevirtual index, 3)) (hR : cells + mc0 ≤ R.cells ∧ slots + ms0 ≤ R.slots) (hX : ∀ X, xs X → ∃ hp, hl_takes own hh pc X hp ∧ ∀ q, hr_G p l e R s m args below meth c Q E nL (cells + mc0) (slots + ms0) S o lv hp [.ref q]) (K : ∀ (r : Int32) (S1 : hr_S), post r S1 → hr_G p l e R s m args below meth c Q E nL (cells + mc0) (slots + ms0) S1 o lv (pc + 3) (.int r :: st)) :
    ∀ {st0 : List Value}, st0 = As.reverse ++ .ref (hr_ad E k i) :: st → hr_G p l e R s m args below meth c Q E nL cells slots S o lv pc st0 := fun h0 H locs ls hP hS hl => by
  subst h0
  exact vx_calli (vx_runV (As := As) (rest := st) C.1 hM cw ⟨hr_blind E S o _, hr_rcv C hP hk hx hc, hr_pre C hP hS _⟩ rfl hn hl.1 rfl (lv_room hst) d hR) hS (fun q _ h => h) (fun q h => h) (fun q _ h => h)
    (fun X ce q9 u t H1 locs1 ht hvm hp hB hz hk1 hS1 hce hcv hcl => by
      obtain ⟨hp9, h1, h2⟩ := hX X hB.1
      exact hl_go C htab h1 hce hcv hcl (h2 q9 H1 locs1 ls (by rw [← ht]; exact hB.2) hS1 hl)) (fun r u t H1 locs1 ht hvm hw hB hz hk1 hS1 => K r u hw H1 locs1 ls (by rw [← ht]; exact hB) hS1 hl)
theorem hr_lVv {post : hr_S → Prop} (C : hr_C p s m args meth c cc own c0 nL E) (htab : c.exceptionTable.toList = tableOf hh) (hM : hr_Xv l E y ws rm (.ref (hr_ad E k i) :: As) S o post xs mc0 ms0) (cw : CallW R s args own Cn index y bytes maxL ret ws rm mc0 ms0 n) (hk : i < hr_cnt k) (hx : hr_cell E S o k i = .inr (ci, fs)) (hc : vwCl[ci]? = some (Cn, T, N))
    (hn : As.length = n) (hst : (st.map fun v => v.category).sum ≤ 8) (d : decode cc pc = .ok (.invokevirtual index, 3)) (hR : cells + mc0 ≤ R.cells ∧ slots + ms0 ≤ R.slots) (hX : ∀ X, xs X → ∃ hp, hl_takes own hh pc X hp ∧ ∀ q, hr_G p l e R s m args below meth c Q E nL (cells + mc0) (slots + ms0) S o lv hp [.ref q]) (K : ∀ (S1 : hr_S), post S1 → hr_G p l e R s m args below meth c Q E nL (cells + mc0) (slots + ms0) S1 o lv (pc + 3) st) :
    ∀ {st0 : List Value}, st0 = As.reverse ++ .ref (hr_ad E k i) :: st → hr_G p l e R s m args below meth c Q E nL cells slots S o lv pc st0 := fun h0 H locs ls hP hS hl => by
  subst h0
  exact vx_callv (vx_runV (As := As) (rest := st) C.1 hM cw ⟨hr_blind E S o _, hr_rcv C hP hk hx hc, hr_pre C hP hS _⟩ rfl hn hl.1 rfl (lv_room hst) d hR) hS (fun q _ h => h) (fun q h => h) (fun q _ h => h)
    (fun X ce q9 u t H1 locs1 ht hvm hp hB hz hk1 hS1 hce hcv hcl => by
      obtain ⟨hp9, h1, h2⟩ := hX X hB.1
      exact hl_go C htab h1 hce hcv hcl (h2 q9 H1 locs1 ls (by rw [← ht]; exact hB.2) hS1 hl)) (fun u t H1 locs1 ht hvm hw hB hz hk1 hS1 => K u hw H1 locs1 ls (by rw [← ht]; exact hB) hS1 hl)
end HL0
/-- a contract of one of the law's own methods: the numbers and the law's long are then u -/
abbrev hr_Li (l : Launch) (E : hr_E) (y : MethodName) (ws : List Cond) (rm : Room) (av : List Value) (S : hr_S) (o : Int64) (post : Int32 → hr_S × Int64 → Prop) (mc ms : Nat) : Prop := Met l y ws rm (va_Pc av (hr_Ok E S o)) (va_Qi post (fun (u : hr_S × Int64) t => hr_P E u.1 u.2 t.heap) (hr_A E)) mc ms (hr_A E)
theorem hr_ofL {l : Launch} {E : hr_E} {y : MethodName} {rm : Room} {av : List Value} {S : hr_S} {o : Int64} {cc : ByteArray} {maxL mc ms : Nat} {ret : Option FieldType} {hh : List (Nat × Nat × Nat × Nat)} {Qc : Array Value → State → Outcome → State → Prop} (hy : plainName y.cls = true) (hn : (lg_sl av).length ≤ maxL)
    (body : ∀ (p : Program) (e : Env) (s : State) (m : MethodId) (below : List Frame) (meth : Method) (c : Code), hr_C p s m av.toArray meth c cc y.cls (Cond.codeWith y cc maxL ret hh) maxL E → meth.sig.returnType = ret → c.exceptionTable.toList = tableOf hh →
      hr_G p l e rm s m av.toArray below meth c (MQ below Qc av.toArray s mc ms (hr_A E)) E maxL 0 0 S o (lv_args 0 av) 0 []) : Met l y (Cond.codeWith y cc maxL ret hh :: hr_W) rm (va_Pc av (hr_Ok E S o)) Qc mc ms (hr_A E) := by
  refine MetFree.of_bodyS (code := cc) (maxLocals := maxL) (ret := ret) hy ?_ ?_
  · intro args s m h hn
    obtain ⟨m9, meth, c, hn9, h1, h2, h3, h4, -, h5, h6, -⟩ := Cond.codeWith_spec (atoms_spec (ws := Cond.codeWith y cc maxL ret hh :: hr_W) h _ List.mem_cons_self)
    cases hn.symm.trans hn9
    exact ⟨meth, c, h1, h2, h3, h4, h5, h6⟩
  · intro p e s m args below meth c s₁ B hml hv _
    obtain ⟨rfl, hK, hP⟩ := hv
    have hh0 : s₁.heap = s.heap := by rw [B.state]; rfl
    have hown : s.vm.findClass y.cls = some m.cls := findClass_of_methodNamed B.named
    have hat := atoms_spec (ws := Cond.codeWith y cc maxL ret hh :: hr_W) B.pre
    have key := body p e s m below meth c ⟨⟨B.exec, B.bytes, hml, hown, hat⟩, B.notSynchronized, hK⟩ B.returns (vx_table (x := y) B (hat _ List.mem_cons_self)) s.heap [] _ hP va_S.rf (lv_entry av hn)
    rw [← lg_entry_eq] at key
    obtain ⟨t, a1, o9, b1, b2, b3⟩ := key s₁ hh0 (Stand.of_body B)
    exact ⟨t, o9, a1, b1, b2, b3⟩
def hl_Q (NP : Int32 → hr_S → Prop) (xs : String → Prop) (cd : String → Int32) (cv : Int32 → Int64) (S : hr_S) (o : Int64) : Int32 → hr_S × Int64 → Prop := fun r u => (r = 0 ∧ ∃ v, NP v u.1 ∧ u.2 = cv v) ∨ ∃ X, xs X ∧ r = cd X ∧ u = (S, o)
def hl_Qv (NP : hr_S → Prop) (xs : String → Prop) (cd : String → Int32) (S : hr_S) (o : Int64) : Int32 → hr_S × Int64 → Prop := fun r u => (r = 0 ∧ NP u.1 ∧ u.2 = o) ∨ ∃ X, xs X ∧ r = cd X ∧ u = (S, o)
def hl_k (X : String) : Int32 := if X = "java/lang/IndexOutOfBoundsException" then 1 else if X = "java/lang/IllegalArgumentException" then 2 else 3
def hl_k1 (_ : String) : Int32 := 1
def hl_z (v : Int32) : Int64 := if v = 0 then 0 else 1
theorem hl_x {X name : String} (h : Cond.castable X name ∈ tables_1) : Cond.castable X name ∈ hr_Wx := List.mem_filter.mpr ⟨List.mem_append_right _ h, rfl⟩
