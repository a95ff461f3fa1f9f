/-! MAKING: the world while the objects are being made; a cell that is not there yet is none -/
abbrev hc_X : Type := Nat → Nat → Option (Nat × va_E)
def hc_s (X : hc_X) (k i : Nat) (c : Nat × va_E) : hc_X := fun k' i' => if k' = k ∧ i' = i then some c else X k' i'
theorem hc_s_self (X : hc_X) (k i : Nat) (c : Nat × va_E) : hc_s X k i c k i = some c := by simp [hc_s]
theorem hc_s_ne (X : hc_X) {k i k' i' : Nat} (c : Nat × va_E) (h : ¬ (k' = k ∧ i' = i)) : hc_s X k i c k' i' = X k' i' := by simp [hc_s, h]
def hc_P (E : hr_E) (X : hc_X) (H : Heap) : Prop := (∀ k i q, X k i = some q → i < hr_cnt k ∧ va_at E.1 vwCl q H ∧ hr_A E q.1) ∧ ∀ k i k' i' q q', X k i = some q → X k' i' = some q' → q.1 = q'.1 → k = k' ∧ i = i'
def hc_L (X : hc_X) : va_W := hr_ix.filterMap (fun c => X c.1 c.2)
theorem hc_L_get {E : hr_E} {X : hc_X} {H : Heap} (h : hc_P E X H) {k i : Nat} {q : Nat × va_E} (hq : X k i = some q) : ∃ n : Nat, (hc_L X)[n]? = some q :=
  List.getElem?_of_mem (List.mem_filterMap.mpr ⟨(k, i), hr_ix_mem (h.1 k i q hq).1, hq⟩)
theorem hc_L_of {X : hc_X} {n : Nat} {q : Nat × va_E} (h : (hc_L X)[n]? = some q) : ∃ k i, X k i = some q := by
  obtain ⟨c, -, hc⟩ := List.mem_filterMap.mp (List.mem_of_getElem? h)
  exact ⟨c.1, c.2, hc⟩
theorem hc_P.list {E : hr_E} {X : hc_X} {H : Heap} (h : hc_P E X H) : va_P E.1 vwCl (hc_L X) H := by
  intro n q hq
  obtain ⟨k, i, hk⟩ := hc_L_of hq
  exact (h.1 k i q hk).2.1
theorem hc_P.D {E : hr_E} {X : hc_X} {H : Heap} (h : hc_P E X H) : va_D (hr_A E) (hc_L X) := by
  refine ⟨fun i j x y hi hj hxy => ?_, fun n q hq => ?_⟩
  · have hp : (hc_L X).Pairwise (fun a b => a.1 ≠ b.1) := by
      unfold hc_L
      refine List.pairwise_filterMap.mpr (List.Pairwise.imp ?_ hr_ix_nd)
      intro c d hcd b hb b' hb' e
      obtain ⟨e1, e2⟩ := h.2 c.1 c.2 d.1 d.2 b b' hb hb' e
      exact hcd (Prod.ext e1 e2)
    obtain ⟨li, gi⟩ := List.getElem?_eq_some_iff.mp hi
    obtain ⟨lj, gj⟩ := List.getElem?_eq_some_iff.mp hj
    rw [List.pairwise_iff_getElem] at hp
    rcases Nat.lt_trichotomy i j with hlt | heq | hgt
    · exact absurd (by rw [gi, gj]; exact hxy) (hp i j li lj hlt)
    · exact heq
    · exact absurd (by rw [gi, gj]; exact hxy.symm) (hp j i lj li hgt)
  · obtain ⟨k, i, hk⟩ := hc_L_of hq
    exact (h.1 k i q hk).2.2
theorem hc_P_set {E : hr_E} {X : hc_X} {H H1 : Heap} {k i n : Nat} {a : Nat} {e0 e' : va_E} (h : hc_P E X H) (hX : X k i = some (a, e0)) (hn : (hc_L X)[n]? = some (a, e0)) (hP : va_P E.1 vwCl ((hc_L X).set n (a, e')) H1) : hc_P E (hc_s X k i (a, e')) H1 := by
  have hl := (List.getElem?_eq_some_iff.mp hn).1
  have hb := h.1 k i _ hX
  constructor
  · intro k' i' q hq
    by_cases hc : k' = k ∧ i' = i
    · obtain ⟨rfl, rfl⟩ := hc
      rw [hc_s_self] at hq
      cases hq
      exact ⟨hb.1, hP n _ (List.getElem?_set_self hl), hb.2.2⟩
    · rw [hc_s_ne _ _ hc] at hq
      have hb' := h.1 k' i' q hq
      obtain ⟨n', hn'⟩ := hc_L_get h hq
      have hne : n ≠ n' := by
        intro he
        subst he
        have h2 := Option.some.inj (hn.symm.trans hn')
        obtain ⟨e1, e2⟩ := h.2 k i k' i' _ _ hX hq (congrArg Prod.fst h2)
        exact hc ⟨e1.symm, e2.symm⟩
      exact ⟨hb'.1, hP n' _ (by rw [List.getElem?_set_ne hne]; exact hn'), hb'.2.2⟩
  · have key : ∀ k' i' q, hc_s X k i (a, e') k' i' = some q → ∃ q0, X k' i' = some q0 ∧ q0.1 = q.1 := by
      intro k' i' q hq
      by_cases hc : k' = k ∧ i' = i
      · obtain ⟨rfl, rfl⟩ := hc
        rw [hc_s_self] at hq
        cases hq
        exact ⟨_, hX, rfl⟩
      · rw [hc_s_ne _ _ hc] at hq
        exact ⟨q, hq, rfl⟩
    intro k1 i1 k2 i2 q q' h1 h2 hqq
    obtain ⟨p1, a1, b1⟩ := key _ _ _ h1
    obtain ⟨p2, a2, b2⟩ := key _ _ _ h2
    exact h.2 _ _ _ _ _ _ a1 a2 (by rw [b1, b2]; exact hqq)
theorem hc_P_new {E : hr_E} {X : hc_X} {H H1 : Heap} {k i : Nat} {q : Nat × va_E} (h : hc_P E X H) (hX : X k i = none) (hk : i < hr_cnt k) (hP : va_P E.1 vwCl (hc_L X ++ [q]) H1) (hD : va_D (hr_A E) (hc_L X ++ [q])) : hc_P E (hc_s X k i q) H1 := by
  have hlast : (hc_L X ++ [q])[(hc_L X).length]? = some q := by rw [List.getElem?_append_right (Nat.le_refl _), Nat.sub_self]; rfl
  have hold : ∀ k' i' p, X k' i' = some p → ∃ n : Nat, n < (hc_L X).length ∧ (hc_L X ++ [q])[n]? = some p := by
    intro k' i' p hp
    obtain ⟨n, hn⟩ := hc_L_get h hp
    have hl := (List.getElem?_eq_some_iff.mp hn).1
    exact ⟨n, hl, by rw [List.getElem?_append_left hl]; exact hn⟩
  have hfresh : ∀ k' i' p, X k' i' = some p → p.1 ≠ q.1 := by
    intro k' i' p hp he
    obtain ⟨n, hl, hn⟩ := hold k' i' p hp
    have := hD.1 n _ _ _ hn hlast he
    omega
  constructor
  · intro k' i' p hp
    by_cases hc : k' = k ∧ i' = i
    · obtain ⟨rfl, rfl⟩ := hc
      rw [hc_s_self] at hp
      cases hp
      exact ⟨hk, hP _ _ hlast, hD.2 _ _ hlast⟩
    · rw [hc_s_ne _ _ hc] at hp
      obtain ⟨n, hl, hn⟩ := hold k' i' p hp
      exact ⟨(h.1 _ _ _ hp).1, hP _ _ hn, (h.1 _ _ _ hp).2.2⟩
  · intro k1 i1 k2 i2 p1 p2 h1 h2 hpp
    by_cases c1 : k1 = k ∧ i1 = i
    · by_cases c2 : k2 = k ∧ i2 = i
      · exact ⟨c1.1.trans c2.1.symm, c1.2.trans c2.2.symm⟩
      · obtain ⟨rfl, rfl⟩ := c1
        rw [hc_s_self] at h1
        cases h1
        rw [hc_s_ne _ _ c2] at h2
        exact absurd hpp.symm (hfresh _ _ _ h2)
    · rw [hc_s_ne _ _ c1] at h1
      by_cases c2 : k2 = k ∧ i2 = i
      · obtain ⟨rfl, rfl⟩ := c2
        rw [hc_s_self] at h2
        cases h2
        exact absurd hpp (hfresh _ _ _ h1)
      · rw [hc_s_ne _ _ c2] at h2
        exact h.2 _ _ _ _ _ _ h1 h2 hpp
def hc_K (E : hr_E) (U : State) : Prop := va_K E.1 vwCl (hr_tys E) U ∧ (∀ q, U.heap.size ≤ q → hr_A E q) ∧ va_AO "HopRouters$Packet" U ∧ va_AO "HopRouters$Table" U ∧ va_Nw (.methodLinkNest RX0 21 yX1_init "HopRouters") U ∧ va_Nw (.methodLinkNest RX3 28 yX1_init "HopRouters") U
theorem hc_K_moved {E : hr_E} {s U : State} {H : Heap} {locs : List Loc} (h : hc_K E s) (hW : s.WarmedH U.vm) (hS : va_S (hr_A E) s.heap H locs) (hU : U.heap = H) : hc_K E U :=
  ⟨va_K.moved hW.alike h.1, fun q hq => h.2.1 q (Nat.le_trans hS.1 (by rw [← hU]; exact hq)), va_AO.moved hW.alike h.2.2.1, va_AO.moved hW.alike h.2.2.2.1, va_Nw.warmM hW h.2.2.2.2.1, va_Nw.warmM hW h.2.2.2.2.2⟩
theorem hc_blind (E : hr_E) (X : hc_X) (av : List Value) : FrameBlind (va_Pc av (fun U => hc_K E U ∧ hc_P E X U.heap)) := by
  intro a U g mk h
  obtain ⟨h0, h1, h2⟩ := h
  exact ⟨h0, hc_K_moved (s := U) (U := U.calling g mk a) (H := U.heap) (locs := []) h1 (State.WarmedH.refl U) va_S.rf rfl, h2⟩
def hc_G (p : Program) (l : Launch) (e : Env) (R : Room) (s : State) (m : MethodId) (args : Array Value) (below : List Frame) (meth : Method) (c : Code) (Q : State → Prop) (E : hr_E) (nL cells slots : Nat) (X : hc_X) (lv : List (Nat × Value)) (pc : Nat) (st : List Value) : Prop :=
  ∀ (H : Heap) (locs : List Loc) (ls : Array Slot), hc_P E X H → va_S (hr_A E) s.heap H locs → lv_has ls nL lv → W p l e R s m args below meth c H locs cells slots Q (F0 m pc ls st)
def hc_C (p : Program) (s : State) (m : MethodId) (args : Array Value) (meth : Method) (c : Code) (cc : ByteArray) (own : String) (c0 : Cond) (nL : Nat) (E : hr_E) : Prop := CallFix p m c cc nL s args (c0 :: hr_W) own ∧ meth.locks = false ∧ hc_K E s
abbrev hc_Mv (l : Launch) (E : hr_E) (y : MethodName) (ws : List Cond) (rm : Room) (av : List Value) (X : hc_X) (post : hc_X → Prop) (mc ms : Nat) : Prop := Met l y ws rm (va_Pc av (fun U => hc_K E U ∧ hc_P E X U.heap)) (va_Qv post (fun u t => hc_P E u t.heap) (hr_A E)) mc ms (hr_A E)
section HC0
variable {p : Program} {l : Launch} {e : Env} {R : Room} {s : State} {m : MethodId} {args : Array Value} {below : List Frame} {meth : Method} {c : Code} {Q : State → Prop} {E : hr_E} {nL cells slots pc : Nat} {X : hc_X} {lv : List (Nat × Value)} {st : List Value} {cc : ByteArray} {own : String} {c0 : Cond}
theorem hc_iconst {n : Int} {v : Int32} (C : hc_C p s m args meth c cc own c0 nL E) (d : decode cc pc = .ok (.iconst n, 1)) (hv : Int32.ofInt n = v) (K : hc_G p l e R s m args below meth c Q E nL cells slots X lv (pc + 1) (.int v :: st)) : hc_G p l e R s m args below meth c Q E nL cells slots X lv (pc) (st) := fun H locs ls hP hS hl =>
  lv_iconst C.1.1 C.1.2.1 d hv (K H locs ls hP hS hl)
theorem hc_bipush {n : Int} {v : Int32} (C : hc_C p s m args meth c cc own c0 nL E) (d : decode cc pc = .ok (.bipush n, 2)) (hv : (Int8.ofInt n).toInt32 = v) (K : hc_G p l e R s m args below meth c Q E nL cells slots X lv (pc + 2) (.int v :: st)) : hc_G p l e R s m args below meth c Q E nL cells slots X lv (pc) (st) := fun H locs ls hP hS hl =>
  lv_bipush C.1.1 C.1.2.1 d hv (K H locs ls hP hS hl)
theorem hc_sipush {n : Int} {v : Int32} (C : hc_C p s m args meth c cc own c0 nL E) (d : decode cc pc = .ok (.sipush n, 3)) (hv : (Int16.ofInt n).toInt32 = v) (K : hc_G p l e R s m args below meth c Q E nL cells slots X lv (pc + 3) (.int v :: st)) : hc_G p l e R s m args below meth c Q E nL cells slots X lv (pc) (st) := fun H locs ls hP hS hl =>
  lv_sipush C.1.1 C.1.2.1 d hv (K H locs ls hP hS hl)
theorem hc_ldc {index : Nat} {v : Int32} (C : hc_C p s m args meth c cc own c0 nL E) (d : decode cc pc = .ok (.ldc index, 2)) (hw : Jvm.Cond.constant own index v ∈ hr_W) (K : hc_G p l e R s m args below meth c Q E nL cells slots X lv (pc + 2) (.int v :: st)) : hc_G p l e R s m args below meth c Q E nL cells slots X lv (pc) (st) := fun H locs ls hP hS hl =>
  lv_ldc C.1.1 C.1.2.1 C.1.2.2.2.1 (C.1.2.2.2.2 _ (List.mem_cons_of_mem _ hw)) d (K H locs ls hP hS hl)
theorem hc_iload_n {k : Fin 4} {i : Nat} {x : Int32} (C : hc_C p s m args meth c cc own c0 nL E) (d : decode cc pc = .ok (.iload_n k, 1)) (hi : (k : Nat) = i) (j : Nat) (hj : lv[j]? = some (i, .int x)) (K : hc_G p l e R s m args below meth c Q E nL cells slots X lv (pc + 1) (.int x :: st)) : hc_G p l e R s m args below meth c Q E nL cells slots X lv (pc) (st) := fun H locs ls hP hS hl =>
  lv_iload_n C.1.1 C.1.2.1 d hi (lv_at hl j hj) (K H locs ls hP hS hl)
theorem hc_iload {i : Nat} {x : Int32} (C : hc_C p s m args meth c cc own c0 nL E) (d : decode cc pc = .ok (.iload i, 2)) (j : Nat) (hj : lv[j]? = some (i, .int x)) (K : hc_G p l e R s m args below meth c Q E nL cells slots X lv (pc + 2) (.int x :: st)) : hc_G p l e R s m args below meth c Q E nL cells slots X lv (pc) (st) := fun H locs ls hP hS hl =>
  lv_iload C.1.1 C.1.2.1 d (lv_at hl j hj) (K H locs ls hP hS hl)
theorem hc_istore_n {k : Fin 4} {i : Nat} {x : Int32} (C : hc_C p s m args meth c cc own c0 nL E) (lv' : List (Nat × Value)) (d : decode cc pc = .ok (.istore_n k, 1)) (hi : (k : Nat) = i) (hn : i < nL) (hf : (i, Value.int x) :: lv.filter (fun q => !(q.1 == i) && !(q.1 + 1 == i && q.2.category == 2)) = lv') (K : hc_G p l e R s m args below meth c Q E nL cells slots X lv' (pc + 1) (st)) : hc_G p l e R s m args below meth c Q E nL cells slots X lv (pc) (.int x :: st) := fun H locs ls hP hS hl =>
  lv_istore_n C.1.1 C.1.2.1 d hi hl hn hf (fun ls' hl' => K H locs ls' hP hS hl')
theorem hc_istore {i : Nat} {x : Int32} (C : hc_C p s m args meth c cc own c0 nL E) (lv' : List (Nat × Value)) (d : decode cc pc = .ok (.istore i, 2)) (hn : i < nL) (hf : (i, Value.int x) :: lv.filter (fun q => !(q.1 == i) && !(q.1 + 1 == i && q.2.category == 2)) = lv') (K : hc_G p l e R s m args below meth c Q E nL cells slots X lv' (pc + 2) (st)) : hc_G p l e R s m args below meth c Q E nL cells slots X lv (pc) (.int x :: st) := fun H locs ls hP hS hl =>
  lv_istore C.1.1 C.1.2.1 d hl hn hf (fun ls' hl' => K H locs ls' hP hS hl')
theorem hc_aload_n {k : Fin 4} {i : Nat} {x : Nat} (C : hc_C p s m args meth c cc own c0 nL E) (d : decode cc pc = .ok (.aload_n k, 1)) (hi : (k : Nat) = i) (j : Nat) (hj : lv[j]? = some (i, .ref x)) (K : hc_G p l e R s m args below meth c Q E nL cells slots X lv (pc + 1) (.ref x :: st)) : hc_G p l e R s m args below meth c Q E nL cells slots X lv (pc) (st) := fun H locs ls hP hS hl =>
  lv_aload_n C.1.1 C.1.2.1 d hi (lv_at hl j hj) (K H locs ls hP hS hl)
theorem hc_astore_n {k : Fin 4} {i : Nat} {x : Nat} (C : hc_C p s m args meth c cc own c0 nL E) (lv' : List (Nat × Value)) (d : decode cc pc = .ok (.astore_n k, 1)) (hi : (k : Nat) = i) (hn : i < nL) (hf : (i, Value.ref x) :: lv.filter (fun q => !(q.1 == i) && !(q.1 + 1 == i && q.2.category == 2)) = lv') (K : hc_G p l e R s m args below meth c Q E nL cells slots X lv' (pc + 1) (st)) : hc_G p l e R s m args below meth c Q E nL cells slots X lv (pc) (.ref x :: st) := fun H locs ls hP hS hl =>
  lv_astore_n C.1.1 C.1.2.1 d hi hl hn hf (fun ls' hl' => K H locs ls' hP hS hl')
theorem hc_iinc {i : Nat} {n : Int} {x v : Int32} (C : hc_C p s m args meth c cc own c0 nL E) (lv' : List (Nat × Value)) (d : decode cc pc = .ok (.iinc i n, 3)) (j : Nat) (hj : lv[j]? = some (i, .int x)) (hv : x + Int32.ofInt n = v) (hn : i < nL) (hf : (i, Value.int v) :: lv.filter (fun q => !(q.1 == i) && !(q.1 + 1 == i && q.2.category == 2)) = lv') (K : hc_G p l e R s m args below meth c Q E nL cells slots X lv' (pc + 3) (st)) : hc_G p l e R s m args below meth c Q E nL cells slots X lv (pc) (st) := fun H locs ls hP hS hl =>
  lv_iinc C.1.1 C.1.2.1 d hl hj hv hn hf (fun ls' hl' => K H locs ls' hP hS hl')
theorem hc_dup {a : Value} (C : hc_C p s m args meth c cc own c0 nL E) (d : decode cc pc = .ok (.dup, 1)) (ha : a.category = 1) (K : hc_G p l e R s m args below meth c Q E nL cells slots X lv (pc + 1) (a :: a :: st)) : hc_G p l e R s m args below meth c Q E nL cells slots X lv (pc) (a :: st) := fun H locs ls hP hS hl =>
  lv_dup C.1.1 C.1.2.1 d ha (K H locs ls hP hS hl)
theorem hc_icmp_ge {x y : Int32} {off : Int} (C : hc_C p s m args meth c cc own c0 nL E) (tgt : Nat) (d : decode cc pc = .ok (.if_icmp .ge off, 3)) (ht : (pc : Int) + off = (tgt : Int)) (Kt : y ≤ x → hc_G p l e R s m args below meth c Q E nL cells slots X lv (tgt) (st)) (Kf : ¬ y ≤ x → hc_G p l e R s m args below meth c Q E nL cells slots X lv (pc + 3) (st)) : hc_G p l e R s m args below meth c Q E nL cells slots X lv (pc) (.int y :: .int x :: st) := fun H locs ls hP hS hl =>
  lv_icmp_ge C.1.1 C.1.2.1 d ht (fun h => Kt h H locs ls hP hS hl) (fun h => Kf h H locs ls hP hS hl)
theorem hc_goto {off : Int} (C : hc_C p s m args meth c cc own c0 nL E) (tgt : Nat) (d : decode cc pc = .ok (.goto off, 3)) (ht : (pc : Int) + off = (tgt : Int)) (K : hc_G p l e R s m args below meth c Q E nL cells slots X lv (tgt) (st)) : hc_G p l e R s m args below meth c Q E nL cells slots X lv (pc) (st) := fun H locs ls hP hS hl =>
  lv_goto C.1.1 C.1.2.1 d ht (K H locs ls hP hS hl)
theorem hc_x {X2 : hc_X} (h : X = X2) (K : hc_G p l e R s m args below meth c Q E nL cells slots X2 lv pc st) : hc_G p l e R s m args below meth c Q E nL cells slots X lv pc st := by rw [h]; exact K
theorem hc_wid {c2 s2 : Nat} (h1 : cells ≤ c2) (h2 : slots ≤ s2) (K : hc_G p l e R s m args below meth c Q E nL c2 s2 X lv pc st) : hc_G p l e R s m args below meth c Q E nL cells slots X lv pc st := fun H locs ls hP hS hl => W.widen h1 h2 (K H locs ls hP hS hl)
theorem hc_eqp {c2 s2 : Nat} (h1 : cells = c2) (h2 : slots = s2) (K : hc_G p l e R s m args below meth c Q E nL c2 s2 X lv pc st) : hc_G p l e R s m args below meth c Q E nL cells slots X lv pc st := by subst h1; subst h2; exact K
theorem hc_sub {lv2 : List (Nat × Value)} (js : List Nat) (h : lv_pick lv js = lv2) (K : hc_G p l e R s m args below meth c Q E nL cells slots X lv2 pc st) : hc_G p l e R s m args below meth c Q E nL cells slots X lv pc st := fun H locs ls hP hS hl => K H locs ls hP hS (lv_sub hl js h)
theorem hc_tp {x y : Int32} (h : x = y) (K : hc_G p l e R s m args below meth c Q E nL cells slots X lv pc (.int y :: st)) : hc_G p l e R s m args below meth c Q E nL cells slots X lv pc (.int x :: st) := by rw [h]; exact K
theorem hc_objInit {idx : Nat} {a : Nat} (C : hc_C p s m args meth c cc own c0 nL E) (hw : Cond.methodLink own idx objectInit ∈ hr_W) (hf : 1 ≤ R.frames) (hlo : (st.map fun v => v.category).sum + 12 ≤ R.locals) (d : decode cc pc = .ok (.invokespecial idx, 3)) (K : hc_G p l e R s m args below meth c Q E nL cells slots X lv (pc + 3) st) : hc_G p l e R s m args below meth c Q E nL cells slots X lv pc (.ref a :: st) := fun H locs ls hP hS hl =>
  W.objInit C.1.1 C.1.2.1 C.1.2.2.2.1 (C.1.2.2.2.2 _ (List.mem_cons_of_mem _ hw)) (C.1.2.2.2.2 _ (List.mem_cons_of_mem _ kI_objinit)) (C.1.2.2.2.2 _ (List.mem_cons_of_mem _ kC_objinit)) rfl (hl.1.trans C.1.2.2.1.symm) rfl d hf (show 2 * 0 + (st.map fun v => v.category).sum + 12 ≤ R.locals by omega) (K H locs ls hP hS hl)
theorem hc_get {k i a fld ci N index : Nat} {ref Cn : String} {T : u_T} {fs : List Value} {v : Value} (C : hc_C p s m args meth c cc own c0 nL E) (hX : X k i = some (a, .inr (ci, fs))) (hc : vwCl[ci]? = some (Cn, T, N)) (hf : fld < N) (hin : ∀ w ∈ u_ws Cn T N, w ∈ hr_W) (hw : Cond.fieldLink own index ref (T fld).2.1 (T fld).2.2.1 ∈ hr_W) (hr : (T fld).1 = ref) (hv : fs[fld]? = some v) (d : decode cc pc = .ok (.getfield index, 3)) (K : hc_G p l e R s m args below meth c Q E nL cells slots X lv (pc + 3) (v :: st)) : hc_G p l e R s m args below meth c Q E nL cells slots X lv pc (.ref a :: st) := fun H locs ls hP hS hl => by
  obtain ⟨n, hn⟩ := hc_L_get hP hX
  exact va_get C.1.1 C.1.2.1 C.1.2.2.2.2 (fun w h => List.mem_cons_of_mem _ (hin w h)) C.1.2.2.2.1 C.2.2.1 hP.list n hn hc fld hf (C.1.2.2.2.2 _ (List.mem_cons_of_mem _ hw)) (fun x h => by rw [← hr]; exact h) hv d (K H locs ls hP hS hl)
theorem hc_putF {k i a fld ci N index : Nat} {Cn : String} {T : u_T} {fs : List Value} {v : Value} {ty : FieldType} (C : hc_C p s m args meth c cc own c0 nL E) (hinit : meth.name = "<init>") (hX : X k i = some (a, .inr (ci, fs))) (hc : vwCl[ci]? = some (Cn, T, N)) (hf : fld < N) (hin : ∀ w ∈ u_ws Cn T N, w ∈ hr_W) (hw : Cond.fieldLink own index (T fld).1 (T fld).2.1 (T fld).2.2.1 ∈ hr_W) (hown : (T fld).1 = own) (ty0 : Nat → FieldType) (hty : ∀ k, k < N → parseFieldDescriptor (T k).2.2.1 = some (ty0 k)) (hnm : ∀ a, a < N → ∀ b, b < N → a ≠ b → (T a).2.1 ≠ (T b).2.1) (hfin : (T fld).2.2.2 = true) (hd : parseFieldDescriptor (T fld).2.2.1 = some ty) (hna : narrow ty v = v) (hfit : fits ty v = true) (hlen : fld < fs.length) (d : decode cc pc = .ok (.putfield index, 3)) (K : hc_G p l e R s m args below meth c Q E nL cells slots (hc_s X k i (a, .inr (ci, fs.set fld v))) lv (pc + 3) st) : hc_G p l e R s m args below meth c Q E nL cells slots X lv pc (v :: .ref a :: st) := fun H locs ls hP hS hl => by
  obtain ⟨n, hn⟩ := hc_L_get hP hX
  exact va_putF C.1.1 C.1.2.1 C.1.2.2.2.2 (fun w h => List.mem_cons_of_mem _ (hin w h)) ty0 hty hnm C.1.2.2.2.1 C.2.2.1 hP.list hP.D hS n hn hc fld hf (C.1.2.2.2.2 _ (List.mem_cons_of_mem _ hw)) (fun x h => h) hfin hinit hown hd hna hfit hlen d (fun H1 locs1 hP1 hD1 hS1 => K H1 locs1 ls (hc_P_set hP hX hn hP1) hS1 hl)
theorem hc_put {k i a fld ci N index : Nat} {Cn : String} {T : u_T} {fs : List Value} {v : Value} {ty : FieldType} (C : hc_C p s m args meth c cc own c0 nL E) (hX : X k i = some (a, .inr (ci, fs))) (hc : vwCl[ci]? = some (Cn, T, N)) (hf : fld < N) (hin : ∀ w ∈ u_ws Cn T N, w ∈ hr_W) (hw : Cond.fieldLink own index (T fld).1 (T fld).2.1 (T fld).2.2.1 ∈ hr_W) (ty0 : Nat → FieldType) (hty : ∀ k, k < N → parseFieldDescriptor (T k).2.2.1 = some (ty0 k)) (hnm : ∀ a, a < N → ∀ b, b < N → a ≠ b → (T a).2.1 ≠ (T b).2.1) (hfin : (T fld).2.2.2 = false) (hd : parseFieldDescriptor (T fld).2.2.1 = some ty) (hna : narrow ty v = v) (hfit : fits ty v = true) (hlen : fld < fs.length) (d : decode cc pc = .ok (.putfield index, 3)) (K : hc_G p l e R s m args below meth c Q E nL cells slots (hc_s X k i (a, .inr (ci, fs.set fld v))) lv (pc + 3) st) : hc_G p l e R s m args below meth c Q E nL cells slots X lv pc (v :: .ref a :: st) := fun H locs ls hP hS hl => by
  obtain ⟨n, hn⟩ := hc_L_get hP hX
  exact va_put C.1.1 C.1.2.1 C.1.2.2.2.2 (fun w h => List.mem_cons_of_mem _ (hin w h)) ty0 hty hnm C.1.2.2.2.1 C.2.2.1 hP.list hP.D hS n hn hc fld hf (C.1.2.2.2.2 _ (List.mem_cons_of_mem _ hw)) (fun x h => h) hfin hd hna hfit hlen d (fun H1 locs1 hP1 hD1 hS1 => K H1 locs1 ls (hc_P_set hP hX hn hP1) hS1 hl)
theorem hc_newa {atype : ArrayType} {ty : FieldType} {n : Int32} {N' : Nat} {a0 : vp_A} (t0 k i : Nat) (C : hc_C p s m args meth c cc own c0 nL E) (harr : Cond.arrayClass (newarray.typeOf atype) ∈ hr_W) (hty : newarray.typeOf atype = ty) (ht : (hr_tys E)[t0]? = some (E.2.2.1 t0, ty)) (hob : ∀ (U : State) (cA : ClassId), va_RA U cA ty → U.vm.findClass ("[" ++ ty.toString) = some cA) (hX : X k i = none) (hk : i < hr_cnt k) (ha : ∀ cA : ClassId, vp_cell cA a0 = arrV cA N' (fun _ => defaultValue ty)) (hn : ¬ n < 0) (hN : n.toNatClampNeg = N') (hbytes : N' * componentBytes ty ≤ 536870912) (hcells : cells + 1 ≤ R.cells) (hslots : slots + N' ≤ R.slots) (d : decode cc pc = .ok (.newarray atype, 2)) (K : ∀ q, hc_G p l e R s m args below meth c Q E nL (cells + 1) (slots + N') (hc_s X k i (q, .inl (E.2.2.1 t0, a0))) lv (pc + 2) (.ref q :: st)) : hc_G p l e R s m args below meth c Q E nL cells slots X lv pc (.int n :: st) := fun H locs ls hP hS hl =>
  va_newa C.1.1 C.1.2.1 (C.1.2.2.2.2 _ (List.mem_cons_of_mem _ harr)) hty C.2.2.1 hP.list hP.D hS C.2.2.2.1 ha hn hN hbytes hcells hslots d (fun q cA H1 hK1 hP1 hD1 hS1 => by
    have e1 : s.vm.findClass ("[" ++ ty.toString) = some cA := hob s cA ((hK1.2 (hr_tys E).length _ (by rw [List.getElem?_append_right (Nat.le_refl _), Nat.sub_self]; rfl)).2)
    have e2 : s.vm.findClass ("[" ++ ty.toString) = some (E.2.2.1 t0) := hob s _ (C.2.2.1.2 t0 _ ht).2
    cases Option.some.inj (e1.symm.trans e2)
    exact K q H1 locs ls (hc_P_new hP hX hk hP1 hD1) hS1 hl)
theorem hc_newq {Cn : String} {index : Nat} {n : Int32} {N' : Nat} (t0 k i : Nat) (C : hc_C p s m args meth c cc own c0 nL E) (hlink : Cond.classLink own index Cn ∈ hr_W) (hAO : va_AO Cn s) (ht : (hr_tys E)[t0]? = some (E.2.2.1 t0, .object Cn)) (hX : X k i = none) (hk : i < hr_cnt k) (hn : ¬ n < 0) (hN : n.toNatClampNeg = N') (hbytes : N' * 4 ≤ 536870912) (hcells : cells + 1 ≤ R.cells) (hslots : slots + N' ≤ R.slots) (d : decode cc pc = .ok (.anewarray index, 3)) (K : ∀ q, hc_G p l e R s m args below meth c Q E nL (cells + 1) (slots + N') (hc_s X k i (q, .inl (E.2.2.1 t0, N', .inr (.inr (.inr (.inr (fun _ => none))))))) lv (pc + 3) (.ref q :: st)) : hc_G p l e R s m args below meth c Q E nL cells slots X lv pc (.int n :: st) := fun H locs ls hP hS hl =>
  va_newq C.1.1 C.1.2.1 C.1.2.2.2.1 (C.1.2.2.2.2 _ (List.mem_cons_of_mem _ hlink)) hAO C.2.2.1 hP.list hP.D hS C.2.2.2.1 hn hN hbytes hcells hslots d (fun q cA H1 hK1 hP1 hD1 hS1 => by
    obtain ⟨kA, comp, -, -, -, e1⟩ : va_RA s cA (.object Cn) := (hK1.2 (hr_tys E).length _ (by rw [List.getElem?_append_right (Nat.le_refl _), Nat.sub_self]; rfl)).2
    obtain ⟨kA2, comp2, -, -, -, e2⟩ : va_RA s (E.2.2.1 t0) (.object Cn) := (C.2.2.1.2 t0 _ ht).2
    cases Option.some.inj (e1.symm.trans e2)
    exact K q H1 locs ls (hc_P_new hP hX hk hP1 hD1) hS1 hl)
theorem hc_new {Cn : String} {T : u_T} {N ci index : Nat} {fs : List Value} (k i : Nat) (C : hc_C p s m args meth c cc own c0 nL E) (hin : ∀ w ∈ u_ws Cn T N, w ∈ hr_W) (ty : Nat → FieldType) (hty : ∀ k, k < N → parseFieldDescriptor (T k).2.2.1 = some (ty k)) (hlink : Cond.classLink own index Cn ∈ hr_W) (hinst : Cond.instantiable Cn N ∈ hr_W) (hini : Cond.initialized Cn ∈ hr_W) (hc : vwCl[ci]? = some (Cn, T, N)) (hfs : ∀ j, j < N → defaultValue (ty j) = vp_V fs j) (hX : X k i = none) (hk : i < hr_cnt k) (hcells : cells + 1 ≤ R.cells) (hslots : slots + N ≤ R.slots) (d : decode cc pc = .ok (.new index, 3)) (K : ∀ q, hc_G p l e R s m args below meth c Q E nL (cells + 1) (slots + N) (hc_s X k i (q, .inr (ci, fs))) lv (pc + 3) (.ref q :: st)) : hc_G p l e R s m args below meth c Q E nL cells slots X lv pc st := fun H locs ls hP hS hl =>
  va_new C.1.1 C.1.2.1 C.1.2.2.2.2 (fun w h => List.mem_cons_of_mem _ (hin w h)) ty hty C.1.2.2.2.1 (C.1.2.2.2.2 _ (List.mem_cons_of_mem _ hlink)) (C.1.2.2.2.2 _ (List.mem_cons_of_mem _ hinst)) (C.1.2.2.2.2 _ (List.mem_cons_of_mem _ hini)) C.2.2.1 hP.list hP.D hS C.2.2.2.1 hc hfs hcells hslots d (fun q H1 hP1 hD1 hS1 => K q H1 locs ls (hc_P_new hP hX hk hP1 hD1) hS1 hl)
theorem hc_astq {k i a k2 i2 v ci n t0 : Nat} {r : vw_C} {vs : List Value} {f : Nat → Option Nat} {x : Int32} (j : Nat) (C : hc_C p s m args meth c cc own c0 nL E) (hX : X k i = some (a, .inl (E.2.2.1 t0, n, .inr (.inr (.inr (.inr f)))))) (hX2 : X k2 i2 = some (v, .inr (ci, vs))) (hc : vwCl[ci]? = some r) (ht : (hr_tys E)[t0]? = some (E.2.2.1 t0, .object r.1)) (hj : x = nI j) (hlt : j < n) (hn : n < 2 ^ 31) (d : decode cc pc = .ok (.aastore, 1)) (K : hc_G p l e R s m args below meth c Q E nL cells slots (hc_s X k i (a, .inl (E.2.2.1 t0, n, .inr (.inr (.inr (.inr (va_up f j (some v)))))))) lv (pc + 1) st) : hc_G p l e R s m args below meth c Q E nL cells slots X lv pc (.ref v :: .int x :: .ref a :: st) := fun H locs ls hP hS hl => by
  subst hj
  obtain ⟨n1, hn1⟩ := hc_L_get hP hX
  obtain ⟨n2, hn2⟩ := hc_L_get hP hX2
  refine va_astq C.1.1 C.1.2.1 C.2.2.1 hP.list hP.D hS n1 t0 n2 ci hn1 ht hn2 hc (vp_in_nI hlt hn) d (fun H1 locs1 hP1 hD1 hS1 => ?_)
  rw [nI_clamp (by omega)] at hP1
  exact K H1 locs1 ls (hc_P_set hP hX hn1 hP1) hS1 hl
theorem hc_iast {k i a n : Nat} {f : Nat → Int32} {y x : Int32} (j : Nat) (C : hc_C p s m args meth c cc own c0 nL E) (hX : X k i = some (a, .inl (E.2.2.1 0, n, .inl f))) (hj : y = nI j) (hlt : j < n) (hn : n < 2 ^ 31) (d : decode cc pc = .ok (.iastore, 1)) (K : hc_G p l e R s m args below meth c Q E nL cells slots (hc_s X k i (a, .inl (E.2.2.1 0, n, .inl (upd f j x)))) lv (pc + 1) st) : hc_G p l e R s m args below meth c Q E nL cells slots X lv pc (.int x :: .int y :: .ref a :: st) := fun H locs ls hP hS hl => by
  subst hj
  obtain ⟨n1, hn1⟩ := hc_L_get hP hX
  refine va_iast C.1.1 C.1.2.1 C.2.2.1 hP.list hP.D hS n1 0 hn1 rfl (vp_in_nI hlt hn) d (fun H1 locs1 hP1 hD1 hS1 => ?_)
  rw [nI_clamp (by omega)] at hP1
  exact K H1 locs1 ls (hc_P_set hP hX hn1 hP1) hS1 hl
theorem hc_alen {k i a n : Nat} {f : Nat → Int32} {v : Int32} (C : hc_C p s m args meth c cc own c0 nL E) (hX : X k i = some (a, .inl (E.2.2.1 0, n, .inl f))) (hv : Int32.ofNat n = v) (d : decode cc pc = .ok (.arraylength, 1)) (K : hc_G p l e R s m args below meth c Q E nL cells slots X lv (pc + 1) (.int v :: st)) : hc_G p l e R s m args below meth c Q E nL cells slots X lv pc (.ref a :: st) := fun H locs ls hP hS hl => by
  obtain ⟨n1, hn1⟩ := hc_L_get hP hX
  exact va_alen C.1.1 C.1.2.1 C.2.2.1 hP.list n1 0 hn1 (ty := .int) rfl hv d (K H locs ls hP hS hl)
theorem hc_vret {post : hc_X → Prop} (C : hc_C p s m args meth c cc own c0 nL E) (hr : meth.sig.returnType = none) (d : decode cc pc = .ok (.return_, 1)) (h : post X) :
    hc_G p l e R s m args below meth c (MQ below (va_Qv post (fun u t => hc_P E u t.heap) (hr_A E)) args s cells slots (hr_A E)) E nL cells slots X lv pc [] := fun H locs ls hP hS hl =>
  W.vret (hlocks := C.2.1) C.1.1 C.1.2.1 hr (fun t ht hW => ⟨⟨X, rfl, h, by show hc_P E X t.heap; rw [ht]; exact hP⟩, hS.F ht⟩) hS.2.2 d
theorem hc_pre (C : hc_C p s m args meth c cc own c0 nL E) {H : Heap} {locs : List Loc} (hP : hc_P E X H) (hS : va_S (hr_A E) s.heap H locs) (av : List Value) : ∀ U : State, U.heap = H → s.WarmedH U.vm → va_Pc av (fun U => hc_K E U ∧ hc_P E X U.heap) av.toArray U :=
  fun U hU hW => ⟨rfl, hc_K_moved C.2.2 hW hS hU, by rw [hU]; exact hP⟩
variable {y : MethodName} {bytes : ByteArray} {maxL n index b mc ms : Nat} {ws : List Cond} {rm : Room} {As : List Value} {host : String}
theorem hc_cI {post : hc_X → Prop} (C : hc_C p s m args meth c cc own c0 nL E) (hM : hc_Mv l E y ws rm (.ref b :: As) X post mc ms) (cw : CallB R s args own index y bytes maxL none ws rm mc ms n ∧ y.name = "<init>" ∧ (Cond.instanceMethod y).before args s = true)
    (hn : As.length = n) (hst : (st.map fun v => v.category).sum ≤ 8) (d : decode cc pc = .ok (.invokespecial index, 3)) (hR : cells + mc ≤ R.cells ∧ slots + ms ≤ R.slots) (K : ∀ (X1 : hc_X), post X1 → hc_G p l e R s m args below meth c Q E nL (cells + mc) (slots + ms) X1 lv (pc + 3) st) :
    ∀ {st0 : List Value}, st0 = As.reverse ++ .ref b :: st → hc_G p l e R s m args below meth c Q E nL cells slots X lv pc st0 := fun h0 H locs ls hP hS hl => by
  subst h0
  exact va_callv (va_runI (As := As) (rest := st) C.1 hM cw ⟨hc_blind E X _, hc_pre C hP hS _⟩ rfl hn hl.1 rfl (lv_room hst) d hR) hS (fun q _ h => h) (fun q h => h) (fun u t H1 locs1 ht hvm hw hB hz hk1 hS1 => K u hw H1 locs1 ls (by rw [← ht]; exact hB) hS1 hl)
theorem hc_cIN {post : hc_X → Prop} (C : hc_C p s m args meth c cc own c0 nL E) (hM : hc_Mv l E y ws rm (.ref b :: As) X post mc ms) (cw : va_CN R s args own index y host bytes maxL none ws rm mc ms n ∧ y.name = "<init>" ∧ (Cond.instanceMethod y).before args s = true)
    (hn : As.length = n) (hst : (st.map fun v => v.category).sum ≤ 8) (d : decode cc pc = .ok (.invokespecial index, 3)) (hR : cells + mc ≤ R.cells ∧ slots + ms ≤ R.slots) (K : ∀ (X1 : hc_X), post X1 → hc_G p l e R s m args below meth c Q E nL (cells + mc) (slots + ms) X1 lv (pc + 3) st) :
    ∀ {st0 : List Value}, st0 = As.reverse ++ .ref b :: st → hc_G p l e R s m args below meth c Q E nL cells slots X lv pc st0 := fun h0 H locs ls hP hS hl => by
  subst h0
  exact va_callv (va_runIN (As := As) (rest := st) C.1 hM cw ⟨hc_blind E X _, hc_pre C hP hS _⟩ rfl hn hl.1 rfl (lv_room hst) d hR) hS (fun q _ h => h) (fun q h => h) (fun u t H1 locs1 ht hvm hw hB hz hk1 hS1 => K u hw H1 locs1 ls (by rw [← ht]; exact hB) hS1 hl)
theorem hc_cS {post : hc_X → Prop} {ret : Option FieldType} (C : hc_C p s m args meth c cc own c0 nL E) (hM : hc_Mv l E y ws rm As X post mc ms) (cw : CallB R s args own index y bytes maxL ret ws rm mc ms n ∧ (Cond.static y).before args s = true)
    (hn : As.length = n) (hst : (st.map fun v => v.category).sum ≤ 8) (d : decode cc pc = .ok (.invokestatic index, 3)) (hR : cells + mc ≤ R.cells ∧ slots + ms ≤ R.slots) (K : ∀ (X1 : hc_X), post X1 → hc_G p l e R s m args below meth c Q E nL (cells + mc) (slots + ms) X1 lv (pc + 3) st) :
    ∀ {st0 : List Value}, st0 = As.reverse ++ st → hc_G p l e R s m args below meth c Q E nL cells slots X lv pc st0 := fun h0 H locs ls hP hS hl => by
  subst h0
  exact va_callv (va_runS (As := As) (rest := st) C.1 hM cw ⟨hc_blind E X _, hc_pre C hP hS _⟩ rfl hn hl.1 rfl (lv_room hst) d hR) hS (fun q _ h => h) (fun q h => h) (fun u t H1 locs1 ht hvm hw hB hz hk1 hS1 => K u hw H1 locs1 ls (by rw [← ht]; exact hB) hS1 hl)
end HC0
section HCB
variable {l : Launch} {E : hr_E} {y : MethodName} {rm : Room} {av : List Value} {X : hc_X} {cc : ByteArray} {maxL : Nat} {ret : Option FieldType} {mc ms : Nat}
theorem hc_of {Qc : Array Value → State → Outcome → State → Prop} (hy : plainName y.cls = true) (hn : (lg_sl av).length ≤ maxL)
    (body : ∀ (p : Program) (e : Env) (s : State) (m : MethodId) (below : List Frame) (meth : Method) (c : Code), hc_C p s m av.toArray meth c cc y.cls (Cond.code y cc maxL ret) maxL E → meth.sig.returnType = ret → meth.name = y.name →
      hc_G p l e rm s m av.toArray below meth c (MQ below Qc av.toArray s mc ms (hr_A E)) E maxL 0 0 X (lv_args 0 av) 0 []) : Met l y (Cond.code y cc maxL ret :: hr_W) rm (va_Pc av (fun U => hc_K E U ∧ hc_P E X U.heap)) Qc mc ms (hr_A E) := by
  refine Met.ofW (cc := cc) (maxL := maxL) (ret := ret) hy rfl ?_
  intro p e s m args below meth c s₁ B hml hv
  obtain ⟨rfl, hK, hP⟩ := hv
  have hown : s.vm.findClass y.cls = some m.cls := findClass_of_methodNamed B.named
  rw [lg_entry_eq]
  exact body p e s m below meth c ⟨⟨B.exec, B.bytes, hml, hown, atoms_spec (ws := Cond.code y cc maxL ret :: hr_W) B.pre⟩, B.notSynchronized, hK⟩ B.returns (name_of_methodNamed B.named B.method).1 s.heap [] _ hP va_S.rf (lv_entry av hn)
end HCB
