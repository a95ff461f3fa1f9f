section
-- ===== PART A: goes FIRST, ahead of the names: the tables' words, and 'selects' of the private methods out of them =====
/-- a private method of a class that the tables say can be made, by its rows of tables_1 -/
def lw_okq (q : MethodName × Nat) : Prop := (q.1.cls ≠ "java/lang/invoke/MethodHandle" ∧ q.1.cls ≠ "java/lang/invoke/VarHandle") ∧ Cond.instantiable q.1.cls q.2 ∈ tables_1 ∧ Cond.privateMethod q.1 ∈ tables_1 ∧ Cond.instanceMethod q.1 ∈ tables_1
theorem lw_p0 : lw_okq (⟨"java/lang/Throwable", "fillInStackTrace", "(I)Ljava/lang/Throwable;"⟩, 6) := ⟨⟨by decide +kernel, by decide +kernel⟩, List.mem_of_getElem? (i := 183) (by decide +kernel), List.mem_of_getElem? (i := 181) (by decide +kernel), List.mem_of_getElem? (i := 182) (by decide +kernel)⟩
theorem lw_p1 : lw_okq (⟨"HopRouters", "isUp", "(II)Z"⟩, 8) := ⟨⟨by decide +kernel, by decide +kernel⟩, List.mem_of_getElem? (i := 16) (by decide +kernel), List.mem_of_getElem? (i := 229) (by decide +kernel), List.mem_of_getElem? (i := 230) (by decide +kernel)⟩
theorem lw_p2 : lw_okq (⟨"HopRouters$Table", "becomeGone", "(I)V"⟩, 5) := ⟨⟨by decide +kernel, by decide +kernel⟩, List.mem_of_getElem? (i := 77) (by decide +kernel), List.mem_of_getElem? (i := 269) (by decide +kernel), List.mem_of_getElem? (i := 270) (by decide +kernel)⟩
theorem lw_p3 : lw_okq (⟨"HopRouters$Table", "forget", "(I)V"⟩, 5) := ⟨⟨by decide +kernel, by decide +kernel⟩, List.mem_of_getElem? (i := 77) (by decide +kernel), List.mem_of_getElem? (i := 284) (by decide +kernel), List.mem_of_getElem? (i := 285) (by decide +kernel)⟩
theorem lw_p4 : lw_okq (⟨"HopRouters", "passTime", "()V"⟩, 8) := ⟨⟨by decide +kernel, by decide +kernel⟩, List.mem_of_getElem? (i := 16) (by decide +kernel), List.mem_of_getElem? (i := 333) (by decide +kernel), List.mem_of_getElem? (i := 334) (by decide +kernel)⟩
theorem lw_p5 : lw_okq (⟨"HopRouters$Table", "ageRoute", "(I)V"⟩, 5) := ⟨⟨by decide +kernel, by decide +kernel⟩, List.mem_of_getElem? (i := 77) (by decide +kernel), List.mem_of_getElem? (i := 341) (by decide +kernel), List.mem_of_getElem? (i := 342) (by decide +kernel)⟩
theorem lw_p6 : lw_okq (⟨"HopRouters", "tellInTurn", "(I)V"⟩, 8) := ⟨⟨by decide +kernel, by decide +kernel⟩, List.mem_of_getElem? (i := 16) (by decide +kernel), List.mem_of_getElem? (i := 345) (by decide +kernel), List.mem_of_getElem? (i := 346) (by decide +kernel)⟩
theorem lw_p7 : lw_okq (⟨"HopRouters", "tell", "(IIZ)V"⟩, 8) := ⟨⟨by decide +kernel, by decide +kernel⟩, List.mem_of_getElem? (i := 16) (by decide +kernel), List.mem_of_getElem? (i := 353) (by decide +kernel), List.mem_of_getElem? (i := 354) (by decide +kernel)⟩
theorem lw_p8 : lw_okq (⟨"HopRouters", "bring", "(I)Z"⟩, 8) := ⟨⟨by decide +kernel, by decide +kernel⟩, List.mem_of_getElem? (i := 16) (by decide +kernel), List.mem_of_getElem? (i := 370) (by decide +kernel), List.mem_of_getElem? (i := 371) (by decide +kernel)⟩
theorem lw_p9 : lw_okq (⟨"HopRouters", "answerRequest", "()V"⟩, 8) := ⟨⟨by decide +kernel, by decide +kernel⟩, List.mem_of_getElem? (i := 16) (by decide +kernel), List.mem_of_getElem? (i := 394) (by decide +kernel), List.mem_of_getElem? (i := 395) (by decide +kernel)⟩
theorem lw_p10 : lw_okq (⟨"HopRouters$Packet", "hasPlainFields", "(II)Z"⟩, 4) := ⟨⟨by decide +kernel, by decide +kernel⟩, List.mem_of_getElem? (i := 33) (by decide +kernel), List.mem_of_getElem? (i := 403) (by decide +kernel), List.mem_of_getElem? (i := 404) (by decide +kernel)⟩
theorem lw_p11 : lw_okq (⟨"HopRouters", "metricAnswered", "(II)I"⟩, 8) := ⟨⟨by decide +kernel, by decide +kernel⟩, List.mem_of_getElem? (i := 16) (by decide +kernel), List.mem_of_getElem? (i := 421) (by decide +kernel), List.mem_of_getElem? (i := 422) (by decide +kernel)⟩
theorem lw_p12 : lw_okq (⟨"HopRouters", "hearResponse", "()V"⟩, 8) := ⟨⟨by decide +kernel, by decide +kernel⟩, List.mem_of_getElem? (i := 16) (by decide +kernel), List.mem_of_getElem? (i := 425) (by decide +kernel), List.mem_of_getElem? (i := 426) (by decide +kernel)⟩
theorem lw_p13 : lw_okq (⟨"HopRouters$Table", "adopt", "(III)V"⟩, 5) := ⟨⟨by decide +kernel, by decide +kernel⟩, List.mem_of_getElem? (i := 77) (by decide +kernel), List.mem_of_getElem? (i := 434) (by decide +kernel), List.mem_of_getElem? (i := 435) (by decide +kernel)⟩
theorem lw_p14 : lw_okq (⟨"HopRouters$Table", "hearFromNext", "(II)V"⟩, 5) := ⟨⟨by decide +kernel, by decide +kernel⟩, List.mem_of_getElem? (i := 77) (by decide +kernel), List.mem_of_getElem? (i := 438) (by decide +kernel), List.mem_of_getElem? (i := 439) (by decide +kernel)⟩
theorem lw_p15 : lw_okq (⟨"HopRouters", "checkPacket", "(I)V"⟩, 8) := ⟨⟨by decide +kernel, by decide +kernel⟩, List.mem_of_getElem? (i := 16) (by decide +kernel), List.mem_of_getElem? (i := 449) (by decide +kernel), List.mem_of_getElem? (i := 450) (by decide +kernel)⟩
def lw_privs_1 : List (MethodName × Nat) := [(⟨"java/lang/Throwable", "fillInStackTrace", "(I)Ljava/lang/Throwable;"⟩, 6), (⟨"HopRouters", "isUp", "(II)Z"⟩, 8), (⟨"HopRouters$Table", "becomeGone", "(I)V"⟩, 5), (⟨"HopRouters$Table", "forget", "(I)V"⟩, 5), (⟨"HopRouters", "passTime", "()V"⟩, 8), (⟨"HopRouters$Table", "ageRoute", "(I)V"⟩, 5), (⟨"HopRouters", "tellInTurn", "(I)V"⟩, 8), (⟨"HopRouters", "tell", "(IIZ)V"⟩, 8), (⟨"HopRouters", "bring", "(I)Z"⟩, 8), (⟨"HopRouters", "answerRequest", "()V"⟩, 8), (⟨"HopRouters$Packet", "hasPlainFields", "(II)Z"⟩, 4), (⟨"HopRouters", "metricAnswered", "(II)I"⟩, 8), (⟨"HopRouters", "hearResponse", "()V"⟩, 8), (⟨"HopRouters$Table", "adopt", "(III)V"⟩, 5), (⟨"HopRouters$Table", "hearFromNext", "(II)V"⟩, 5), (⟨"HopRouters", "checkPacket", "(I)V"⟩, 8)]
theorem lw_r1 : ∀ q ∈ lw_privs_1, lw_okq q := List.forall_mem_cons.mpr ⟨lw_p0, List.forall_mem_cons.mpr ⟨lw_p1, List.forall_mem_cons.mpr ⟨lw_p2, List.forall_mem_cons.mpr ⟨lw_p3, List.forall_mem_cons.mpr ⟨lw_p4, List.forall_mem_cons.mpr ⟨lw_p5, List.forall_mem_cons.mpr ⟨lw_p6, List.forall_mem_cons.mpr ⟨lw_p7, List.forall_mem_cons.mpr ⟨lw_p8, List.forall_mem_cons.mpr ⟨lw_p9, List.forall_mem_cons.mpr ⟨lw_p10, List.forall_mem_cons.mpr ⟨lw_p11, List.forall_mem_cons.mpr ⟨lw_p12, List.forall_mem_cons.mpr ⟨lw_p13, List.forall_mem_cons.mpr ⟨lw_p14, List.forall_mem_cons.mpr ⟨lw_p15, fun _ h => absurd h List.not_mem_nil⟩⟩⟩⟩⟩⟩⟩⟩⟩⟩⟩⟩⟩⟩⟩⟩
theorem lw_p16 : lw_okq (⟨"HopRoutersModel", "refuses", "(ZI)Z"⟩, 20) := ⟨⟨by decide +kernel, by decide +kernel⟩, List.mem_of_getElem? (i := 533) (by decide +kernel), List.mem_of_getElem? (i := 615) (by decide +kernel), List.mem_of_getElem? (i := 616) (by decide +kernel)⟩
theorem lw_p17 : lw_okq (⟨"HopRoutersModel", "gone", "(I)V"⟩, 20) := ⟨⟨by decide +kernel, by decide +kernel⟩, List.mem_of_getElem? (i := 533) (by decide +kernel), List.mem_of_getElem? (i := 623) (by decide +kernel), List.mem_of_getElem? (i := 624) (by decide +kernel)⟩
theorem lw_p18 : lw_okq (⟨"HopRoutersModel", "begin", "(I)V"⟩, 20) := ⟨⟨by decide +kernel, by decide +kernel⟩, List.mem_of_getElem? (i := 533) (by decide +kernel), List.mem_of_getElem? (i := 631) (by decide +kernel), List.mem_of_getElem? (i := 632) (by decide +kernel)⟩
theorem lw_p19 : lw_okq (⟨"HopRoutersModel", "put", "(I)V"⟩, 20) := ⟨⟨by decide +kernel, by decide +kernel⟩, List.mem_of_getElem? (i := 533) (by decide +kernel), List.mem_of_getElem? (i := 635) (by decide +kernel), List.mem_of_getElem? (i := 636) (by decide +kernel)⟩
theorem lw_p20 : lw_okq (⟨"HopRoutersModel", "entry", "(III)V"⟩, 20) := ⟨⟨by decide +kernel, by decide +kernel⟩, List.mem_of_getElem? (i := 533) (by decide +kernel), List.mem_of_getElem? (i := 639) (by decide +kernel), List.mem_of_getElem? (i := 640) (by decide +kernel)⟩
theorem lw_p21 : lw_okq (⟨"HopRoutersModel", "post", "(II)V"⟩, 20) := ⟨⟨by decide +kernel, by decide +kernel⟩, List.mem_of_getElem? (i := 533) (by decide +kernel), List.mem_of_getElem? (i := 643) (by decide +kernel), List.mem_of_getElem? (i := 644) (by decide +kernel)⟩
theorem lw_p22 : lw_okq (⟨"HopRoutersModel", "turn", "()V"⟩, 20) := ⟨⟨by decide +kernel, by decide +kernel⟩, List.mem_of_getElem? (i := 533) (by decide +kernel), List.mem_of_getElem? (i := 655) (by decide +kernel), List.mem_of_getElem? (i := 656) (by decide +kernel)⟩
theorem lw_p23 : lw_okq (⟨"HopRoutersModel", "turnRouter", "(I)V"⟩, 20) := ⟨⟨by decide +kernel, by decide +kernel⟩, List.mem_of_getElem? (i := 533) (by decide +kernel), List.mem_of_getElem? (i := 659) (by decide +kernel), List.mem_of_getElem? (i := 660) (by decide +kernel)⟩
theorem lw_p24 : lw_okq (⟨"HopRoutersModel", "tell", "(IIZZ)V"⟩, 20) := ⟨⟨by decide +kernel, by decide +kernel⟩, List.mem_of_getElem? (i := 533) (by decide +kernel), List.mem_of_getElem? (i := 663) (by decide +kernel), List.mem_of_getElem? (i := 664) (by decide +kernel)⟩
theorem lw_p25 : lw_okq (⟨"HopRoutersModel", "arrive", "(I)Z"⟩, 20) := ⟨⟨by decide +kernel, by decide +kernel⟩, List.mem_of_getElem? (i := 533) (by decide +kernel), List.mem_of_getElem? (i := 667) (by decide +kernel), List.mem_of_getElem? (i := 668) (by decide +kernel)⟩
theorem lw_p26 : lw_okq (⟨"HopRoutersModel", "takeOut", "(I)V"⟩, 20) := ⟨⟨by decide +kernel, by decide +kernel⟩, List.mem_of_getElem? (i := 533) (by decide +kernel), List.mem_of_getElem? (i := 671) (by decide +kernel), List.mem_of_getElem? (i := 672) (by decide +kernel)⟩
theorem lw_p27 : lw_okq (⟨"HopRoutersModel", "answer", "(II)V"⟩, 20) := ⟨⟨by decide +kernel, by decide +kernel⟩, List.mem_of_getElem? (i := 533) (by decide +kernel), List.mem_of_getElem? (i := 675) (by decide +kernel), List.mem_of_getElem? (i := 676) (by decide +kernel)⟩
theorem lw_p28 : lw_okq (⟨"HopRoutersModel", "isFilled", "(II)Z"⟩, 20) := ⟨⟨by decide +kernel, by decide +kernel⟩, List.mem_of_getElem? (i := 533) (by decide +kernel), List.mem_of_getElem? (i := 679) (by decide +kernel), List.mem_of_getElem? (i := 680) (by decide +kernel)⟩
theorem lw_p29 : lw_okq (⟨"HopRoutersModel", "isSound", "(I)Z"⟩, 20) := ⟨⟨by decide +kernel, by decide +kernel⟩, List.mem_of_getElem? (i := 533) (by decide +kernel), List.mem_of_getElem? (i := 683) (by decide +kernel), List.mem_of_getElem? (i := 684) (by decide +kernel)⟩
theorem lw_p30 : lw_okq (⟨"HopRoutersModel", "hear", "(IIII)V"⟩, 20) := ⟨⟨by decide +kernel, by decide +kernel⟩, List.mem_of_getElem? (i := 533) (by decide +kernel), List.mem_of_getElem? (i := 687) (by decide +kernel), List.mem_of_getElem? (i := 688) (by decide +kernel)⟩
theorem lw_p31 : lw_okq (⟨"HopRoutersModel", "lacks", "(I)Z"⟩, 20) := ⟨⟨by decide +kernel, by decide +kernel⟩, List.mem_of_getElem? (i := 533) (by decide +kernel), List.mem_of_getElem? (i := 695) (by decide +kernel), List.mem_of_getElem? (i := 696) (by decide +kernel)⟩
def lw_privs_2 : List (MethodName × Nat) := [(⟨"HopRoutersModel", "refuses", "(ZI)Z"⟩, 20), (⟨"HopRoutersModel", "gone", "(I)V"⟩, 20), (⟨"HopRoutersModel", "begin", "(I)V"⟩, 20), (⟨"HopRoutersModel", "put", "(I)V"⟩, 20), (⟨"HopRoutersModel", "entry", "(III)V"⟩, 20), (⟨"HopRoutersModel", "post", "(II)V"⟩, 20), (⟨"HopRoutersModel", "turn", "()V"⟩, 20), (⟨"HopRoutersModel", "turnRouter", "(I)V"⟩, 20), (⟨"HopRoutersModel", "tell", "(IIZZ)V"⟩, 20), (⟨"HopRoutersModel", "arrive", "(I)Z"⟩, 20), (⟨"HopRoutersModel", "takeOut", "(I)V"⟩, 20), (⟨"HopRoutersModel", "answer", "(II)V"⟩, 20), (⟨"HopRoutersModel", "isFilled", "(II)Z"⟩, 20), (⟨"HopRoutersModel", "isSound", "(I)Z"⟩, 20), (⟨"HopRoutersModel", "hear", "(IIII)V"⟩, 20), (⟨"HopRoutersModel", "lacks", "(I)Z"⟩, 20)]
theorem lw_r2 : ∀ q ∈ lw_privs_2, lw_okq q := List.forall_mem_cons.mpr ⟨lw_p16, List.forall_mem_cons.mpr ⟨lw_p17, List.forall_mem_cons.mpr ⟨lw_p18, List.forall_mem_cons.mpr ⟨lw_p19, List.forall_mem_cons.mpr ⟨lw_p20, List.forall_mem_cons.mpr ⟨lw_p21, List.forall_mem_cons.mpr ⟨lw_p22, List.forall_mem_cons.mpr ⟨lw_p23, List.forall_mem_cons.mpr ⟨lw_p24, List.forall_mem_cons.mpr ⟨lw_p25, List.forall_mem_cons.mpr ⟨lw_p26, List.forall_mem_cons.mpr ⟨lw_p27, List.forall_mem_cons.mpr ⟨lw_p28, List.forall_mem_cons.mpr ⟨lw_p29, List.forall_mem_cons.mpr ⟨lw_p30, List.forall_mem_cons.mpr ⟨lw_p31, fun _ h => absurd h List.not_mem_nil⟩⟩⟩⟩⟩⟩⟩⟩⟩⟩⟩⟩⟩⟩⟩⟩
def lw_privs : List (MethodName × Nat) := lw_privs_1 ++ (lw_privs_2)
def lw_tbl : List Cond := k2_sels lw_privs ++ tables_1
theorem lw_privs_ok : ∀ q ∈ lw_privs, lw_okq q := by
  show ∀ q ∈ lw_privs_1 ++ (lw_privs_2), lw_okq q
  exact List.forall_mem_append.mpr ⟨lw_r1, lw_r2⟩
end
section
/-! catching in the caller's own table, its classes linked late or early: my own rows (the rounds' library has none of this form) -/
section ZC
variable {e : Env} {f : JFrame} {a : Addr}
/-- a row of a handler table that is asked for the class k of what was thrown, links to it, and takes it or not -/
theorem zc_ask {Q : Handler → Pre} {E : CtlPost} {d : Bool} {acts : List Action} {S : State} {x : ExceptionTableEntry} {t : List ExceptionTableEntry} {k : ClassId} {cell : Cell}
    (hx : covers x f.pc = true) (h0 : x.catchType ≠ 0) (hl : S.vm.ClassLinks e.platform f.method.cls x.catchType k) (hcell : S.heap[a]? = some cell) (hobj : ∀ z, cell.vm ≠ .statics z)
    (hk : ∃ z, S.vm.classes[cell.cls]? = some z) (hc : ∃ z, S.vm.classes[k]? = some z) :
    (S.vm.assignable cell.cls k = true → (wp (findHandler.go f a (x :: t)) Q E e d acts S ↔ Q (.found x.handlerPc) d acts (S.setVm (S.vm.noted f.method.cls x.catchType (.cls k))))) ∧
    (S.vm.assignable cell.cls k = false → (wp (findHandler.go f a (x :: t)) Q E e d acts S ↔ wp (findHandler.go f a t) Q E e d acts (S.setVm (S.vm.noted f.method.cls x.catchType (.cls k))))) := by
  have hal : S.vm.Alike (S.vm.noted f.method.cls x.catchType (.cls k)) := (Vm.Alike.refl S.vm).noted _ _ _
  obtain ⟨u1, hu1⟩ := hk
  obtain ⟨u2, hu2⟩ := hc
  obtain ⟨v1, hv1, -⟩ := hal.2.2 _ _ hu1
  obtain ⟨v2, hv2, -⟩ := hal.2.2 _ _ hu2
  obtain ⟨ha, ht⟩ := (resolveClass_links e.toSetting hl).op (op := VmOp.resolveClass f.method.cls x.catchType) rfl
  have hasg := hal.assignable cell.cls k
  simp only [covers] at hx
  constructor
  · intro h
    rw [← hasg] at h
    simp [findHandler.go, hx, h0, ha, ht, hcell, hobj, hv1, hv2, h, VmOp.dirties, VmOp.acts]
  · intro h
    rw [← hasg] at h
    simp [findHandler.go, hx, h0, ha, ht, hcell, hobj, hv1, hv2, h, VmOp.dirties, VmOp.acts]
/-- the search through rows that don't take it, up to the one that does -/
theorem zc_walk {s : State} {cell : Cell} (hobj : ∀ z, cell.vm ≠ .statics z) (hk0 : ∃ z, s.vm.classes[cell.cls]? = some z) (x : ExceptionTableEntry) (suf : List ExceptionTableEntry) (hx : covers x f.pc = true) (h0 : x.catchType ≠ 0)
    {k : ClassId} (hl : s.vm.ClassLinks e.platform f.method.cls x.catchType k) (hfit : s.vm.assignable cell.cls k = true) :
    ∀ (pre : List ExceptionTableEntry) (S : State), s.WarmedH S.vm → S.heap[a]? = some cell →
      (∀ y ∈ pre, covers y f.pc = false ∨ (y.catchType ≠ 0 ∧ ∃ c, s.vm.ClassLinks e.platform f.method.cls y.catchType c ∧ s.vm.assignable cell.cls c = false)) →
      ∃ vm', s.WarmedH vm' ∧ ∀ (Q : Handler → Pre) (E : CtlPost) (d : Bool) (acts : List Action), wp (findHandler.go f a (pre ++ x :: suf)) Q E e d acts S ↔ Q (.found x.handlerPc) d acts (S.setVm vm') := by
  obtain ⟨z0, hz0⟩ := hk0
  intro pre
  induction pre with
  | nil =>
    intro S hW hcell _
    obtain ⟨z1, hz1, -⟩ := hW.alike.2.2 _ _ hz0
    obtain ⟨dk, _, _, kt, hd, _, _, _, _, hkt, _, hopen⟩ := hl.here
    obtain ⟨z2, hz2, -⟩ := hW.alike.2.2 _ _ hkt
    refine ⟨_, hW.noted hd hopen (State.rightAt_cls hl), fun Q E d acts => ?_⟩
    rw [List.nil_append]
    exact (zc_ask hx h0 (hW.classLinks hl) hcell hobj ⟨z1, hz1⟩ ⟨z2, hz2⟩).1 (by rw [hW.alike.assignable]; exact hfit)
  | cons y ys ih =>
    intro S hW hcell hpass
    have hrest := fun z hz => hpass z (List.mem_cons_of_mem _ hz)
    have hy := hpass y List.mem_cons_self
    cases hcov : covers y f.pc with
    | false =>
      obtain ⟨vm', hW', hq⟩ := ih S hW hcell hrest
      refine ⟨vm', hW', fun Q E d acts => ?_⟩
      rw [List.cons_append, W.findHandler_go_skip hcov]
      exact hq Q E d acts
    | true =>
      rcases hy with h | ⟨hy0, c, hlc, hno⟩
      · rw [hcov] at h; cases h
      obtain ⟨z1, hz1, -⟩ := hW.alike.2.2 _ _ hz0
      obtain ⟨dk, _, _, kt, hd, _, _, _, _, hkt, _, hopen⟩ := hlc.here
      obtain ⟨z2, hz2, -⟩ := hW.alike.2.2 _ _ hkt
      obtain ⟨vm', hW', hq⟩ := ih (S.setVm (S.vm.noted f.method.cls y.catchType (.cls c))) (hW.noted hd hopen (State.rightAt_cls hlc)) hcell hrest
      refine ⟨vm', hW', fun Q E d acts => ?_⟩
      rw [List.cons_append, (zc_ask hcov hy0 (hW.classLinks hlc) hcell hobj ⟨z1, hz1⟩ ⟨z2, hz2⟩).2 (by rw [hW.alike.assignable]; exact hno)]
      exact hq Q E d acts
variable {p : Program} {l : Launch} {R : Room} {s : State} {m : MethodId} {args : Array Value} {below : List Frame} {meth : Method} {c : Code} {T : State} {locs : List Loc} {cells slots : Nat}
/-- caught: the machine goes on at the handler -/
theorem zc_caught (X : Stand p l e R s m args below meth c T locs cells slots) (q : Addr) {g : JFrame} (hg : g.method = m) {cell : Cell} (hcell : T.heap[q]? = some cell) (hobj : cell.vm.isStatics = false) (hk0 : ∃ z, s.vm.classes[cell.cls]? = some z)
    (pre : List ExceptionTableEntry) (x : ExceptionTableEntry) (suf : List ExceptionTableEntry) (hsplit : c.exceptionTable.toList = pre ++ x :: suf)
    (hpass : ∀ y ∈ pre, covers y g.pc = false ∨ (y.catchType ≠ 0 ∧ ∃ c, s.vm.ClassLinks e.platform m.cls y.catchType c ∧ s.vm.assignable cell.cls c = false)) (hx : covers x g.pc = true) (h0 : x.catchType ≠ 0)
    {k : ClassId} (hl : s.vm.ClassLinks e.platform m.cls x.catchType k) (hfit : s.vm.assignable cell.cls k = true) :
    ∃ vm', Stand p l e R s m args below meth c (T.setVm vm') locs cells slots ∧
      ∀ target, Steps p.tables e below ((T.setVm vm').setTop { g with pc := x.handlerPc, stack := [.ref q] }) target → Steps p.tables e below ((T.setTop g).pushFrame (.throwing q)) target := by
  subst hg
  have hne : ∀ z, cell.vm ≠ .statics z := fun z h => by rw [h] at hobj; cases hobj
  have hS1 : ((T.setTop g).pushFrame (.throwing q)).vm = T.vm := Stand.throwing_vm T g q
  have hS2 : ((T.setTop g).pushFrame (.throwing q)).heap = T.heap := Stand.throwing_heap T g q
  obtain ⟨vm', hW', hq⟩ := zc_walk (e := e) (f := g) (a := q) (s := s) hne hk0 x suf hx h0 hl hfit pre ((T.setTop g).pushFrame (.throwing q)) (by rw [hS1]; exact X.warmed) (by rw [hS2]; exact hcell) hpass
  refine ⟨vm', X.noted hW', fun target hrest => ?_⟩
  have hf : ∀ (Q : Handler → Pre) (E : CtlPost) (d : Bool) (acts : List Action), wp (findHandler g q) Q E e d acts ((T.setTop g).pushFrame (.throwing q)) ↔ Q (.found x.handlerPc) d acts (((T.setTop g).pushFrame (.throwing q)).setVm vm') := by
    intro Q E d acts
    rw [W.findHandler_eq (meth := meth) (code := c) (by rw [hS1]; exact X.method') X.code, hsplit]
    exact hq Q E d acts
  have h : At T g.method c below := X.here
  obtain ⟨hgo, hw⟩ := h.throwing q
  refine Steps.head hgo hw ?_
  have hstep : ∀ r, (stepThrowing e ((T.setTop g).pushFrame (.throwing q)) q (.java g :: r)).Is ((((T.setTop g).pushFrame (.throwing q)).setVm vm').setFrames (.java { g with pc := x.handlerPc, stack := [.ref q] } :: r)) [] := by
    intro r
    simp only [stepThrowing, searchFrame, vmDo]
    generalize hr : Sem.go _ e false [] ((T.setTop g).pushFrame (.throwing q)) = res
    obtain ⟨as, rfl, ha⟩ := Sem.eq_ok_of hr (a := Handler.found x.handlerPc) (s' := ((T.setTop g).pushFrame (.throwing q)).setVm vm') (acts' := []) (by simp [hf _ _ _ _])
    exact ⟨rfl, ha⟩
  rw [stepThread_throwing (frames_entered h.top _), (hstep _).1]
  obtain ⟨g₀, hg0⟩ := Option.isSome_iff_exists.mp h.top
  obtain ⟨r, hr⟩ := State.topJava?_eq_some.mp hg0
  have hr' : (T.setVm vm').frames = .java g₀ :: r := hr
  rw [State.setTop_of_frames _ hr'] at hrest
  have e1 : ∀ (u : State) (F G : List Frame), ((u.setFrames F).setVm vm').setFrames G = (u.setVm vm').setFrames G := fun u F G => by
    have h1 : (u.setFrames F).setVm vm' = (u.setVm vm').setFrames F := rfl
    rw [h1, State.setFrames_setFrames]
  rw [hr, List.tail_cons, State.pushFrame, e1, State.setTop_of_frames _ hr, e1]
  exact hrest
end ZC
/-! ===== BEGIN words of one list among another's, by their places ===== -/
theorem goodIn_r {big : List Cond} (ws : List Cond) (ps : List Nat) (hp : ws = ps.filterMap (fun i => big[i]?)) (h : ws.all goodWord = true) : GoodIn big ws := by
  intro w hw
  have h1 := List.all_eq_true.mp h w hw
  rw [hp] at hw
  obtain ⟨i, -, hi⟩ := List.mem_filterMap.mp hw
  have hm : w ∈ big := by first | exact List.mem_of_getElem? hi | exact List.getElem?_mem hi
  exact ⟨hm, good_of_word h1⟩
theorem goodIn_app {big a b : List Cond} (ha : GoodIn big a) (hb : GoodIn big b) : GoodIn big (a ++ b) := fun w h => (List.mem_append.mp h).elim (ha w) (hb w)
theorem goodIn_ca {big a b : List Cond} {c : Cond} (ha : GoodIn big (c :: a)) (hb : GoodIn big b) : GoodIn big (c :: (a ++ b)) := fun w h => (List.mem_cons.mp h).elim (fun e => ha w (List.mem_cons.mpr (Or.inl e))) (fun h => (List.mem_append.mp h).elim (fun h => ha w (List.mem_cons.mpr (Or.inr h))) (hb w))
theorem goodIn_sub {big ws : List Cond} (hm : ∀ w ∈ ws, w ∈ big) (h : ws.all goodWord = true) : GoodIn big ws := fun w hw => ⟨hm w hw, good_of_word (List.all_eq_true.mp h w hw)⟩
/-! ===== END ===== -/

/-! ===== BEGIN exceptions that leave a method, and their catching by the caller (launches without stack traces) ===== -/
section VXA
/-! The laws vx_back, vx_callV, vx_callS, vx_callSW, vx_throw0, vx_throwS follow proofs of the library, with one case more: JvmDerived/Free/Laws.lean (Back.of_free), Shelf42/LK1.lean (callV, callS), Shelf/KitTraced.lean (throwNew0V, throwNewS). -/
/-- where a method has thrown q: the class by its name, the cell, what was written, the world -/
def vx_T (XC : String → State → State → Prop) (st : State) (q : Addr) (t : State) (mc ms : Nat) (free : Addr → Prop) : Prop :=
  ∃ (E : String) (ce : Cell) (L : List Loc), XC E st t ∧ t.heap[q]? = some ce ∧ ce.vm = .none ∧ st.vm.findClass E = some ce.cls ∧ st.WarmedH t.vm ∧ st.sameButNew ({ t with vm := st.vm } : State) L mc ms ∧ ∀ z ∈ L, free z.base
def vx_Q (Qc : Array Value → State → Outcome → State → Prop) (XC : String → State → State → Prop) (mc ms : Nat) (free : Addr → Prop) : Array Value → State → Outcome → State → Prop := fun a st o t =>
  (Qc a st o t ∧ ∃ L, FrameEnd st o t L mc ms ∧ ∀ q ∈ L, free q.base) ∨ ∃ q, o = .threw q ∧ vx_T XC st q t mc ms free
/-- a callee that returns or throws -/
def vx_Met (l : Launch) (y : MethodName) (ws : List Cond) (rm : Room) (Pc : Array Value → State → Prop) (Qc : Array Value → State → Outcome → State → Prop) (XC : String → State → State → Prop) (mc ms : Nat) (free : Addr → Prop) : Prop :=
  MetFree l y (headSpec ws rm) Pc (fun _ _ _ _ _ => True) (vx_Q Qc XC mc ms free)
def vx_Post (XC : String → State → State → Prop) (mc ms : Nat) (free : Addr → Prop) : Pt → Array Value → Addr → Pt → Prop := fun A a q B =>
  ∃ (g : JFrame) (mk : MethodId) (t : State) (L : List Loc) (E : String) (ce : Cell), B.U.heap = t.heap ∧ B.U.vm = t.vm ∧ XC E (A.U.calling g mk a) t ∧ t.heap[q]? = some ce ∧ ce.vm = .none ∧ A.U.vm.findClass E = some ce.cls ∧ B.locs = A.locs ++ L ∧ (∀ z ∈ L, free z.base) ∧ B.cells = A.cells + mc ∧ B.slots = A.slots + ms
def vx_Back (l : Launch) (R : Room) (p : Program) (e : Env) (below : List Frame) (s : State) (sargs : Array Value) (y : MethodName) (len W9 : Nat)
    (Pre : Pt → Array Value → Prop) (Post : Pt → Array Value → Option Value → Pt → Prop) (PostX : Pt → Array Value → Addr → Pt → Prop) : Prop :=
  ∀ (m : MethodId) (meth : Method) (c : Code) (A : Pt) (g : JFrame) (ig : Instr) (mk : MethodId) (a : Array Value),
    Stand p l e R s m sargs below meth c A.U A.locs A.cells A.slots → g.method = m → g.locals.size = c.maxLocals → decode c.code g.pc = .ok (ig, len) →
    2 * g.monitorRoom + (g.stack.map fun v => v.category).sum ≤ W9 → A.U.methodNamed? y = some mk → Pre A a →
    (∃ (v : Option Value) (B : Pt), Stand p l e R s m sargs below meth c B.U B.locs B.cells B.slots ∧ Post A a v B ∧
      Steps p.tables e below (doInvoke e (A.U.setTop g) [] mk a).1 (B.U.setTop { g with pc := g.pc + len, stack := v.toList ++ g.stack })) ∨
    (∃ (q : Addr) (B : Pt), Stand p l e R s m sargs below meth c B.U B.locs B.cells B.slots ∧ PostX A a q B ∧
      Steps p.tables e below (doInvoke e (A.U.setTop g) [] mk a).1 ((B.U.setTop g).pushFrame (.throwing q)))
section Payer
variable {l : Launch} {R : Room} {p : Program} {e : Env} {below : List Frame} {s : State} {sargs : Array Value} {y : MethodName} {len W9 : Nat}
theorem vx_back {ws : List Cond} {rm : Room} {Pc : Array Value → State → Prop} {Qc : Array Value → State → Outcome → State → Prop} {XC : String → State → State → Prop} {mc ms : Nat} {free : Addr → Prop} {bytes : ByteArray} {maxL : Nat} {ret : Option FieldType}
    (hM : vx_Met l y ws rm Pc Qc XC mc ms free) (hblind : FrameBlind Pc) (hrc : rm.cells = mc) (hrs : rm.slots = ms)
    (hframes : rm.frames + 1 ≤ R.frames) (hlocals : W9 + (maxL + 11) + rm.locals ≤ R.locals)
    (hws : ∀ w ∈ ws, ∀ a' U, s.WarmedH U.vm → w.before a' U = true) (hcode : Cond.code y bytes maxL ret ∈ ws) (hinit : ∀ a' U, s.WarmedH U.vm → (Cond.initialized y.cls).before a' U = true) :
    vx_Back l R p e below s sargs y len W9 (PreOf R mc ms Pc) (PostOf Qc mc ms free) (vx_Post XC mc ms free) := by
  intro m meth c A g ig mk a X hg hsize hdg hW hn hp
  have h1 : (headSpec ws rm).pre.before a A.U = true := atoms_intro fun w hw => hws w hw _ _ X.warmed
  have h2 : (Cond.code y bytes maxL ret).before a A.U = true := hws _ hcode _ _ X.warmed
  have h3 : (Cond.initialized y.cls).before a A.U = true := hinit _ _ X.warmed
  have h4 : A.cells + (headSpec ws rm).room.cells ≤ R.cells := by rw [show (headSpec ws rm).room.cells = mc from hrc]; exact hp.1
  have h5 : A.slots + (headSpec ws rm).room.slots ≤ R.slots := by rw [show (headSpec ws rm).room.slots = ms from hrs]; exact hp.2.1
  have hPc : Pc a (A.U.calling g mk a) := hblind _ _ _ _ hp.2.2
  obtain ⟨U, Ls, c0, s0⟩ := A
  dsimp only [Pt.U, Pt.locs, Pt.cells, Pt.slots] at h1 h2 h3 h4 h5 X hn hPc ⊢
  obtain ⟨methY, cY, hmY, hcY, -, hlY, -, -, -, -⟩ := Cond.code_spec hn h2
  obtain ⟨kY, hkY, -⟩ := className_of_methodNamed hn
  have hinitY : kY.init = .initialized := Cond.initialized_spec (findClass_of_methodNamed hn) hkY h3
  have h : At U g.method c below := by rw [hg]; exact X.here
  have hlocals9 : W9 + (maxL + 11) + (headSpec ws rm).room.locals ≤ R.locals := hlocals
  have happ : (headSpec ws rm).appliesLoose y e.platform (U.calling g mk a) = true :=
    Spec.appliesLoose_calling (g := g) h hdg hn hkY hinitY
      (X.room_calling (g := g) (R' := (headSpec ws rm).room) hsize hmY hcY hframes (by rw [hlY]; omega) h4 h5) h1
  obtain ⟨mid, hmid⟩ := h.above
  have hfr : (U.setTop g).frames = (.java g :: mid) ++ below := by rw [State.frames_setTop' g h.top, hmid]; rfl
  obtain ⟨o, s₂, hsteps, -, hend, hq⟩ := Steps.callFree hM p X.admits X.cas X.clock (acts := []) hfr happ hPc trivial
  have hq' : vx_Q Qc XC mc ms free a (U.calling g mk a) o s₂ := hq
  rw [State.frames_setTop' g h.top] at hend
  obtain ⟨g₀, hg0⟩ := Option.isSome_iff_exists.mp h.top
  obtain ⟨r, hr⟩ := State.topJava?_eq_some.mp hg0
  have hr' : (({ U with heap := s₂.heap, slotsUsed := s₂.slotsUsed } : State).setVm s₂.vm).frames = .java g₀ :: r := hr
  rcases hq' with ⟨hqc, L, hfe, hL⟩ | ⟨q, rfl, E, ce, L, hx, hce, hcv, hcl, hW₂, hsm, hL⟩
  · obtain ⟨⟨v, rfl⟩, hW₂, e2, q2, q3, q4, q5, q6⟩ := id hfe
    have e3 : s₂ = ({ (U.calling g mk a).setFrames s₂.frames with heap := s₂.heap, slotsUsed := s₂.slotsUsed } : State).setVm s₂.vm := by
      have : s₂ = ({ s₂ with vm := (U.calling g mk a).vm } : State).setVm s₂.vm := rfl
      rw [e2] at this
      exact this
    obtain ⟨c₂, i₂, len₂, hc₂, hd₂, hf₂⟩ := hend
    have hW' : U.WarmedH s₂.vm := hW₂
    have hcc : c₂ = c := by
      have h1 : s₂.code? g.method = U.code? g.method := by
        rw [State.code?_eq, State.code?_eq, hW'.alike.method?]
      exact Option.some.inj (hc₂.symm.trans (h1.trans h.code))
    subst hcc
    have hlen : len₂ = len := by rw [hdg] at hd₂; cases hd₂; rfl
    subst hlen
    have hs₂ : s₂ = (({ U with heap := s₂.heap, slotsUsed := s₂.slotsUsed } : State).setVm s₂.vm).setTop { g with pc := g.pc + len₂, stack := v.toList ++ g.stack } := by
      refine e3.trans ?_
      rw [hf₂, State.calling_eq h.top, State.setFrames_setFrames, State.setTop_of_frames _ hr', hr]
      rfl
    have hsame : U.sameButNew ({ U with heap := s₂.heap, slotsUsed := s₂.slotsUsed } : State) L mc ms := by
      refine ⟨?_, q2, q3, q4, q5, q6⟩
      obtain ⟨t, ht, -⟩ := State.frames_cons hr
      show ({ U with heap := s₂.heap, slotsUsed := s₂.slotsUsed } : State) = { U.setFrames U.frames with heap := s₂.heap, slotsUsed := s₂.slotsUsed }
      rw [State.setFrames_self ht]
    subst hg
    refine Or.inl ⟨v, ⟨(({ U with heap := s₂.heap, slotsUsed := s₂.slotsUsed } : State).setVm s₂.vm), Ls ++ L, c0 + mc, s0 + ms⟩,
      ⟨X.admits, X.cas, X.clock, X.frames, X.room, X.hears, X.method, X.code, (X.here.setHeapUsed s₂.heap s₂.slotsUsed).setVm hW'.alike, X.tail, State.WarmedH.trans X.warmed hW', X.limits, X.bytes, X.same.trans (hsame.setVm s.vm)⟩,
      ⟨g, mk, s₂, L, rfl, rfl, hqc, rfl, hL, rfl, rfl⟩, ?_⟩
    show Steps p.tables e below _ ((({ U with heap := s₂.heap, slotsUsed := s₂.slotsUsed } : State).setVm s₂.vm).setTop { g with pc := g.pc + len₂, stack := v.toList ++ g.stack })
    rw [← hs₂]
    exact hsteps
  · obtain ⟨e2, q2, q3, q4, q5, q6⟩ := id hsm
    have e3 : s₂ = ({ (U.calling g mk a).setFrames s₂.frames with heap := s₂.heap, slotsUsed := s₂.slotsUsed } : State).setVm s₂.vm := by
      have : s₂ = ({ s₂ with vm := (U.calling g mk a).vm } : State).setVm s₂.vm := rfl
      rw [e2] at this
      exact this
    have hf₂ : s₂.frames = .throwing q :: .java g :: U.frames.tail := hend
    have hW' : U.WarmedH s₂.vm := hW₂
    have hs₂ : s₂ = ((({ U with heap := s₂.heap, slotsUsed := s₂.slotsUsed } : State).setVm s₂.vm).setTop g).pushFrame (.throwing q) := by
      refine e3.trans ?_
      rw [hf₂, State.calling_eq h.top, State.setFrames_setFrames, State.pushFrame, State.frames_setTop _ hr', State.setTop_of_frames _ hr', State.setFrames_setFrames, hr]
      rfl
    have hsame : U.sameButNew ({ U with heap := s₂.heap, slotsUsed := s₂.slotsUsed } : State) L mc ms := by
      refine ⟨?_, q2, q3, q4, q5, q6⟩
      obtain ⟨t, ht, -⟩ := State.frames_cons hr
      show ({ U with heap := s₂.heap, slotsUsed := s₂.slotsUsed } : State) = { U.setFrames U.frames with heap := s₂.heap, slotsUsed := s₂.slotsUsed }
      rw [State.setFrames_self ht]
    subst hg
    refine Or.inr ⟨q, ⟨(({ U with heap := s₂.heap, slotsUsed := s₂.slotsUsed } : State).setVm s₂.vm), Ls ++ L, c0 + mc, s0 + ms⟩,
      ⟨X.admits, X.cas, X.clock, X.frames, X.room, X.hears, X.method, X.code, (X.here.setHeapUsed s₂.heap s₂.slotsUsed).setVm hW'.alike, X.tail, State.WarmedH.trans X.warmed hW', X.limits, X.bytes, X.same.trans (hsame.setVm s.vm)⟩,
      ⟨g, mk, s₂, L, E, ce, rfl, rfl, hx, hce, hcv, hcl, rfl, hL, rfl, rfl⟩, ?_⟩
    show Steps p.tables e below _ (((({ U with heap := s₂.heap, slotsUsed := s₂.slotsUsed } : State).setVm s₂.vm).setTop g).pushFrame (.throwing q))
    rw [← hs₂]
    exact hsteps
end Payer
section Calls
variable {p : Program} {l : Launch} {e : Env} {R : Room} {s : State} {m : MethodId} {args : Array Value} {below : List Frame} {meth : Method} {c : Code} {T : State} {locs : List Loc} {cells slots : Nat}
theorem vx_callV (X : Stand p l e R s m args below meth c T locs cells slots) (hexec : p.tables.exec = Jvm.exec) {own C : String} {index : Nat} {y : MethodName} {bytes : ByteArray} {maxL : Nat} {ret : Option FieldType}
    (hown : s.vm.findClass own = some m.cls) (hlink : (Cond.methodLink own index y).before args s = true) (hinst : (Cond.instanceMethod y).before args s = true) (hsel : (Cond.selects C y y).before args s = true)
    (hcode : (Cond.code y bytes maxL ret).before args s = true) (hy : y.cls ≠ "java/lang/invoke/MethodHandle" ∧ y.cls ≠ "java/lang/invoke/VarHandle")
    {W9 : Nat} {Pre : Pt → Array Value → Prop} {Post : Pt → Array Value → Option Value → Pt → Prop} {PostX : Pt → Array Value → Addr → Pt → Prop} (hK : vx_Back l R p e below s args y 3 W9 Pre Post PostX)
    {b : Addr} {cellB : Cell} (hcell : T.heap[b]? = some cellB) (hobj : cellB.vm.isStatics = false) (hcls : s.vm.findClass C = some cellB.cls)
    {g : JFrame} (hg : g.method = m) (hsize : g.locals.size = c.maxLocals) {argsL rest : List Value} (hlen : ∀ sig, parseMethodDescriptor y.desc = some sig → argsL.length = sig.parameters.length)
    (hstack : g.stack = argsL.reverse ++ .ref b :: rest) (hW : 2 * g.monitorRoom + (rest.map fun v => v.category).sum ≤ W9) (hdg : decode c.code g.pc = .ok (.invokevirtual index, 3))
    (hpre : ∀ vm₁, s.WarmedH vm₁ → Pre ⟨T.setVm vm₁, locs, cells, slots⟩ (Value.ref b :: argsL).toArray) :
    (∃ (v : Option Value) (vm₁ : Vm) (B : Pt), s.WarmedH vm₁ ∧ Stand p l e R s m args below meth c B.U B.locs B.cells B.slots ∧ Post ⟨T.setVm vm₁, locs, cells, slots⟩ (Value.ref b :: argsL).toArray v B ∧
      ∀ target, Steps p.tables e below (B.U.setTop { g with pc := g.pc + 3, stack := v.toList ++ rest }) target → Steps p.tables e below (T.setTop g) target) ∨
    (∃ (q : Addr) (vm₁ : Vm) (B : Pt), s.WarmedH vm₁ ∧ Stand p l e R s m args below meth c B.U B.locs B.cells B.slots ∧ PostX ⟨T.setVm vm₁, locs, cells, slots⟩ (Value.ref b :: argsL).toArray q B ∧
      Steps p.tables e below (T.setTop g) ((B.U.setTop { g with stack := rest }).pushFrame (.throwing q))) := by
  obtain ⟨mk, methM, hnamed, hmethM, hstM, habM⟩ := Cond.instanceMethod_spec hinst
  obtain ⟨methM', cM, hmethM', -, -, -, -, -, -, hsigM⟩ := Cond.code_spec hnamed hcode
  cases hmethM.symm.trans hmethM'
  obtain ⟨c2, r2, m2, q1, q2, q3, q4, kP, hkP, hkPi⟩ := Cond.selects_spec hsel
  cases hcls.symm.trans q1
  cases (State.methodFound?_of_named hnamed hy).symm.trans q2
  cases hnamed.symm.trans q3
  have hselP : selectMethod e.platform s.vm cellB.cls mk = .method mk := by rw [Launch.admits_selectMethod X.admits]; exact q4
  obtain ⟨vm₁, X₁, hstep₁⟩ := X.invokevirtual hexec hown hlink hnamed hmethM hstM hkP hkPi hy (a := b) (cell := cellB) hcell
    (fun z h => by rw [h] at hobj; cases hobj) hselP hmethM habM hkP hkPi (g := g) hg (argsL := argsL) (rest := rest) (hlen _ hsigM) hstack hdg
  rcases hK m meth c ⟨T.setVm vm₁, locs, cells, slots⟩ { g with stack := rest } (.invokevirtual index) mk (Value.ref b :: argsL).toArray X₁ hg hsize hdg hW (X₁.named hnamed) (hpre vm₁ X₁.warmed) with ⟨v, B, X', hpost, hsteps⟩ | ⟨q, B, X', hpost, hsteps⟩
  · exact Or.inl ⟨v, vm₁, B, X₁.warmed, X', hpost, fun target h => hstep₁ _ fun acts => by rw [doInvoke_state]; exact hsteps.trans h⟩
  · exact Or.inr ⟨q, vm₁, B, X₁.warmed, X', hpost, hstep₁ _ fun acts => by rw [doInvoke_state]; exact hsteps⟩
theorem vx_callS (X : Stand p l e R s m args below meth c T locs cells slots) (hexec : p.tables.exec = Jvm.exec) {own : String} {index : Nat} {y : MethodName} {bytes : ByteArray} {maxL : Nat} {ret : Option FieldType}
    (hown : s.vm.findClass own = some m.cls) (hlink : (Cond.methodLink own index y).before args s = true) (hstat : (Cond.static y).before args s = true) (hinit : (Cond.initialized y.cls).before args s = true)
    (hcode : (Cond.code y bytes maxL ret).before args s = true) (hy : y.cls ≠ "java/lang/invoke/MethodHandle" ∧ y.cls ≠ "java/lang/invoke/VarHandle")
    {W9 : Nat} {Pre : Pt → Array Value → Prop} {Post : Pt → Array Value → Option Value → Pt → Prop} {PostX : Pt → Array Value → Addr → Pt → Prop} (hK : vx_Back l R p e below s args y 3 W9 Pre Post PostX)
    {g : JFrame} (hg : g.method = m) (hsize : g.locals.size = c.maxLocals) {argsL rest : List Value} (hlen : ∀ sig, parseMethodDescriptor y.desc = some sig → argsL.length = sig.parameters.length)
    (hstack : g.stack = argsL.reverse ++ rest) (hW : 2 * g.monitorRoom + (rest.map fun v => v.category).sum ≤ W9) (hdg : decode c.code g.pc = .ok (.invokestatic index, 3))
    (hpre : ∀ vm₁, s.WarmedH vm₁ → Pre ⟨T.setVm vm₁, locs, cells, slots⟩ argsL.toArray) :
    (∃ (v : Option Value) (vm₁ : Vm) (B : Pt), s.WarmedH vm₁ ∧ Stand p l e R s m args below meth c B.U B.locs B.cells B.slots ∧ Post ⟨T.setVm vm₁, locs, cells, slots⟩ argsL.toArray v B ∧
      ∀ target, Steps p.tables e below (B.U.setTop { g with pc := g.pc + 3, stack := v.toList ++ rest }) target → Steps p.tables e below (T.setTop g) target) ∨
    (∃ (q : Addr) (vm₁ : Vm) (B : Pt), s.WarmedH vm₁ ∧ Stand p l e R s m args below meth c B.U B.locs B.cells B.slots ∧ PostX ⟨T.setVm vm₁, locs, cells, slots⟩ argsL.toArray q B ∧
      Steps p.tables e below (T.setTop g) ((B.U.setTop { g with stack := rest }).pushFrame (.throwing q))) := by
  obtain ⟨mk, hnamed⟩ := Cond.code_named hcode
  obtain ⟨methM, cM, hmethM, -, -, -, -, -, -, hsigM⟩ := Cond.code_spec hnamed hcode
  have hstatic : methM.isStatic = true := Cond.static_spec hnamed hmethM hstat
  obtain ⟨kP, hkP, -⟩ := className_of_methodNamed hnamed
  have hinitP : kP.init = .initialized := Cond.initialized_spec (findClass_of_methodNamed hnamed) hkP hinit
  obtain ⟨vm₁, X₁, hstep₁⟩ := X.invokestatic hexec hown hlink hnamed hmethM hstatic hkP hinitP hy (g := g) hg (argsL := argsL) (rest := rest) (hlen _ hsigM) hstack hdg
  rcases hK m meth c ⟨T.setVm vm₁, locs, cells, slots⟩ { g with stack := rest } (.invokestatic index) mk argsL.toArray X₁ hg hsize hdg hW (X₁.named hnamed) (hpre vm₁ X₁.warmed) with ⟨v, B, X', hpost, hsteps⟩ | ⟨q, B, X', hpost, hsteps⟩
  · exact Or.inl ⟨v, vm₁, B, X₁.warmed, X', hpost, fun target h => hstep₁ _ fun acts => by rw [doInvoke_state]; exact hsteps.trans h⟩
  · exact Or.inr ⟨q, vm₁, B, X₁.warmed, X', hpost, hstep₁ _ fun acts => by rw [doInvoke_state]; exact hsteps⟩
end Calls
theorem vx_cls {s : State} {T : State} {vm₁ : Vm} {E : String} {k : ClassId} (hW : s.WarmedH vm₁) (h : (T.setVm vm₁).vm.findClass E = some k) : s.vm.findClass E = some k := by
  have h1 : vm₁.findClass E = some k := h
  rw [hW.alike.findClass] at h1
  exact h1
/-- the method's frame g, with q thrown over it -/
def vx_W (p : Program) (l : Launch) (e : Env) (R : Room) (s : State) (m : MethodId) (args : Array Value) (below : List Frame) (meth : Method) (c : Code) (H : Heap) (locs : List Loc) (cells slots : Nat) (Q : State → Prop) (g : JFrame) (q : Addr) : Prop :=
  ∀ T : State, T.heap = H → Stand p l e R s m args below meth c T locs cells slots → ∃ t, Steps p.tables e below ((T.setTop g).pushFrame (.throwing q)) t ∧ Q t
def vx_Run (p : Program) (l : Launch) (e : Env) (R : Room) (s : State) (m : MethodId) (args : Array Value) (below : List Frame) (meth : Method) (c : Code) (H : Heap) (locs : List Loc) (cells slots mc ms : Nat) (g : JFrame) (rest : List Value) (Qa : State → Outcome → State → Prop) (XC : String → State → State → Prop) (free : Addr → Prop) : Prop :=
  ∀ T : State, T.heap = H → Stand p l e R s m args below meth c T locs cells slots →
    (∃ (v : Option Value) (st₀ t T' : State) (L : List Loc), st₀.heap = H ∧ Stand p l e R s m args below meth c T' (locs ++ L) (cells + mc) (slots + ms) ∧ (∀ q ∈ L, free q.base) ∧ T'.heap = t.heap ∧ T'.vm = t.vm ∧ Qa st₀ (.returned v) t ∧
      Goes p e below T g T' { g with pc := g.pc + 3, stack := v.toList ++ rest }) ∨
    (∃ (q : Addr) (st₀ t T' : State) (L : List Loc) (E : String) (ce : Cell), st₀.heap = H ∧ Stand p l e R s m args below meth c T' (locs ++ L) (cells + mc) (slots + ms) ∧ (∀ z ∈ L, free z.base) ∧ T'.heap = t.heap ∧ T'.vm = t.vm ∧ XC E st₀ t ∧ t.heap[q]? = some ce ∧ ce.vm = .none ∧ s.vm.findClass E = some ce.cls ∧
      Steps p.tables e below (T.setTop g) ((T'.setTop { g with stack := rest }).pushFrame (.throwing q)))
def vx_X {S : Type} (px : S → Prop) (B : String → S → State → Prop) (A : Nat → Prop) : String → State → State → Prop := fun E st t => ∃ u : S, px u ∧ B E u t ∧ va_F A st t
section Runs
variable {p : Program} {l : Launch} {e : Env} {R : Room} {s : State} {m : MethodId} {args : Array Value} {below : List Frame} {meth : Method} {c : Code} {H : Heap} {locs : List Loc} {cells slots : Nat}
variable {y : MethodName} {bytes cc : ByteArray} {maxL nL mc ms n index : Nat} {ret : Option FieldType} {ws : List Cond} {rm : Room} {Pc : Array Value → State → Prop} {Qc : Array Value → State → Outcome → State → Prop} {XC : String → State → State → Prop} {free : Addr → Prop} {Ts : List Cond} {own C : String} {b : Addr} {As rest : List Value} {g : JFrame}
theorem vx_callBack (cb : CallB R s args own index y bytes maxL ret ws rm mc ms n) (hM : vx_Met l y ws rm Pc Qc XC mc ms free) (hbl : FrameBlind Pc) : vx_Back l R p e below s args y 3 8 (PreOf R mc ms Pc) (PostOf Qc mc ms free) (vx_Post XC mc ms free) := by
  obtain ⟨hrc, hrs, hfr, hlo, hws, hcw, -, hini, -⟩ := cb
  exact vx_back (bytes := bytes) (maxL := maxL) (ret := ret) hM hbl hrc hrs hfr hlo hws hcw (fun a' U hW => word_at hW (Or.inl (by first | rfl | simp [Cond.onTables, Cond.keeps, Cond.steady])) hini)
theorem vx_runV (S : CallFix p m c cc nL s args Ts own) (hM : vx_Met l y ws rm Pc Qc XC mc ms free) (cw : CallW R s args own C index y bytes maxL ret ws rm mc ms n) (hp : PreV s H C b Pc As)
    (hg : g.method = m) (hn : As.length = n) (hsize : g.locals.size = nL) (hstack : g.stack = As.reverse ++ .ref b :: rest) (hW : 2 * g.monitorRoom + (rest.map fun v => v.category).sum ≤ 8) (hdg : decode cc g.pc = .ok (.invokevirtual index, 3)) (hf : cells + mc ≤ R.cells ∧ slots + ms ≤ R.slots) :
    vx_Run p l e R s m args below meth c H locs cells slots mc ms g rest (Qc (Value.ref b :: As).toArray) XC free := by
  have hK : vx_Back l R p e below s args y 3 8 (PreOf R mc ms Pc) (PostOf Qc mc ms free) (vx_Post XC mc ms free) := vx_callBack cw.1 hM hp.1
  obtain ⟨⟨-, -, -, -, -, -, hcode, -, hy, hlen, hl⟩, hin, hse⟩ := cw
  obtain ⟨hx, hb, hml, ho, -⟩ := S
  obtain ⟨-, ⟨cellB, hcB, hoB, hclB⟩, hPc⟩ := hp
  intro T hT X
  rcases vx_callV X hx (C := C) (bytes := bytes) (maxL := maxL) (ret := ret) ho hl hin hse hcode hy hK (by rw [hT]; exact hcB) hoB hclB hg (hsize.trans hml.symm) (argsL := As) (rest := rest) (fun sig h => hn.trans (hlen sig h)) hstack hW (by rw [hb]; exact hdg)
    (fun vm₁ hW₁ => ⟨hf.1, hf.2, hPc (T.setVm vm₁) hT hW₁⟩) with ⟨v, vm₁, ⟨U', l2, c2, s2⟩, hW₁, X', ⟨g', mk, t, L, e1, e2, hq, h1, hL, h2, h3⟩, st⟩ | ⟨q, vm₁, ⟨U', l2, c2, s2⟩, hW₁, X', ⟨g', mk, t, L, E, ce, e1, e2, hq, hce, hcv, hcl, h1, hL, h2, h3⟩, st⟩
  · dsimp only [Pt.U, Pt.locs, Pt.cells, Pt.slots] at X' e1 e2 h1 h2 h3 st
    subst h1; subst h2; subst h3
    exact Or.inl ⟨v, (T.setVm vm₁).calling g' mk (Value.ref b :: As).toArray, t, U', L, hT, X', hL, e1, e2, hq, st⟩
  · dsimp only [Pt.U, Pt.locs, Pt.cells, Pt.slots] at X' e1 e2 h1 h2 h3 st hcl
    subst h1; subst h2; subst h3
    exact Or.inr ⟨q, (T.setVm vm₁).calling g' mk (Value.ref b :: As).toArray, t, U', L, E, ce, hT, X', hL, e1, e2, hq, hce, hcv, vx_cls hW₁ hcl, st⟩
theorem vx_runS (S : CallFix p m c cc nL s args Ts own) (hM : vx_Met l y ws rm Pc Qc XC mc ms free) (cw : CallB R s args own index y bytes maxL ret ws rm mc ms n ∧ (Cond.static y).before args s = true) (hp : PreS s H Pc As)
    (hg : g.method = m) (hn : As.length = n) (hsize : g.locals.size = nL) (hstack : g.stack = As.reverse ++ rest) (hW : 2 * g.monitorRoom + (rest.map fun v => v.category).sum ≤ 8) (hdg : decode cc g.pc = .ok (.invokestatic index, 3)) (hf : cells + mc ≤ R.cells ∧ slots + ms ≤ R.slots) :
    vx_Run p l e R s m args below meth c H locs cells slots mc ms g rest (Qc As.toArray) XC free := by
  have hK : vx_Back l R p e below s args y 3 8 (PreOf R mc ms Pc) (PostOf Qc mc ms free) (vx_Post XC mc ms free) := vx_callBack cw.1 hM hp.1
  obtain ⟨⟨-, -, -, -, -, -, hcode, hini, hy, hlen, hl⟩, hstt⟩ := cw
  obtain ⟨hx, hb, hml, ho, -⟩ := S
  intro T hT X
  rcases vx_callS X hx (bytes := bytes) (maxL := maxL) (ret := ret) ho hl hstt hini hcode hy hK hg (hsize.trans hml.symm) (argsL := As) (rest := rest) (fun sig h => hn.trans (hlen sig h)) hstack hW (by rw [hb]; exact hdg)
    (fun vm₁ hW₁ => ⟨hf.1, hf.2, hp.2 (T.setVm vm₁) hT hW₁⟩) with ⟨v, vm₁, ⟨U', l2, c2, s2⟩, hW₁, X', ⟨g', mk, t, L, e1, e2, hq, h1, hL, h2, h3⟩, st⟩ | ⟨q, vm₁, ⟨U', l2, c2, s2⟩, hW₁, X', ⟨g', mk, t, L, E, ce, e1, e2, hq, hce, hcv, hcl, h1, hL, h2, h3⟩, st⟩
  · dsimp only [Pt.U, Pt.locs, Pt.cells, Pt.slots] at X' e1 e2 h1 h2 h3 st
    subst h1; subst h2; subst h3
    exact Or.inl ⟨v, (T.setVm vm₁).calling g' mk As.toArray, t, U', L, hT, X', hL, e1, e2, hq, st⟩
  · dsimp only [Pt.U, Pt.locs, Pt.cells, Pt.slots] at X' e1 e2 h1 h2 h3 st hcl
    subst h1; subst h2; subst h3
    exact Or.inr ⟨q, (T.setVm vm₁).calling g' mk As.toArray, t, U', L, E, ce, hT, X', hL, e1, e2, hq, hce, hcv, vx_cls hW₁ hcl, st⟩
end Runs
section Rows
variable {p : Program} {l : Launch} {e : Env} {R : Room} {s : State} {m : MethodId} {args : Array Value} {below : List Frame} {meth : Method} {c : Code} {H : Heap} {locs : List Loc} {cells slots : Nat} {Q : State → Prop}
variable {mc ms : Nat} {free : Addr → Prop} {A0 A1 : Nat → Prop} {H0 : Heap} {a : Array Value} {pc : Nat} {ls : Array Slot} {st0 rest : List Value}
theorem vx_keep {st₀ t T' : State} {L : List Loc} (h0 : st₀.heap = H) (e1 : T'.heap = t.heap) (hS : va_S A0 H0 H locs) (hA : ∀ q, q < H.size → A1 q → A0 q) (hf : ∀ q, free q → A0 q) (hL : ∀ q ∈ L, free q.base) (hF : va_F A1 st₀ t) :
    H.size ≤ T'.heap.size ∧ (∀ q : Nat, q < H.size → ¬ A1 q → T'.heap[q]? = H[q]?) ∧ va_S A0 H0 T'.heap (locs ++ L) := by
  obtain ⟨hz, hk⟩ := hF
  rw [h0] at hz hk
  exact ⟨by rw [e1]; exact hz, fun q h1 h2 => by rw [e1]; exact hk q h1 h2,
    ⟨Nat.le_trans hS.1 (by rw [e1]; exact hz), fun q h1 h2 => by rw [e1, hk q (Nat.lt_of_lt_of_le h1 hS.1) (fun z => h2 (hA q (Nat.lt_of_lt_of_le h1 hS.1) z))]; exact hS.2.1 q h1 h2, fun q hq => by
      rcases List.mem_append.mp hq with h | h
      · exact hS.2.2 q h
      · exact hf _ (hL q h)⟩⟩
theorem vx_calli {S SX : Type} {post : Int32 → S → Prop} {px : SX → Prop} {B : S → State → Prop} {BX : String → SX → State → Prop} {AX : Nat → Prop} (hr : vx_Run p l e R s m args below meth c H locs cells slots mc ms (F0 m pc ls st0) rest (va_Qi post B A1 a) (vx_X px BX AX) free) (hS : va_S A0 H0 H locs) (hA : ∀ q, q < H.size → A1 q → A0 q) (hf : ∀ q, free q → A0 q) (hAX : ∀ q, q < H.size → AX q → A0 q)
    (kx : ∀ (E : String) (ce : Cell) (q9 : Addr) (u : SX) (t : State) (H1 : Heap) (locs1 : List Loc), t.heap = H1 → s.vm.Alike t.vm → px u → BX E u t → H.size ≤ H1.size → (∀ q : Nat, q < H.size → ¬ AX q → H1[q]? = H[q]?) → va_S A0 H0 H1 locs1 → H1[q9]? = some ce → ce.vm = .none → s.vm.findClass E = some ce.cls → vx_W p l e R s m args below meth c H1 locs1 (cells + mc) (slots + ms) Q (F0 m pc ls rest) q9)
    (kk : ∀ (r : Int32) (u : S) (t : State) (H1 : Heap) (locs1 : List Loc), t.heap = H1 → s.vm.Alike t.vm → post r u → B u t → H.size ≤ H1.size → (∀ q : Nat, q < H.size → ¬ A1 q → H1[q]? = H[q]?) → va_S A0 H0 H1 locs1 → W p l e R s m args below meth c H1 locs1 (cells + mc) (slots + ms) Q (F0 m (pc + 3) ls (.int r :: rest))) : W p l e R s m args below meth c H locs cells slots Q (F0 m pc ls st0) := by
  intro T hT X
  rcases hr T hT X with ⟨v, st₀, t, T', L, h0, X', hL, e1, e2, ⟨⟨r, u, hv, hp, hb⟩, hF⟩, st⟩ | ⟨q, st₀, t, T', L, E, ce, h0, X', hL, e1, e2, ⟨u, hp, hb, hF⟩, hce, hcv, hcl, st⟩
  · cases hv
    obtain ⟨k1, k2, k3⟩ := vx_keep h0 e1 hS hA hf hL hF
    obtain ⟨t2, a1, b1⟩ := kk r u t T'.heap (locs ++ L) e1.symm (by rw [← e2]; exact X'.warmed.alike) hp hb k1 k2 k3 T' rfl X'
    exact ⟨t2, st t2 a1, b1⟩
  · obtain ⟨k1, k2, k3⟩ := vx_keep h0 e1 hS hAX hf hL hF
    obtain ⟨t2, a1, b1⟩ := kx E ce q u t T'.heap (locs ++ L) e1.symm (by rw [← e2]; exact X'.warmed.alike) hp hb k1 k2 k3 (by rw [e1]; exact hce) hcv hcl T' rfl X'
    exact ⟨t2, st.trans a1, b1⟩
theorem vx_calll {S SX : Type} {post : Int64 → S → Prop} {px : SX → Prop} {B : S → State → Prop} {BX : String → SX → State → Prop} {AX : Nat → Prop} (hr : vx_Run p l e R s m args below meth c H locs cells slots mc ms (F0 m pc ls st0) rest (va_Ql post B A1 a) (vx_X px BX AX) free) (hS : va_S A0 H0 H locs) (hA : ∀ q, q < H.size → A1 q → A0 q) (hf : ∀ q, free q → A0 q) (hAX : ∀ q, q < H.size → AX q → A0 q)
    (kx : ∀ (E : String) (ce : Cell) (q9 : Addr) (u : SX) (t : State) (H1 : Heap) (locs1 : List Loc), t.heap = H1 → s.vm.Alike t.vm → px u → BX E u t → H.size ≤ H1.size → (∀ q : Nat, q < H.size → ¬ AX q → H1[q]? = H[q]?) → va_S A0 H0 H1 locs1 → H1[q9]? = some ce → ce.vm = .none → s.vm.findClass E = some ce.cls → vx_W p l e R s m args below meth c H1 locs1 (cells + mc) (slots + ms) Q (F0 m pc ls rest) q9)
    (kk : ∀ (r : Int64) (u : S) (t : State) (H1 : Heap) (locs1 : List Loc), t.heap = H1 → s.vm.Alike t.vm → post r u → B u t → H.size ≤ H1.size → (∀ q : Nat, q < H.size → ¬ A1 q → H1[q]? = H[q]?) → va_S A0 H0 H1 locs1 → W p l e R s m args below meth c H1 locs1 (cells + mc) (slots + ms) Q (F0 m (pc + 3) ls (.long r :: rest))) : W p l e R s m args below meth c H locs cells slots Q (F0 m pc ls st0) := by
  intro T hT X
  rcases hr T hT X with ⟨v, st₀, t, T', L, h0, X', hL, e1, e2, ⟨⟨r, u, hv, hp, hb⟩, hF⟩, st⟩ | ⟨q, st₀, t, T', L, E, ce, h0, X', hL, e1, e2, ⟨u, hp, hb, hF⟩, hce, hcv, hcl, st⟩
  · cases hv
    obtain ⟨k1, k2, k3⟩ := vx_keep h0 e1 hS hA hf hL hF
    obtain ⟨t2, a1, b1⟩ := kk r u t T'.heap (locs ++ L) e1.symm (by rw [← e2]; exact X'.warmed.alike) hp hb k1 k2 k3 T' rfl X'
    exact ⟨t2, st t2 a1, b1⟩
  · obtain ⟨k1, k2, k3⟩ := vx_keep h0 e1 hS hAX hf hL hF
    obtain ⟨t2, a1, b1⟩ := kx E ce q u t T'.heap (locs ++ L) e1.symm (by rw [← e2]; exact X'.warmed.alike) hp hb k1 k2 k3 (by rw [e1]; exact hce) hcv hcl T' rfl X'
    exact ⟨t2, st.trans a1, b1⟩
theorem vx_callf {S SX : Type} {post : UInt32 → S → Prop} {px : SX → Prop} {B : S → State → Prop} {BX : String → SX → State → Prop} {AX : Nat → Prop} (hr : vx_Run p l e R s m args below meth c H locs cells slots mc ms (F0 m pc ls st0) rest (va_Qf post B A1 a) (vx_X px BX AX) free) (hS : va_S A0 H0 H locs) (hA : ∀ q, q < H.size → A1 q → A0 q) (hf : ∀ q, free q → A0 q) (hAX : ∀ q, q < H.size → AX q → A0 q)
    (kx : ∀ (E : String) (ce : Cell) (q9 : Addr) (u : SX) (t : State) (H1 : Heap) (locs1 : List Loc), t.heap = H1 → s.vm.Alike t.vm → px u → BX E u t → H.size ≤ H1.size → (∀ q : Nat, q < H.size → ¬ AX q → H1[q]? = H[q]?) → va_S A0 H0 H1 locs1 → H1[q9]? = some ce → ce.vm = .none → s.vm.findClass E = some ce.cls → vx_W p l e R s m args below meth c H1 locs1 (cells + mc) (slots + ms) Q (F0 m pc ls rest) q9)
    (kk : ∀ (r : UInt32) (u : S) (t : State) (H1 : Heap) (locs1 : List Loc), t.heap = H1 → s.vm.Alike t.vm → post r u → B u t → H.size ≤ H1.size → (∀ q : Nat, q < H.size → ¬ A1 q → H1[q]? = H[q]?) → va_S A0 H0 H1 locs1 → W p l e R s m args below meth c H1 locs1 (cells + mc) (slots + ms) Q (F0 m (pc + 3) ls (.float r :: rest))) : W p l e R s m args below meth c H locs cells slots Q (F0 m pc ls st0) := by
  intro T hT X
  rcases hr T hT X with ⟨v, st₀, t, T', L, h0, X', hL, e1, e2, ⟨⟨r, u, hv, hp, hb⟩, hF⟩, st⟩ | ⟨q, st₀, t, T', L, E, ce, h0, X', hL, e1, e2, ⟨u, hp, hb, hF⟩, hce, hcv, hcl, st⟩
  · cases hv
    obtain ⟨k1, k2, k3⟩ := vx_keep h0 e1 hS hA hf hL hF
    obtain ⟨t2, a1, b1⟩ := kk r u t T'.heap (locs ++ L) e1.symm (by rw [← e2]; exact X'.warmed.alike) hp hb k1 k2 k3 T' rfl X'
    exact ⟨t2, st t2 a1, b1⟩
  · obtain ⟨k1, k2, k3⟩ := vx_keep h0 e1 hS hAX hf hL hF
    obtain ⟨t2, a1, b1⟩ := kx E ce q u t T'.heap (locs ++ L) e1.symm (by rw [← e2]; exact X'.warmed.alike) hp hb k1 k2 k3 (by rw [e1]; exact hce) hcv hcl T' rfl X'
    exact ⟨t2, st.trans a1, b1⟩
theorem vx_calld {S SX : Type} {post : UInt64 → S → Prop} {px : SX → Prop} {B : S → State → Prop} {BX : String → SX → State → Prop} {AX : Nat → Prop} (hr : vx_Run p l e R s m args below meth c H locs cells slots mc ms (F0 m pc ls st0) rest (va_Qd post B A1 a) (vx_X px BX AX) free) (hS : va_S A0 H0 H locs) (hA : ∀ q, q < H.size → A1 q → A0 q) (hf : ∀ q, free q → A0 q) (hAX : ∀ q, q < H.size → AX q → A0 q)
    (kx : ∀ (E : String) (ce : Cell) (q9 : Addr) (u : SX) (t : State) (H1 : Heap) (locs1 : List Loc), t.heap = H1 → s.vm.Alike t.vm → px u → BX E u t → H.size ≤ H1.size → (∀ q : Nat, q < H.size → ¬ AX q → H1[q]? = H[q]?) → va_S A0 H0 H1 locs1 → H1[q9]? = some ce → ce.vm = .none → s.vm.findClass E = some ce.cls → vx_W p l e R s m args below meth c H1 locs1 (cells + mc) (slots + ms) Q (F0 m pc ls rest) q9)
    (kk : ∀ (r : UInt64) (u : S) (t : State) (H1 : Heap) (locs1 : List Loc), t.heap = H1 → s.vm.Alike t.vm → post r u → B u t → H.size ≤ H1.size → (∀ q : Nat, q < H.size → ¬ A1 q → H1[q]? = H[q]?) → va_S A0 H0 H1 locs1 → W p l e R s m args below meth c H1 locs1 (cells + mc) (slots + ms) Q (F0 m (pc + 3) ls (.double r :: rest))) : W p l e R s m args below meth c H locs cells slots Q (F0 m pc ls st0) := by
  intro T hT X
  rcases hr T hT X with ⟨v, st₀, t, T', L, h0, X', hL, e1, e2, ⟨⟨r, u, hv, hp, hb⟩, hF⟩, st⟩ | ⟨q, st₀, t, T', L, E, ce, h0, X', hL, e1, e2, ⟨u, hp, hb, hF⟩, hce, hcv, hcl, st⟩
  · cases hv
    obtain ⟨k1, k2, k3⟩ := vx_keep h0 e1 hS hA hf hL hF
    obtain ⟨t2, a1, b1⟩ := kk r u t T'.heap (locs ++ L) e1.symm (by rw [← e2]; exact X'.warmed.alike) hp hb k1 k2 k3 T' rfl X'
    exact ⟨t2, st t2 a1, b1⟩
  · obtain ⟨k1, k2, k3⟩ := vx_keep h0 e1 hS hAX hf hL hF
    obtain ⟨t2, a1, b1⟩ := kx E ce q u t T'.heap (locs ++ L) e1.symm (by rw [← e2]; exact X'.warmed.alike) hp hb k1 k2 k3 (by rw [e1]; exact hce) hcv hcl T' rfl X'
    exact ⟨t2, st.trans a1, b1⟩
theorem vx_callv {S SX : Type} {post : S → Prop} {px : SX → Prop} {B : S → State → Prop} {BX : String → SX → State → Prop} {AX : Nat → Prop} (hr : vx_Run p l e R s m args below meth c H locs cells slots mc ms (F0 m pc ls st0) rest (va_Qv post B A1 a) (vx_X px BX AX) free) (hS : va_S A0 H0 H locs) (hA : ∀ q, q < H.size → A1 q → A0 q) (hf : ∀ q, free q → A0 q) (hAX : ∀ q, q < H.size → AX q → A0 q)
    (kx : ∀ (E : String) (ce : Cell) (q9 : Addr) (u : SX) (t : State) (H1 : Heap) (locs1 : List Loc), t.heap = H1 → s.vm.Alike t.vm → px u → BX E u t → H.size ≤ H1.size → (∀ q : Nat, q < H.size → ¬ AX q → H1[q]? = H[q]?) → va_S A0 H0 H1 locs1 → H1[q9]? = some ce → ce.vm = .none → s.vm.findClass E = some ce.cls → vx_W p l e R s m args below meth c H1 locs1 (cells + mc) (slots + ms) Q (F0 m pc ls rest) q9)
    (kk : ∀ (u : S) (t : State) (H1 : Heap) (locs1 : List Loc), t.heap = H1 → s.vm.Alike t.vm → post u → B u t → H.size ≤ H1.size → (∀ q : Nat, q < H.size → ¬ A1 q → H1[q]? = H[q]?) → va_S A0 H0 H1 locs1 → W p l e R s m args below meth c H1 locs1 (cells + mc) (slots + ms) Q (F0 m (pc + 3) ls (rest))) : W p l e R s m args below meth c H locs cells slots Q (F0 m pc ls st0) := by
  intro T hT X
  rcases hr T hT X with ⟨v, st₀, t, T', L, h0, X', hL, e1, e2, ⟨⟨u, hv, hp, hb⟩, hF⟩, st⟩ | ⟨q, st₀, t, T', L, E, ce, h0, X', hL, e1, e2, ⟨u, hp, hb, hF⟩, hce, hcv, hcl, st⟩
  · cases hv
    obtain ⟨k1, k2, k3⟩ := vx_keep h0 e1 hS hA hf hL hF
    obtain ⟨t2, a1, b1⟩ := kk u t T'.heap (locs ++ L) e1.symm (by rw [← e2]; exact X'.warmed.alike) hp hb k1 k2 k3 T' rfl X'
    exact ⟨t2, st t2 a1, b1⟩
  · obtain ⟨k1, k2, k3⟩ := vx_keep h0 e1 hS hAX hf hL hF
    obtain ⟨t2, a1, b1⟩ := kx E ce q u t T'.heap (locs ++ L) e1.symm (by rw [← e2]; exact X'.warmed.alike) hp hb k1 k2 k3 (by rw [e1]; exact hce) hcv hcl T' rfl X'
    exact ⟨t2, st.trans a1, b1⟩
/-- caught by the row x of this method's table; the rows ahead don't take it -/
theorem vx_catch {own name : String} {E : String} {ce : Cell} {q : Addr} (hown : s.vm.findClass own = some m.cls) (pre : List ExceptionTableEntry) (x : ExceptionTableEntry) (suf : List ExceptionTableEntry) (hsplit : c.exceptionTable.toList = pre ++ x :: suf)
    (hpass : ∀ z ∈ pre, covers z pc = false ∨ (z.catchType ≠ 0 ∧ ∃ nm : String, (Cond.classLink own z.catchType nm).before args s = true ∧ va_Nc E nm s)) (hx : covers x pc = true) (h0 : x.catchType ≠ 0)
    (hlink : (Cond.classLink own x.catchType name).before args s = true) (hcast : (Cond.castable E name).before args s = true) (hcell : H[q]? = some ce) (hv : ce.vm = .none) (hcl : s.vm.findClass E = some ce.cls)
    (kk : W p l e R s m args below meth c H locs cells slots Q (F0 m x.handlerPc ls [.ref q])) : vx_W p l e R s m args below meth c H locs cells slots Q (F0 m pc ls rest) q := by
  intro T hT X
  have hpl : e.platform.magicAccessors = ({} : Platform).magicAccessors := by rw [X.admits.platform]
  obtain ⟨c3, c4, hc3, hc4, hasg⟩ := Cond.castable_spec hcast
  cases Option.some.inj (hc3.symm.trans hcl)
  obtain ⟨c5, hc5, hcl5⟩ := Cond.classLink_spec hown hlink e.platform hpl
  cases Option.some.inj (hc4.symm.trans hc5)
  obtain ⟨vm', X', st⟩ := zc_caught X q (g := F0 m pc ls rest) rfl (by rw [hT]; exact hcell) (by rw [hv]; rfl) (by obtain ⟨k9, h9, -⟩ := Vm.findClass_spec hcl; exact ⟨k9, h9⟩) pre x suf hsplit
    (fun z hz => by
      rcases hpass z hz with h | ⟨hz0, nm, hl1, hn1⟩
      · exact Or.inl h
      · obtain ⟨c6, hc6, hcl6⟩ := Cond.classLink_spec hown hl1 e.platform hpl
        obtain ⟨a8, b8, h1, h2, h3⟩ := hn1
        cases Option.some.inj (h1.symm.trans hcl)
        cases Option.some.inj (h2.symm.trans hc6)
        exact Or.inr ⟨hz0, _, hcl6, h3⟩) hx h0 hcl5 hasg
  obtain ⟨t, a1, b1⟩ := kk (T.setVm vm') hT X'
  exact ⟨t, st _ a1, b1⟩
end Rows
section Ends
variable {p : Program} {l : Launch} {e : Env} {R : Room} {s : State} {m : MethodId} {args : Array Value} {below : List Frame} {meth : Method} {c : Code} {H : Heap} {locs : List Loc} {cells slots : Nat} {Q : State → Prop}
variable {mc ms : Nat} {free : Addr → Prop} {A0 A1 : Nat → Prop} {H0 : Heap} {a : Array Value} {ls : Array Slot} {st0 rest : List Value}
variable {Qc : Array Value → State → Outcome → State → Prop} {XC : String → State → State → Prop}
/-- what a body that may throw owes at its end -/
def vx_MQ (below : List Frame) (Qc : Array Value → State → Outcome → State → Prop) (XC : String → State → State → Prop) (a : Array Value) (s : State) (mc ms : Nat) (free : Addr → Prop) : State → Prop := fun t =>
  ∃ o, t.status = .running ∧ Ended t below o ∧ vx_Q Qc XC mc ms free a s o t
theorem vx_ret {g : JFrame} {mc ms : Nat} (k : W p l e R s m args below meth c H locs cells slots (MQ below Qc args s mc ms free) g) : W p l e R s m args below meth c H locs cells slots (vx_MQ below Qc XC args s mc ms free) g := by
  intro T hT X
  obtain ⟨t, a1, o, b1, b2, b3, b4⟩ := k T hT X
  exact ⟨t, a1, o, b1, b2, Or.inl ⟨b3, b4⟩⟩
/-- not caught here: it goes on to the caller -/
theorem vx_widen {g : JFrame} {q : Addr} {k n : Nat} (h1 : cells ≤ k) (h2 : slots ≤ n) (kk : vx_W p l e R s m args below meth c H locs k n Q g q) : vx_W p l e R s m args below meth c H locs cells slots Q g q := fun T hT X => kk T hT (stand_widen X h1 h2)
theorem vx_out {pc : Nat} {E : String} {ce : Cell} {q : Addr} {mc ms : Nat} (hout : ∀ x ∈ c.exceptionTable.toList, covers x pc = false) (hlocks : meth.locks = false) (hcell : H[q]? = some ce) (hv : ce.vm = .none) (hcl : s.vm.findClass E = some ce.cls)
    (hx : ∀ t : State, t.heap = H → s.vm.Alike t.vm → XC E s t) (hf : ∀ z ∈ locs, free z.base) (hc : cells ≤ mc) (hs : slots ≤ ms) :
    vx_W p l e R s m args below meth c H locs cells slots (vx_MQ below Qc XC args s mc ms free) (F0 m pc ls rest) q := by
  intro T hT X
  obtain ⟨st1, hrun, hend, hW, hsm⟩ := X.leaveThrown q (g := F0 m pc ls rest) rfl rfl rfl hout hlocks
  have hcell9 : (T.setFrames (.throwing q :: below)).heap[q]? = some ce := by
    show T.heap[q]? = some ce
    rw [hT]; exact hcell
  exact ⟨_, st1, .threw q, hrun, hend, Or.inr ⟨q, rfl, E, ce, locs, hx _ hT hW.alike, hcell9, hv, hcl, hW, hsm.mono hc hs, hf⟩⟩
theorem vx_frame {U : State} {k n : Nat} (h : s.sameButNew ({ U with vm := s.vm } : State) locs k n) : s.heap.size ≤ U.heap.size ∧ ∀ q : Nat, q < s.heap.size → (∀ z ∈ locs, z.base ≠ q) → U.heap[q]? = s.heap[q]? := by
  obtain ⟨-, h2, -, -, -, h6⟩ := h
  refine ⟨h2, fun q hq hz => ?_⟩
  obtain ⟨c9, e1, e2, e3, e4⟩ := h6 q _ (Array.getElem?_eq_getElem hq)
  have hs : c9.slots = (s.heap[q]).slots := Array.ext_getElem? fun i => e4 i fun hm => hz _ hm rfl
  have h9 : c9 = s.heap[q] := by
    rw [hs] at e2
    exact e2
  have e5 : U.heap[q]? = some c9 := e1
  rw [e5, h9, Array.getElem?_eq_getElem hq]
/-- the words of a throw but the four that speak of the heap -/
def vx_no (w : Cond) : Bool := decide (w ≠ .isRef (.static Bundle.tN "UNASSIGNED_STACK" Bundle.steD)) && decide (w ≠ .isRef (.static Bundle.tN "SUPPRESSED_SENTINEL" Bundle.listD)) && decide (w ≠ .laysStatic Bundle.tN "UNASSIGNED_STACK" Bundle.steD) && decide (w ≠ .laysStatic Bundle.tN "SUPPRESSED_SENTINEL" Bundle.listD)
def vx_at0 (own : String) (ic : Nat) (X : String) (names : List String) : List Cond := (Bundle.ownAtoms0 own ic X names).filter vx_no
def vx_atS (own : String) (ic : Nat) (X : String) (names : List String) : List Cond := (Bundle.ownAtoms own ic X names).filter vx_no
/-- a word that the tables alone decide, or a good one -/
def vx_ot (w : Cond) : Bool := w.onTables || goodWord w
theorem vx_ot_at {args a' : Array Value} {s U : State} {w : Cond} (hW : s.WarmedH U.vm) (hvm : s.vm = U.vm) (hg : vx_ot w = true) (h : w.before args s = true) : w.before a' U = true := by
  simp only [vx_ot, Bool.or_eq_true] at hg
  rcases hg with hg | hg
  · exact va_tabs hg hvm h
  · exact word_at hW (good_of_word hg) h
/-- a list's words: the good ones out of the method's own list, the others by premises of their own -/
theorem vx_hat {args : Array Value} {s : State} {L B : List Cond} (h1 : ∀ w ∈ L.filter goodWord, w.before args s = true) (h2 : ∀ w ∈ L.filter (fun w => !goodWord w), w ∈ B) (h3 : ∀ w ∈ B, w.before args s = true) : ∀ w ∈ L, w.before args s = true := by
  intro w hw
  by_cases g : goodWord w = true
  · exact h1 w (List.mem_filter.mpr ⟨hw, g⟩)
  · refine h3 w (h2 w (List.mem_filter.mpr ⟨hw, ?_⟩))
    show (!goodWord w) = true
    cases hgw : goodWord w
    · rfl
    · exact absurd hgw g
theorem vx_c {args : Array Value} {s : State} {w : Cond} {B : List Cond} (h : w.before args s = true) (t : ∀ w ∈ B, w.before args s = true) : ∀ w' ∈ w :: B, w'.before args s = true := fun w' h' => (List.mem_cons.mp h').elim (fun e => by rw [e]; exact h) (t w')
theorem vx_n {args : Array Value} {s : State} : ∀ w ∈ ([] : List Cond), w.before args s = true := fun _ h => nomatch h
theorem vx_own {args : Array Value} {s : State} {L : List Cond} (h1 : ∀ w ∈ L.filter vx_no, w.before args s = true)
    (hU : (Cond.isRef (.static Bundle.tN "UNASSIGNED_STACK" Bundle.steD)).before args s = true) (hN : (Cond.isRef (.static Bundle.tN "SUPPRESSED_SENTINEL" Bundle.listD)).before args s = true)
    (lU : (Cond.laysStatic Bundle.tN "UNASSIGNED_STACK" Bundle.steD).before args s = true) (lN : (Cond.laysStatic Bundle.tN "SUPPRESSED_SENTINEL" Bundle.listD).before args s = true) : ∀ w ∈ L, w.before args s = true := by
  intro w hw
  by_cases e1 : w = .isRef (.static Bundle.tN "UNASSIGNED_STACK" Bundle.steD)
  · rw [e1]; exact hU
  · by_cases e2 : w = .isRef (.static Bundle.tN "SUPPRESSED_SENTINEL" Bundle.listD)
    · rw [e2]; exact hN
    · by_cases e3 : w = .laysStatic Bundle.tN "UNASSIGNED_STACK" Bundle.steD
      · rw [e3]; exact lU
      · by_cases e4 : w = .laysStatic Bundle.tN "SUPPRESSED_SENTINEL" Bundle.listD
        · rw [e4]; exact lN
        · exact h1 w (List.mem_filter.mpr ⟨hw, by unfold vx_no; rw [decide_eq_true e1, decide_eq_true e2, decide_eq_true e3, decide_eq_true e4]; rfl⟩)
/-- where a static field lies, its class's statics cell in H -/
def vx_L (C n d : String) (A : Nat → Prop) (U : State) (H : Heap) : Prop := ∃ (c : ClassId) (k : Class) (i : Nat) (f : Field) (a : Nat) (cell : Cell), U.vm.findClass C = some c ∧ U.fieldFound? C n d = some (c, k, i, f) ∧ f.isStatic = true ∧ k.statics = some a ∧ H[a]? = some cell ∧ cell.vm.isStatics = true ∧ cell.cls = c ∧ f.slot < cell.slots.size ∧ k.staticTypes[f.slot]? = some f.type ∧ ¬ A a
theorem vx_L.moved {C n d : String} {A : Nat → Prop} {u U : State} {H : Heap} (hvm : u.vm.Alike U.vm) (h : vx_L C n d A u H) : vx_L C n d A U H := by
  obtain ⟨c, k, i, f, a, cell, h1, h2, h3, h4, h5, h6, h7, h8, h9, h10⟩ := h
  obtain ⟨k', hi', he⟩ := State.fieldFound?_setVm hvm h2
  exact ⟨c, k', i, f, a, cell, by rw [hvm.findClass]; exact h1, hi', h3, by rw [he]; exact h4, h5, h6, h7, h8, by rw [he]; exact h9, h10⟩
theorem vx_L.kept {C n d : String} {A : Nat → Prop} {U : State} {H H1 : Heap} (h : vx_L C n d A U H) (hq : ∀ a : Nat, a < H.size → ¬ A a → H1[a]? = H[a]?) : vx_L C n d A U H1 := by
  obtain ⟨c, k, i, f, a, cell, h1, h2, h3, h4, h5, h6, h7, h8, h9, h10⟩ := h
  exact ⟨c, k, i, f, a, cell, h1, h2, h3, h4, by rw [hq a (Array.getElem?_eq_some_iff.mp h5).1 h10]; exact h5, h6, h7, h8, h9, h10⟩
theorem vx_L.narrow {C n d : String} {A B : Nat → Prop} {U : State} {H : Heap} (h : vx_L C n d A U H) (hAB : ∀ q, B q → A q) : vx_L C n d B U H := by
  obtain ⟨c, k, i, f, a, cell, h1, h2, h3, h4, h5, h6, h7, h8, h9, h10⟩ := h
  exact ⟨c, k, i, f, a, cell, h1, h2, h3, h4, h5, h6, h7, h8, h9, fun z => h10 (hAB _ z)⟩
theorem vx_L.word {C n d : String} {A : Nat → Prop} {s : State} {args : Array Value} (h : vx_L C n d A s s.heap) : (Cond.laysStatic C n d).before args s = true := by
  obtain ⟨c, k, i, f, a, cell, h1, h2, h3, h4, h5, h6, h7, h8, h9, -⟩ := h
  show (Cond.laysStatic C n d).holds args s none s [] = true
  exact Cond.laysStatic_of h1 h2 h3 h4 h5 h6 h7 h8 h9
/-- .. and what it holds: null or some reference -/
def vx_Zq (C n d : String) (A : Nat → Prop) (U : State) (H : Heap) : Prop := va_Zq C n d A U H ∧ vx_L C n d A U H
theorem vx_Zq.moved {C n d : String} {A : Nat → Prop} {u U : State} {H : Heap} (hvm : u.vm.Alike U.vm) (h : vx_Zq C n d A u H) : vx_Zq C n d A U H := ⟨va_Zq.moved hvm h.1, vx_L.moved hvm h.2⟩
theorem vx_Zq.kept {C n d : String} {A : Nat → Prop} {U : State} {H H1 : Heap} (h : vx_Zq C n d A U H) (hq : ∀ a : Nat, a < H.size → ¬ A a → H1[a]? = H[a]?) : vx_Zq C n d A U H1 := ⟨va_Zq.kept h.1 hq, vx_L.kept h.2 hq⟩
theorem vx_Zq.narrow {C n d : String} {A B : Nat → Prop} {U : State} {H : Heap} (h : vx_Zq C n d A U H) (hAB : ∀ q, B q → A q) : vx_Zq C n d B U H := ⟨va_Zq.narrow h.1 hAB, vx_L.narrow h.2 hAB⟩
theorem vx_Zqof {args : Array Value} {s : State} {C n d : String} {A : Nat → Prop} (hl : (Cond.laysStatic C n d).before args s = true) (hini : (Cond.initialized C).before args s = true) (h : (Cond.isRef (.static C n d)).before args s = true) (hA : ∀ a : Nat, a < s.heap.size → ¬ A a) : vx_Zq C n d A s s.heap := by
  refine ⟨va_Zqof hl hini h hA, ?_⟩
  obtain ⟨c, k, i, f, a, cell, h1, h2, h3, h4, h5, h6, h7, h8, h9⟩ := Cond.laysStatic_spec hl
  exact ⟨c, k, i, f, a, cell, h1, h2, h3, h4, h5, h6, h7, h8, h9, hA a (Array.getElem?_eq_some_iff.mp h5).1⟩
theorem vx_isRef {C n d : String} {v : Value} {A : Nat → Prop} {s : State} {args : Array Value} (h : va_Z C n d v A s s.heap) (hv : v.isRef = true) : (Cond.isRef (.static C n d)).before args s = true := by
  obtain ⟨cf, kf, fi, f, a, cell, h1, h2, h3, h4, h5, h6, h7, -⟩ := h
  have he : (Term.static C n d).eval args s none [] s = some v := by
    simp [Term.eval, State.fieldNamed?, h1, h2, h4, h5, h6, h7]
  simp only [Cond.before, Cond.holds, Cond.value, he]
  cases v <;> simp_all [Value.isRef]
theorem vx_isRefq {C n d : String} {A : Nat → Prop} {s : State} {args : Array Value} (h : va_Zq C n d A s s.heap) : (Cond.isRef (.static C n d)).before args s = true := by
  rcases h with h | ⟨t, h⟩
  · exact vx_isRef h rfl
  · exact vx_isRef h rfl
/-- the same frame, seen from here: as if the method were called anew in this heap -/
theorem vx_rebase {T : State} (X : Stand p l e R s m args below meth c T locs cells slots) {R' : Room} (hf : R'.frames ≤ R.frames) (hl : R'.locals ≤ R.locals) (hc : cells + R'.cells ≤ R.cells) (hs : slots + R'.slots ≤ R.slots) :
    Stand p l e R' ((T.setVm s.vm).setFrames (.invoking m args :: below)) m args below meth c T [] 0 0 := by
  have htop : (T.setVm s.vm).topJava?.isSome := X.here.top
  have hF : ((T.setVm s.vm).setFrames (.invoking m args :: below)).frames = .invoking m args :: below := State.frames_setFrames _ (State.cur_lt_of_top htop)
  obtain ⟨g₀, hg0⟩ := Option.isSome_iff_exists.mp htop
  obtain ⟨r, hr⟩ := State.topJava?_eq_some.mp hg0
  have hl9 : e.platform.stackLimits (T.setVm s.vm).me = e.platform.stackLimits s.me := X.limits
  have hb9 : (T.setVm s.vm).me.stackBytes = s.me.stackBytes := X.bytes
  refine ⟨X.admits, X.cas, X.clock, hF, ?_, X.hears, X.method, X.code, X.here, X.tail, X.warmed, ?_, ?_, ?_⟩
  · have h := X.room
    have hU : ((T.setVm s.vm).setFrames (.invoking m args :: below)).localsInUse = s.localsInUse := by
      rw [State.localsInUse_invoking hF (meth := meth) (c := c) X.method X.code, State.localsInUse_invoking X.frames X.method X.code]
    simp only [State.hasRoom, Bool.and_eq_true, decide_eq_true_eq] at h ⊢
    obtain ⟨⟨⟨⟨h1, h2, h3, h4, h5, h6⟩, h7⟩, h8⟩, h9⟩ := h
    rw [X.frames, List.length_cons] at h2 h3
    have q1 := X.heapSize
    have q2 := X.used
    simp only [hF, hU, List.length_cons, State.stackLimits_setFrames, State.stackBytes_setFrames, hl9, hb9]
    refine ⟨⟨⟨⟨by omega, by omega, by omega, by omega, by omega, h6⟩, ?_⟩, ?_⟩, X.book⟩
    · show T.heap.size + R'.cells ≤ e.platform.maxCells
      omega
    · show T.slotsUsed + R'.slots ≤ e.platform.maxSlots
      omega
  · rw [State.stackLimits_setFrames]; rfl
  · rw [State.stackBytes_setFrames]; rfl
  · refine ⟨?_, Nat.le_refl _, Nat.le_refl _, ?_, ?_, fun a c9 h9 => ⟨c9, h9, rfl, rfl, fun _ _ => rfl⟩⟩
    · obtain ⟨t, ht, -⟩ := State.frames_cons hr
      show T.setVm s.vm = { ((T.setVm s.vm).setFrames (.invoking m args :: below)).setFrames (T.setVm s.vm).frames with heap := T.heap, slotsUsed := T.slotsUsed }
      rw [State.setFrames_setFrames, State.setFrames_self ht]
      rfl
    · show T.slotsUsed = T.slotsUsed + ((T.heap.toList.drop T.heap.size).map (·.slots.size)).sum
      rw [List.drop_eq_nil_of_le (Nat.le_of_eq Array.length_toList)]
      rfl
    · show ((T.heap.toList.drop T.heap.size).map (·.slots.size)).sum ≤ 0
      rw [List.drop_eq_nil_of_le (Nat.le_of_eq Array.length_toList)]
      exact Nat.le_refl _
/-- 'throw new E()': new; dup; invokespecial; athrow -/
theorem vx_throw0 {cc : ByteArray} {pc : Nat} (hexec : p.tables.exec = Jvm.exec) (hb : c.code = cc) (hl : l.stackTraces = false) {own cls : String} {names : List String} {ik ic mc ms : Nat} {A : Nat → Prop}
    (hown : s.vm.findClass own = some m.cls) (hcls : Bundle.fit cls = true) (hnames : ∀ n ∈ names, Bundle.fit n = true)
    (hk : (Cond.classLink own ik cls).before args s = true) (hini : (Cond.initialized cls).before args s = true) (hat : ∀ w ∈ vx_at0 own ic cls names, w.before args s = true)
    (hgood : ∀ w ∈ Cond.classLink own ik cls :: Cond.initialized cls :: vx_at0 own ic cls names, vx_ot w = true)
    (hU : vx_Zq Bundle.tN "UNASSIGNED_STACK" Bundle.steD A s s.heap) (hN : vx_Zq Bundle.tN "SUPPRESSED_SENTINEL" Bundle.listD A s s.heap) (hS : va_S A s.heap H locs) (hsize : ls.size = c.maxLocals)
    (d0 : decode cc pc = .ok (.new ik, 3)) (d3 : decode cc (pc + 3) = .ok (.dup, 1)) (d4 : decode cc (pc + 4) = .ok (.invokespecial ic, 3)) (d7 : decode cc (pc + 7) = .ok (.athrow, 1))
    (hout : ∀ x ∈ c.exceptionTable.toList, covers x (pc + 7) = false)
    (hRframes : names.length + 3 < R.frames) (hRlocals : (rest.map fun v => v.category).sum + (13 * (names.length + 1) + 42) ≤ R.locals) (hRcells : cells + 1 ≤ R.cells) (hRslots : slots + 6 ≤ R.slots) (hlocks : meth.locks = false)
    (hx : ∀ t : State, s.vm.Alike t.vm → H.size ≤ t.heap.size → (∀ q : Nat, q < H.size → t.heap[q]? = H[q]?) → XC cls s t)
    (hf : ∀ z ∈ locs, free z.base) (hc : cells + 1 ≤ mc) (hs : slots + 6 ≤ ms) :
    W p l e R s m args below meth c H locs cells slots (vx_MQ below Qc XC args s mc ms free) (F0 m pc ls rest) := by
  intro T hT X
  have htr : e.platform.stackTraces = false := (show e.platform.stackTraces = l.stackTraces by rw [X.admits.platform]).trans hl
  have Y := vx_rebase X (R' := { frames := R.frames, locals := R.locals, cells := 1, slots := 6 }) (Nat.le_refl _) (Nat.le_refl _) hRcells hRslots
  obtain ⟨s', hA⟩ : ∃ z, z = (T.setVm s.vm).setFrames (.invoking m args :: below) := ⟨_, rfl⟩
  rw [← hA] at Y
  have hvm : s'.vm = s.vm := by rw [hA]; rfl
  have hhp : s'.heap = H := by rw [hA]; exact hT
  have hW0 : s.WarmedH s'.vm := by rw [hvm]; exact State.WarmedH.refl s
  have hat' : ∀ w ∈ vx_at0 own ic cls names, w.before args s' = true := fun w hw => vx_ot_at hW0 hvm.symm (hgood w (List.mem_cons_of_mem _ (List.mem_cons_of_mem _ hw))) (hat w hw)
  have hk' : (Cond.classLink own ik cls).before args s' = true := vx_ot_at hW0 hvm.symm (hgood _ List.mem_cons_self) hk
  have hini' : (Cond.initialized cls).before args s' = true := vx_ot_at hW0 hvm.symm (hgood _ (List.mem_cons_of_mem _ List.mem_cons_self)) hini
  have hU' : vx_Zq Bundle.tN "UNASSIGNED_STACK" Bundle.steD A s' s'.heap := by rw [hhp]; exact vx_Zq.moved hW0.alike (hU.kept hS.2.1)
  have hN' : vx_Zq Bundle.tN "SUPPRESSED_SENTINEL" Bundle.listD A s' s'.heap := by rw [hhp]; exact vx_Zq.moved hW0.alike (hN.kept hS.2.1)
  have h : ∀ w ∈ Bundle.ownAtoms0 own ic cls names, w.before args s' = true := vx_own hat' (vx_isRefq hU'.1) (vx_isRefq hN'.1) hU'.2.word hN'.2.word
  have hown' : s'.vm.findClass own = some m.cls := by rw [hvm]; exact hown
  have hins : (Cond.instantiable cls 6).before args s' = true := h _ (by simp [Bundle.ownAtoms0])
  obtain ⟨vm₁, cX, kX, hfX, hkX, -, -, X₁, st1⟩ := Y.newCold hexec (own := own) (C := cls) (index := ik) (n := 6) hown' hk' hins hini'
    (g := F0 m pc ls rest) rfl (by rw [hb]; exact d0) (Nat.le_refl _) (Nat.le_refl _)
  generalize hT1 : (T.setVm vm₁).pushCell { cls := cX, slots := kX.instanceTypes.map defaultValue, vm := .none } = T1 at X₁ st1
  have hcat : (Value.ref T.heap.size).category = 1 := rfl
  have hcellA : T1.heap[T.heap.size]? = some (freshCell cX kX) := by rw [← hT1]; exact State.heap_pushCell_size _ _
  have d3' : decode c.code (pc + 3) = .ok (.dup, 1) := by rw [hb]; exact d3
  obtain ⟨U, hsteps, hrun, hend, hW, hsame, ce, hce, hO⟩ := X₁.ctorThrow0 hexec htr (own := own) (cls := cls) (names := names) (ic := ic) hown' hcls hnames h (fun x hx => nomatch hx) hfX hkX hcellA (by rw [hhp, hT]; exact Nat.le_refl _)
    (g := { method := m, pc := pc + 4, locals := ls, stack := .ref T.heap.size :: .ref T.heap.size :: rest, locked := none }) rfl hsize rfl rfl (rest := rest) rfl
    (by rw [hb]; exact d4) (by rw [hb]; exact d7) hout hRframes (by simp only [List.map_cons, List.sum_cons, hcat]; omega) hlocks
  obtain ⟨f1, f2⟩ := vx_frame hsame
  rw [hhp] at f1 f2
  have hWs : s.WarmedH U.vm := State.WarmedH.trans hW0 hW
  have hcl : s.vm.findClass cls = some ce.cls := by
    have h9 := hO.cls
    rw [hvm] at h9
    exact h9
  have hall : s.sameButNew ({ U with vm := s.vm } : State) locs mc ms := by
    subst hA
    obtain ⟨e1, e2⟩ := hsame
    rw [State.setFrames_setFrames] at e1
    have h2 : (T.setVm s.vm).sameButNew ({ U with vm := s.vm } : State) [] (0 + 1) (0 + 6) := ⟨e1, e2⟩
    have h3 := X.same.trans h2
    rw [List.append_nil] at h3
    exact h3.mono hc hs
  refine ⟨U, ?_, .threw T.heap.size, hrun, hend, Or.inr ⟨T.heap.size, rfl, cls, ce, locs, hx U hWs.alike f1 (fun q hq => f2 q hq (fun z hz => nomatch hz)), hce, hO.vm, hcl, hWs, hall, hf⟩⟩
  refine st1 _ ?_
  show Steps p.tables e below (T1.setTop { method := m, pc := pc + 3, locals := ls, stack := .ref T.heap.size :: rest, locked := none }) _
  jvm_step X₁.here [X₁.here.top, hexec, d3', Value.category]
  exact hsteps
/-- 'throw new E("text")': new; dup; ldc; invokespecial; athrow -/
theorem vx_throwS {cc : ByteArray} {pc : Nat} (hexec : p.tables.exec = Jvm.exec) (hb : c.code = cc) (hl : l.stackTraces = false) {own cls text : String} {names : List String} {ik is ic mc ms sa : Nat} {A : Nat → Prop}
    (hown : s.vm.findClass own = some m.cls) (hcls : Bundle.fit cls = true) (hnames : ∀ n ∈ names, Bundle.fit n = true)
    (hk : (Cond.classLink own ik cls).before args s = true) (hini : (Cond.initialized cls).before args s = true) (hstr : vk_R own is text sa s) (hat : ∀ w ∈ vx_atS own ic cls names, w.before args s = true)
    (hgood : ∀ w ∈ Cond.classLink own ik cls :: Cond.initialized cls :: vx_atS own ic cls names, vx_ot w = true)
    (hU : vx_Zq Bundle.tN "UNASSIGNED_STACK" Bundle.steD A s s.heap) (hN : vx_Zq Bundle.tN "SUPPRESSED_SENTINEL" Bundle.listD A s s.heap) (hS : va_S A s.heap H locs) (hsize : ls.size = c.maxLocals)
    (d0 : decode cc pc = .ok (.new ik, 3)) (d3 : decode cc (pc + 3) = .ok (.dup, 1)) (d4 : decode cc (pc + 4) = .ok (.ldc is, 2)) (d6 : decode cc (pc + 6) = .ok (.invokespecial ic, 3)) (d9 : decode cc (pc + 9) = .ok (.athrow, 1))
    (hout : ∀ x ∈ c.exceptionTable.toList, covers x (pc + 9) = false)
    (hRframes : names.length + 3 < R.frames) (hRlocals : (rest.map fun v => v.category).sum + (13 * (names.length + 1) + 43) ≤ R.locals) (hRcells : cells + 1 ≤ R.cells) (hRslots : slots + 6 ≤ R.slots) (hlocks : meth.locks = false)
    (hx : ∀ t : State, s.vm.Alike t.vm → H.size ≤ t.heap.size → (∀ q : Nat, q < H.size → t.heap[q]? = H[q]?) → XC cls s t)
    (hf : ∀ z ∈ locs, free z.base) (hc : cells + 1 ≤ mc) (hs : slots + 6 ≤ ms) :
    W p l e R s m args below meth c H locs cells slots (vx_MQ below Qc XC args s mc ms free) (F0 m pc ls rest) := by
  intro T hT X
  have htr : e.platform.stackTraces = false := (show e.platform.stackTraces = l.stackTraces by rw [X.admits.platform]).trans hl
  have Y := vx_rebase X (R' := { frames := R.frames, locals := R.locals, cells := 1, slots := 6 }) (Nat.le_refl _) (Nat.le_refl _) hRcells hRslots
  obtain ⟨s', hA⟩ : ∃ z, z = (T.setVm s.vm).setFrames (.invoking m args :: below) := ⟨_, rfl⟩
  rw [← hA] at Y
  have hvm : s'.vm = s.vm := by rw [hA]; rfl
  have hhp : s'.heap = H := by rw [hA]; exact hT
  have hW0 : s.WarmedH s'.vm := by rw [hvm]; exact State.WarmedH.refl s
  have hat' : ∀ w ∈ vx_atS own ic cls names, w.before args s' = true := fun w hw => vx_ot_at hW0 hvm.symm (hgood w (List.mem_cons_of_mem _ (List.mem_cons_of_mem _ hw))) (hat w hw)
  have hk' : (Cond.classLink own ik cls).before args s' = true := vx_ot_at hW0 hvm.symm (hgood _ List.mem_cons_self) hk
  have hini' : (Cond.initialized cls).before args s' = true := vx_ot_at hW0 hvm.symm (hgood _ (List.mem_cons_of_mem _ List.mem_cons_self)) hini
  have hU' : vx_Zq Bundle.tN "UNASSIGNED_STACK" Bundle.steD A s' s'.heap := by rw [hhp]; exact vx_Zq.moved hW0.alike (hU.kept hS.2.1)
  have hN' : vx_Zq Bundle.tN "SUPPRESSED_SENTINEL" Bundle.listD A s' s'.heap := by rw [hhp]; exact vx_Zq.moved hW0.alike (hN.kept hS.2.1)
  have h : ∀ w ∈ Bundle.ownAtoms own ic cls names, w.before args s' = true := vx_own hat' (vx_isRefq hU'.1) (vx_isRefq hN'.1) hU'.2.word hN'.2.word
  have hown' : s'.vm.findClass own = some m.cls := by rw [hvm]; exact hown
  have hins : (Cond.instantiable cls 6).before args s' = true := h _ (by simp [Bundle.ownAtoms])
  obtain ⟨vm₁, cX, kX, hfX, hkX, -, -, X₁, st1⟩ := Y.newCold hexec (own := own) (C := cls) (index := ik) (n := 6) hown' hk' hins hini'
    (g := F0 m pc ls rest) rfl (by rw [hb]; exact d0) (Nat.le_refl _) (Nat.le_refl _)
  generalize hT1 : (T.setVm vm₁).pushCell { cls := cX, slots := kX.instanceTypes.map defaultValue, vm := .none } = T1 at X₁ st1
  have hcat : (Value.ref T.heap.size).category = 1 := rfl
  have hcellA : T1.heap[T.heap.size]? = some (freshCell cX kX) := by rw [← hT1]; exact State.heap_pushCell_size _ _
  have d3' : decode c.code (pc + 3) = .ok (.dup, 1) := by rw [hb]; exact d3
  have d4' : decode c.code (pc + 4) = .ok (.ldc is, 2) := by rw [hb]; exact d4
  have hstr' : vk_R own is text sa s' := vk_R.warm hW0 hstr
  obtain ⟨U, hsteps, hrun, hend, hW, hsame, ce, hce, hO⟩ := X₁.ctorThrowS hexec htr (own := own) (cls := cls) (names := names) (ic := ic) hown' hcls hnames h (fun x hx => nomatch hx) hfX hkX hcellA (by rw [hhp, hT]; exact Nat.le_refl _) (msg := .ref sa) rfl
    (g := { method := m, pc := pc + 6, locals := ls, stack := .ref sa :: .ref T.heap.size :: .ref T.heap.size :: rest, locked := none }) rfl hsize rfl rfl (rest := rest) rfl
    (by rw [hb]; exact d6) (by rw [hb]; exact d9) hout hRframes (by simp only [List.map_cons, List.sum_cons, hcat]; omega) hlocks
  obtain ⟨f1, f2⟩ := vx_frame hsame
  rw [hhp] at f1 f2
  have hWs : s.WarmedH U.vm := State.WarmedH.trans hW0 hW
  have hcl : s.vm.findClass cls = some ce.cls := by
    have h9 := hO.cls
    rw [hvm] at h9
    exact h9
  have hall : s.sameButNew ({ U with vm := s.vm } : State) locs mc ms := by
    subst hA
    obtain ⟨e1, e2⟩ := hsame
    rw [State.setFrames_setFrames] at e1
    have h2 : (T.setVm s.vm).sameButNew ({ U with vm := s.vm } : State) [] (0 + 1) (0 + 6) := ⟨e1, e2⟩
    have h3 := X.same.trans h2
    rw [List.append_nil] at h3
    exact h3.mono hc hs
  refine ⟨U, ?_, .threw T.heap.size, hrun, hend, Or.inr ⟨T.heap.size, rfl, cls, ce, locs, hx U hWs.alike f1 (fun q hq => f2 q hq (fun z hz => nomatch hz)), hce, hO.vm, hcl, hWs, hall, hf⟩⟩
  refine st1 _ ?_
  show Steps p.tables e below (T1.setTop { method := m, pc := pc + 3, locals := ls, stack := .ref T.heap.size :: rest, locked := none }) _
  jvm_step X₁.here [X₁.here.top, hexec, d3', Value.category]
  exact X₁.ldcString hexec (own := own) (text := text) (index := is) (a := sa) hown' hstr'.1 hstr'.2
    (g := { method := m, pc := pc + 4, locals := ls, stack := .ref T.heap.size :: .ref T.heap.size :: rest, locked := none }) rfl d4' _ hsteps
/-- 'throw new E("text")', the text by a wide index -/
theorem vx_throwSW {cc : ByteArray} {pc : Nat} (hexec : p.tables.exec = Jvm.exec) (hb : c.code = cc) (hl : l.stackTraces = false) {own cls text : String} {names : List String} {ik is ic mc ms sa : Nat} {A : Nat → Prop}
    (hown : s.vm.findClass own = some m.cls) (hcls : Bundle.fit cls = true) (hnames : ∀ n ∈ names, Bundle.fit n = true)
    (hk : (Cond.classLink own ik cls).before args s = true) (hini : (Cond.initialized cls).before args s = true) (hstr : vk_R own is text sa s) (hat : ∀ w ∈ vx_atS own ic cls names, w.before args s = true)
    (hgood : ∀ w ∈ Cond.classLink own ik cls :: Cond.initialized cls :: vx_atS own ic cls names, vx_ot w = true)
    (hU : vx_Zq Bundle.tN "UNASSIGNED_STACK" Bundle.steD A s s.heap) (hN : vx_Zq Bundle.tN "SUPPRESSED_SENTINEL" Bundle.listD A s s.heap) (hS : va_S A s.heap H locs) (hsize : ls.size = c.maxLocals)
    (d0 : decode cc pc = .ok (.new ik, 3)) (d3 : decode cc (pc + 3) = .ok (.dup, 1)) (d4 : decode cc (pc + 4) = .ok (.ldc_w is, 3)) (d7 : decode cc (pc + 7) = .ok (.invokespecial ic, 3)) (d10 : decode cc (pc + 10) = .ok (.athrow, 1))
    (hout : ∀ x ∈ c.exceptionTable.toList, covers x (pc + 10) = false)
    (hRframes : names.length + 3 < R.frames) (hRlocals : (rest.map fun v => v.category).sum + (13 * (names.length + 1) + 43) ≤ R.locals) (hRcells : cells + 1 ≤ R.cells) (hRslots : slots + 6 ≤ R.slots) (hlocks : meth.locks = false)
    (hx : ∀ t : State, s.vm.Alike t.vm → H.size ≤ t.heap.size → (∀ q : Nat, q < H.size → t.heap[q]? = H[q]?) → XC cls s t)
    (hf : ∀ z ∈ locs, free z.base) (hc : cells + 1 ≤ mc) (hs : slots + 6 ≤ ms) :
    W p l e R s m args below meth c H locs cells slots (vx_MQ below Qc XC args s mc ms free) (F0 m pc ls rest) := by
  intro T hT X
  have htr : e.platform.stackTraces = false := (show e.platform.stackTraces = l.stackTraces by rw [X.admits.platform]).trans hl
  have Y := vx_rebase X (R' := { frames := R.frames, locals := R.locals, cells := 1, slots := 6 }) (Nat.le_refl _) (Nat.le_refl _) hRcells hRslots
  obtain ⟨s', hA⟩ : ∃ z, z = (T.setVm s.vm).setFrames (.invoking m args :: below) := ⟨_, rfl⟩
  rw [← hA] at Y
  have hvm : s'.vm = s.vm := by rw [hA]; rfl
  have hhp : s'.heap = H := by rw [hA]; exact hT
  have hW0 : s.WarmedH s'.vm := by rw [hvm]; exact State.WarmedH.refl s
  have hat' : ∀ w ∈ vx_atS own ic cls names, w.before args s' = true := fun w hw => vx_ot_at hW0 hvm.symm (hgood w (List.mem_cons_of_mem _ (List.mem_cons_of_mem _ hw))) (hat w hw)
  have hk' : (Cond.classLink own ik cls).before args s' = true := vx_ot_at hW0 hvm.symm (hgood _ List.mem_cons_self) hk
  have hini' : (Cond.initialized cls).before args s' = true := vx_ot_at hW0 hvm.symm (hgood _ (List.mem_cons_of_mem _ List.mem_cons_self)) hini
  have hU' : vx_Zq Bundle.tN "UNASSIGNED_STACK" Bundle.steD A s' s'.heap := by rw [hhp]; exact vx_Zq.moved hW0.alike (hU.kept hS.2.1)
  have hN' : vx_Zq Bundle.tN "SUPPRESSED_SENTINEL" Bundle.listD A s' s'.heap := by rw [hhp]; exact vx_Zq.moved hW0.alike (hN.kept hS.2.1)
  have h : ∀ w ∈ Bundle.ownAtoms own ic cls names, w.before args s' = true := vx_own hat' (vx_isRefq hU'.1) (vx_isRefq hN'.1) hU'.2.word hN'.2.word
  have hown' : s'.vm.findClass own = some m.cls := by rw [hvm]; exact hown
  have hins : (Cond.instantiable cls 6).before args s' = true := h _ (by simp [Bundle.ownAtoms])
  obtain ⟨vm₁, cX, kX, hfX, hkX, -, -, X₁, st1⟩ := Y.newCold hexec (own := own) (C := cls) (index := ik) (n := 6) hown' hk' hins hini'
    (g := F0 m pc ls rest) rfl (by rw [hb]; exact d0) (Nat.le_refl _) (Nat.le_refl _)
  generalize hT1 : (T.setVm vm₁).pushCell { cls := cX, slots := kX.instanceTypes.map defaultValue, vm := .none } = T1 at X₁ st1
  have hcat : (Value.ref T.heap.size).category = 1 := rfl
  have hcellA : T1.heap[T.heap.size]? = some (freshCell cX kX) := by rw [← hT1]; exact State.heap_pushCell_size _ _
  have d3' : decode c.code (pc + 3) = .ok (.dup, 1) := by rw [hb]; exact d3
  have d4' : decode c.code (pc + 4) = .ok (.ldc_w is, 3) := by rw [hb]; exact d4
  have hstr' : vk_R own is text sa s' := vk_R.warm hW0 hstr
  obtain ⟨U, hsteps, hrun, hend, hW, hsame, ce, hce, hO⟩ := X₁.ctorThrowS hexec htr (own := own) (cls := cls) (names := names) (ic := ic) hown' hcls hnames h (fun x hx => nomatch hx) hfX hkX hcellA (by rw [hhp, hT]; exact Nat.le_refl _) (msg := .ref sa) rfl
    (g := { method := m, pc := pc + 7, locals := ls, stack := .ref sa :: .ref T.heap.size :: .ref T.heap.size :: rest, locked := none }) rfl hsize rfl rfl (rest := rest) rfl
    (by rw [hb]; exact d7) (by rw [hb]; exact d10) hout hRframes (by simp only [List.map_cons, List.sum_cons, hcat]; omega) hlocks
  obtain ⟨f1, f2⟩ := vx_frame hsame
  rw [hhp] at f1 f2
  have hWs : s.WarmedH U.vm := State.WarmedH.trans hW0 hW
  have hcl : s.vm.findClass cls = some ce.cls := by
    have h9 := hO.cls
    rw [hvm] at h9
    exact h9
  have hall : s.sameButNew ({ U with vm := s.vm } : State) locs mc ms := by
    subst hA
    obtain ⟨e1, e2⟩ := hsame
    rw [State.setFrames_setFrames] at e1
    have h2 : (T.setVm s.vm).sameButNew ({ U with vm := s.vm } : State) [] (0 + 1) (0 + 6) := ⟨e1, e2⟩
    have h3 := X.same.trans h2
    rw [List.append_nil] at h3
    exact h3.mono hc hs
  refine ⟨U, ?_, .threw T.heap.size, hrun, hend, Or.inr ⟨T.heap.size, rfl, cls, ce, locs, hx U hWs.alike f1 (fun q hq => f2 q hq (fun z hz => nomatch hz)), hce, hO.vm, hcl, hWs, hall, hf⟩⟩
  refine st1 _ ?_
  show Steps p.tables e below (T1.setTop { method := m, pc := pc + 3, locals := ls, stack := .ref T.heap.size :: rest, locked := none }) _
  jvm_step X₁.here [X₁.here.top, hexec, d3', Value.category]
  exact X₁.ldcStringW hexec (own := own) (text := text) (index := is) (a := sa) hown' hstr'.1 hstr'.2
    (g := { method := m, pc := pc + 4, locals := ls, stack := .ref T.heap.size :: .ref T.heap.size :: rest, locked := none }) rfl d4' _ hsteps
end Ends
section Bodies
variable {l : Launch}
theorem vx_ofW {y : MethodName} {ws ws' : List Cond} {rm : Room} {Pc : Array Value → State → Prop} {Qc : Array Value → State → Outcome → State → Prop} {XC : String → State → State → Prop} {mc ms : Nat} {free : Addr → Prop} {cc : ByteArray} {maxL : Nat} {ret : Option FieldType}
    (hy : plainName y.cls = true) (hw : ws = Cond.code y cc maxL ret :: ws')
    (body : ∀ p e s m args below meth c s₁, BodyLoose p l y (headSpec ws rm) cc maxL ret e s m args below meth c s₁ → c.maxLocals = maxL → (∀ x ∈ c.exceptionTable.toList, False) → Pc args s →
      W p l e (headSpec ws rm).room s m args below meth c s.heap [] 0 0 (vx_MQ below Qc XC args s mc ms free) (entryFrame m args maxL)) : vx_Met l y ws rm Pc Qc XC mc ms free := by
  refine MetFree.of_bodyS (code := cc) (maxLocals := maxL) (ret := ret) hy ?_ ?_
  · intro args s m h hn
    obtain ⟨meth, c, h1, h2, h3, h4, h5, h6, -, -⟩ := Cond.code_spec hn (atoms_spec (ws := ws) h _ (by rw [hw]; exact List.mem_cons_self))
    exact ⟨meth, c, h1, h2, h3, h4, h5, h6⟩
  · intro p e s m args below meth c s₁ B hml hP _
    have hh0 : s₁.heap = s.heap := by rw [B.state]; rfl
    have ht : ∀ x ∈ c.exceptionTable.toList, False := by
      obtain ⟨meth9, c9, h1, h2, -, -, -, -, h7, -⟩ := Cond.code_spec B.named (atoms_spec (ws := ws) B.pre _ (by rw [hw]; exact List.mem_cons_self))
      cases Option.some.inj (h1.symm.trans B.method)
      cases Option.some.inj (h2.symm.trans (Stand.of_body B).code)
      intro x hx
      rw [Array.isEmpty_iff.mp h7] at hx
      cases hx
    obtain ⟨t, a1, o, b1, b2, b3⟩ := body p e s m args below meth c s₁ B hml ht hP s₁ hh0 (Stand.of_body B)
    exact ⟨t, o, a1, b1, b2, b3⟩
/-- the table of a body with handlers -/
theorem vx_table {p : Program} {x y : MethodName} {S : Spec} {cc bytes : ByteArray} {maxL maxL' : Nat} {ret ret' : Option FieldType} {e : Env} {s s₁ : State} {m : MethodId} {args : Array Value} {below : List Frame} {meth : Method} {c : Code} {hh : List (Nat × Nat × Nat × Nat)}
    (B : BodyLoose p l y S cc maxL ret e s m args below meth c s₁) (h : (Cond.codeWith y bytes maxL' ret' hh).before args s = true) : c.exceptionTable.toList = tableOf hh := by
  obtain ⟨m9, meth9, c9, hn9, h1, h2, -, -, h6, -⟩ := Cond.codeWith_spec h
  cases Option.some.inj (hn9.symm.trans B.named)
  cases Option.some.inj (h1.symm.trans B.method)
  cases Option.some.inj (h2.symm.trans (Stand.of_body B).code)
  rw [← h6, table_eq]
end Bodies
end VXA
/-! ===== END ===== -/
/-! ===== BEGIN a static call of a method with an exception table ===== -/
section VXS
variable {p : Program} {l : Launch} {e : Env} {R : Room} {s : State} {m : MethodId} {args : Array Value} {below : List Frame} {meth : Method} {c : Code} {T : State} {H : Heap} {locs : List Loc} {cells slots : Nat}
abbrev vx_CSW (R : Room) (s : State) (args : Array Value) (own : String) (index : Nat) (y : MethodName) (bytes : ByteArray) (maxL : Nat) (ret : Option FieldType) (hh : List (Nat × Nat × Nat × Nat)) (ws : List Cond) (rm : Room) (mc ms n : Nat) : Prop :=
  (rm.cells = mc ∧ rm.slots = ms ∧ rm.frames + 1 ≤ R.frames ∧ 8 + (maxL + 11) + rm.locals ≤ R.locals ∧ (∀ w ∈ ws, ∀ (a' : Array Value) (U : State), s.WarmedH U.vm → w.before a' U = true) ∧ Cond.codeWith y bytes maxL ret hh ∈ ws) ∧
  (Cond.codeWith y bytes maxL ret hh).before args s = true ∧ (Cond.initialized y.cls).before args s = true ∧ (y.cls ≠ "java/lang/invoke/MethodHandle" ∧ y.cls ≠ "java/lang/invoke/VarHandle") ∧
  (∀ sig, parseMethodDescriptor y.desc = some sig → n = sig.parameters.length) ∧ (Cond.methodLink own index y).before args s = true ∧ (Cond.static y).before args s = true
theorem vx_cwSW {own : String} {index maxL mc ms : Nat} {y : MethodName} {bytes : ByteArray} {ret : Option FieldType} {hh : List (Nat × Nat × Nat × Nat)} {Ts ws ws' : List Cond} {rm : Room} (n : Nat) (ht : ∀ w ∈ Ts, w.before args s = true) (hT : GoodIn Ts (va_wsS own index y ws)) (hw : ws = Cond.codeWith y bytes maxL ret hh :: ws') (hrc : rm.cells = mc) (hrs : rm.slots = ms)
    (hd : y.cls ≠ "java/lang/invoke/MethodHandle" ∧ y.cls ≠ "java/lang/invoke/VarHandle" ∧ (parseMethodDescriptor y.desc).map (fun d => d.parameters.length) = some n) (hR : rm.frames + 1 ≤ R.frames ∧ 8 + (maxL + 11) + rm.locals ≤ R.locals) :
    vx_CSW R s args own index y bytes maxL ret hh ws rm mc ms n := by
  have ok : ∀ w ∈ va_wsS own index y ws, w.before args s = true := fun w h => ht w (hT w h).1
  have hG : GoodIn Ts ws := fun w h => hT w (by unfold va_wsS; exact List.mem_append_right _ h)
  have hc : Cond.codeWith y bytes maxL ret hh ∈ ws := by rw [hw]; exact List.mem_cons_self
  refine ⟨⟨hrc, hrs, hR.1, hR.2, pay_in ht hG, hc⟩, ht _ (hG _ hc).1, ok _ (by simp [va_wsS]), ⟨hd.1, hd.2.1⟩, fun sig h => ?_, ok _ (by simp [va_wsS]), ok _ (by simp [va_wsS])⟩
  have h2 := hd.2.2
  rw [h] at h2
  exact (Option.some.inj h2).symm
theorem vx_callSW (X : Stand p l e R s m args below meth c T locs cells slots) (hexec : p.tables.exec = Jvm.exec) {own : String} {index : Nat} {y : MethodName} {bytes : ByteArray} {maxL : Nat} {ret : Option FieldType} {hh : List (Nat × Nat × Nat × Nat)}
    (hown : s.vm.findClass own = some m.cls) (hlink : (Cond.methodLink own index y).before args s = true) (hstat : (Cond.static y).before args s = true) (hinit : (Cond.initialized y.cls).before args s = true)
    (hcode : (Cond.codeWith y bytes maxL ret hh).before args s = true) (hy : y.cls ≠ "java/lang/invoke/MethodHandle" ∧ y.cls ≠ "java/lang/invoke/VarHandle")
    {W9 : Nat} {Pre : Pt → Array Value → Prop} {Post : Pt → Array Value → Option Value → Pt → Prop} (hK : Back l R p e below s args y 3 W9 Pre Post)
    {g : JFrame} (hg : g.method = m) (hsize : g.locals.size = c.maxLocals) {argsL rest : List Value} (hlen : ∀ sig, parseMethodDescriptor y.desc = some sig → argsL.length = sig.parameters.length)
    (hstack : g.stack = argsL.reverse ++ rest) (hW : 2 * g.monitorRoom + (rest.map fun v => v.category).sum ≤ W9) (hdg : decode c.code g.pc = .ok (.invokestatic index, 3))
    (hpre : ∀ vm₁, s.WarmedH vm₁ → Pre ⟨T.setVm vm₁, locs, cells, slots⟩ argsL.toArray) :
    ∃ (v : Option Value) (vm₁ : Vm) (B : Pt), s.WarmedH vm₁ ∧ Stand p l e R s m args below meth c B.U B.locs B.cells B.slots ∧ Post ⟨T.setVm vm₁, locs, cells, slots⟩ argsL.toArray v B ∧
      ∀ target, Steps p.tables e below (B.U.setTop { g with pc := g.pc + 3, stack := v.toList ++ rest }) target → Steps p.tables e below (T.setTop g) target := by
  obtain ⟨mk, methM, cM, hnamed, hmethM, -, -, -, -, -, -, hsigM⟩ := Cond.codeWith_spec hcode
  have hstatic : methM.isStatic = true := Cond.static_spec hnamed hmethM hstat
  obtain ⟨kP, hkP, -⟩ := className_of_methodNamed hnamed
  have hinitP : kP.init = .initialized := Cond.initialized_spec (findClass_of_methodNamed hnamed) hkP hinit
  obtain ⟨vm₁, X₁, hstep₁⟩ := X.invokestatic hexec hown hlink hnamed hmethM hstatic hkP hinitP hy (g := g) hg (argsL := argsL) (rest := rest) (hlen _ hsigM) hstack hdg
  obtain ⟨v, B, X', hpost, hsteps⟩ := hK m meth c ⟨T.setVm vm₁, locs, cells, slots⟩ { g with stack := rest } (.invokestatic index) mk argsL.toArray X₁ hg hsize hdg hW (X₁.named hnamed) (hpre vm₁ X₁.warmed)
  exact ⟨v, vm₁, B, X₁.warmed, X', hpost, fun target h => hstep₁ _ fun acts => by rw [doInvoke_state]; exact hsteps.trans h⟩
theorem vx_runSW {y : MethodName} {bytes cc : ByteArray} {maxL nL mc ms n index : Nat} {ret : Option FieldType} {hh : List (Nat × Nat × Nat × Nat)} {ws : List Cond} {rm : Room} {Pc : Array Value → State → Prop} {Qc : Array Value → State → Outcome → State → Prop} {free : Addr → Prop} {Ts : List Cond} {own : String} {As rest : List Value} {g : JFrame}
    (S : CallFix p m c cc nL s args Ts own) (hM : Met l y ws rm Pc Qc mc ms free) (cw : vx_CSW R s args own index y bytes maxL ret hh ws rm mc ms n) (hp : PreS s H Pc As)
    (hg : g.method = m) (hn : As.length = n) (hsize : g.locals.size = nL) (hstack : g.stack = As.reverse ++ rest) (hW : 2 * g.monitorRoom + (rest.map fun v => v.category).sum ≤ 8) (hdg : decode cc g.pc = .ok (.invokestatic index, 3)) (hf : cells + mc ≤ R.cells ∧ slots + ms ≤ R.slots) :
    va_Run p l e R s m args below meth c H locs cells slots mc ms g rest (Qc As.toArray) (free) := by
  obtain ⟨⟨hrc, hrs, hfr, hlo, hws, hcw⟩, hcode, hini, hy, hlen, hl, hstt⟩ := cw
  have hK : Back l R p e below s args y 3 8 (PreOf R mc ms Pc) (PostOf Qc mc ms free) := va_backW (hh := hh) (bytes := bytes) (maxL := maxL) (ret := ret) hM hp.1 hrc hrs hfr hlo hws hcw (fun a' U hW => word_at hW (Or.inl (by first | rfl | simp [Cond.onTables, Cond.keeps, Cond.steady])) hini)
  obtain ⟨hx, hb, hml, ho, -⟩ := S
  intro T hT X
  obtain ⟨v, vm₁, ⟨U', l2, c2, s2⟩, hW₁, X', ⟨g', mk, t, L, e1, e2, hq, h1, hL, h2, h3⟩, st⟩ := vx_callSW X hx (hh := hh) (bytes := bytes) (maxL := maxL) (ret := ret) ho hl hstt hini hcode hy hK hg (hsize.trans hml.symm) (argsL := As) (rest := rest) (fun sig h => hn.trans (hlen sig h)) hstack hW (by rw [hb]; exact hdg)
    (fun vm₁ hW₁ => ⟨hf.1, hf.2, hp.2 (T.setVm vm₁) hT hW₁⟩)
  dsimp only [Pt.U, Pt.locs, Pt.cells, Pt.slots] at X' e1 e2 h1 h2 h3 st
  subst h1; subst h2; subst h3
  exact ⟨v, (T.setVm vm₁).calling g' mk As.toArray, t, U', L, hT, X', hL, e1, e2, hq, st⟩
/-- a thing of a world lies in the heap -/
theorem vx_lt {D : va_G} {cl : List vw_C} {ws : va_W} {H1 : Heap} (h : va_P D cl ws H1) {k : Nat} {q : Nat × va_E} (hk : ws[k]? = some q) : q.1 < H1.size := (h k q hk).lt
end VXS
/-! ===== END ===== -/
/-! ===== BEGIN methods with a table of their own: called by a name, returning or throwing ===== -/
section VXH
/-! vx_backW, vx_callVX, vx_callSX, vx_callVW, vx_runVW, vx_runVX, vx_runSX, vx_ofWH follow the same proofs as their sisters above (Free/Laws.lean, Shelf42/LK1.lean); vx_outP calls Shelf42/NT130.lean (outThrough). -/
section
variable {l : Launch} {R : Room} {p : Program} {e : Env} {below : List Frame} {s : State} {sargs : Array Value} {y : MethodName} {len W9 : Nat}
theorem vx_backW {ws : List Cond} {rm : Room} {Pc : Array Value → State → Prop} {Qc : Array Value → State → Outcome → State → Prop} {XC : String → State → State → Prop} {mc ms : Nat} {free : Addr → Prop} {bytes : ByteArray} {maxL : Nat} {ret : Option FieldType} {hh : List (Nat × Nat × Nat × Nat)}
    (hM : vx_Met l y ws rm Pc Qc XC mc ms free) (hblind : FrameBlind Pc) (hrc : rm.cells = mc) (hrs : rm.slots = ms)
    (hframes : rm.frames + 1 ≤ R.frames) (hlocals : W9 + (maxL + 11) + rm.locals ≤ R.locals)
    (hws : ∀ w ∈ ws, ∀ a' U, s.WarmedH U.vm → w.before a' U = true) (hcode : Cond.codeWith y bytes maxL ret hh ∈ ws) (hinit : ∀ a' U, s.WarmedH U.vm → (Cond.initialized y.cls).before a' U = true) :
    vx_Back l R p e below s sargs y len W9 (PreOf R mc ms Pc) (PostOf Qc mc ms free) (vx_Post XC mc ms free) := by
  intro m meth c A g ig mk a X hg hsize hdg hW hn hp
  have h1 : (headSpec ws rm).pre.before a A.U = true := atoms_intro fun w hw => hws w hw _ _ X.warmed
  have h2 : (Cond.codeWith y bytes maxL ret hh).before a A.U = true := hws _ hcode _ _ X.warmed
  have h3 : (Cond.initialized y.cls).before a A.U = true := hinit _ _ X.warmed
  have h4 : A.cells + (headSpec ws rm).room.cells ≤ R.cells := by rw [show (headSpec ws rm).room.cells = mc from hrc]; exact hp.1
  have h5 : A.slots + (headSpec ws rm).room.slots ≤ R.slots := by rw [show (headSpec ws rm).room.slots = ms from hrs]; exact hp.2.1
  have hPc : Pc a (A.U.calling g mk a) := hblind _ _ _ _ hp.2.2
  obtain ⟨U, Ls, c0, s0⟩ := A
  dsimp only [Pt.U, Pt.locs, Pt.cells, Pt.slots] at h1 h2 h3 h4 h5 X hn hPc ⊢
  obtain ⟨m9, methY, cY, hn9, hmY, hcY, -, hlY, -⟩ := Cond.codeWith_spec h2
  cases Option.some.inj (hn9.symm.trans hn)
  obtain ⟨kY, hkY, -⟩ := className_of_methodNamed hn
  have hinitY : kY.init = .initialized := Cond.initialized_spec (findClass_of_methodNamed hn) hkY h3
  have h : At U g.method c below := by rw [hg]; exact X.here
  have hlocals9 : W9 + (maxL + 11) + (headSpec ws rm).room.locals ≤ R.locals := hlocals
  have happ : (headSpec ws rm).appliesLoose y e.platform (U.calling g mk a) = true :=
    Spec.appliesLoose_calling (g := g) h hdg hn hkY hinitY
      (X.room_calling (g := g) (R' := (headSpec ws rm).room) hsize hmY hcY hframes (by rw [hlY]; omega) h4 h5) h1
  obtain ⟨mid, hmid⟩ := h.above
  have hfr : (U.setTop g).frames = (.java g :: mid) ++ below := by rw [State.frames_setTop' g h.top, hmid]; rfl
  obtain ⟨o, s₂, hsteps, -, hend, hq⟩ := Steps.callFree hM p X.admits X.cas X.clock (acts := []) hfr happ hPc trivial
  have hq' : vx_Q Qc XC mc ms free a (U.calling g mk a) o s₂ := hq
  rw [State.frames_setTop' g h.top] at hend
  obtain ⟨g₀, hg0⟩ := Option.isSome_iff_exists.mp h.top
  obtain ⟨r, hr⟩ := State.topJava?_eq_some.mp hg0
  have hr' : (({ U with heap := s₂.heap, slotsUsed := s₂.slotsUsed } : State).setVm s₂.vm).frames = .java g₀ :: r := hr
  rcases hq' with ⟨hqc, L, hfe, hL⟩ | ⟨q, rfl, E, ce, L, hx, hce, hcv, hcl, hW₂, hsm, hL⟩
  · obtain ⟨⟨v, rfl⟩, hW₂, e2, q2, q3, q4, q5, q6⟩ := id hfe
    have e3 : s₂ = ({ (U.calling g mk a).setFrames s₂.frames with heap := s₂.heap, slotsUsed := s₂.slotsUsed } : State).setVm s₂.vm := by
      have : s₂ = ({ s₂ with vm := (U.calling g mk a).vm } : State).setVm s₂.vm := rfl
      rw [e2] at this
      exact this
    obtain ⟨c₂, i₂, len₂, hc₂, hd₂, hf₂⟩ := hend
    have hW' : U.WarmedH s₂.vm := hW₂
    have hcc : c₂ = c := by
      have h1 : s₂.code? g.method = U.code? g.method := by
        rw [State.code?_eq, State.code?_eq, hW'.alike.method?]
      exact Option.some.inj (hc₂.symm.trans (h1.trans h.code))
    subst hcc
    have hlen : len₂ = len := by rw [hdg] at hd₂; cases hd₂; rfl
    subst hlen
    have hs₂ : s₂ = (({ U with heap := s₂.heap, slotsUsed := s₂.slotsUsed } : State).setVm s₂.vm).setTop { g with pc := g.pc + len₂, stack := v.toList ++ g.stack } := by
      refine e3.trans ?_
      rw [hf₂, State.calling_eq h.top, State.setFrames_setFrames, State.setTop_of_frames _ hr', hr]
      rfl
    have hsame : U.sameButNew ({ U with heap := s₂.heap, slotsUsed := s₂.slotsUsed } : State) L mc ms := by
      refine ⟨?_, q2, q3, q4, q5, q6⟩
      obtain ⟨t, ht, -⟩ := State.frames_cons hr
      show ({ U with heap := s₂.heap, slotsUsed := s₂.slotsUsed } : State) = { U.setFrames U.frames with heap := s₂.heap, slotsUsed := s₂.slotsUsed }
      rw [State.setFrames_self ht]
    subst hg
    refine Or.inl ⟨v, ⟨(({ U with heap := s₂.heap, slotsUsed := s₂.slotsUsed } : State).setVm s₂.vm), Ls ++ L, c0 + mc, s0 + ms⟩,
      ⟨X.admits, X.cas, X.clock, X.frames, X.room, X.hears, X.method, X.code, (X.here.setHeapUsed s₂.heap s₂.slotsUsed).setVm hW'.alike, X.tail, State.WarmedH.trans X.warmed hW', X.limits, X.bytes, X.same.trans (hsame.setVm s.vm)⟩,
      ⟨g, mk, s₂, L, rfl, rfl, hqc, rfl, hL, rfl, rfl⟩, ?_⟩
    show Steps p.tables e below _ ((({ U with heap := s₂.heap, slotsUsed := s₂.slotsUsed } : State).setVm s₂.vm).setTop { g with pc := g.pc + len₂, stack := v.toList ++ g.stack })
    rw [← hs₂]
    exact hsteps
  · obtain ⟨e2, q2, q3, q4, q5, q6⟩ := id hsm
    have e3 : s₂ = ({ (U.calling g mk a).setFrames s₂.frames with heap := s₂.heap, slotsUsed := s₂.slotsUsed } : State).setVm s₂.vm := by
      have : s₂ = ({ s₂ with vm := (U.calling g mk a).vm } : State).setVm s₂.vm := rfl
      rw [e2] at this
      exact this
    have hf₂ : s₂.frames = .throwing q :: .java g :: U.frames.tail := hend
    have hW' : U.WarmedH s₂.vm := hW₂
    have hs₂ : s₂ = ((({ U with heap := s₂.heap, slotsUsed := s₂.slotsUsed } : State).setVm s₂.vm).setTop g).pushFrame (.throwing q) := by
      refine e3.trans ?_
      rw [hf₂, State.calling_eq h.top, State.setFrames_setFrames, State.pushFrame, State.frames_setTop _ hr', State.setTop_of_frames _ hr', State.setFrames_setFrames, hr]
      rfl
    have hsame : U.sameButNew ({ U with heap := s₂.heap, slotsUsed := s₂.slotsUsed } : State) L mc ms := by
      refine ⟨?_, q2, q3, q4, q5, q6⟩
      obtain ⟨t, ht, -⟩ := State.frames_cons hr
      show ({ U with heap := s₂.heap, slotsUsed := s₂.slotsUsed } : State) = { U.setFrames U.frames with heap := s₂.heap, slotsUsed := s₂.slotsUsed }
      rw [State.setFrames_self ht]
    subst hg
    refine Or.inr ⟨q, ⟨(({ U with heap := s₂.heap, slotsUsed := s₂.slotsUsed } : State).setVm s₂.vm), Ls ++ L, c0 + mc, s0 + ms⟩,
      ⟨X.admits, X.cas, X.clock, X.frames, X.room, X.hears, X.method, X.code, (X.here.setHeapUsed s₂.heap s₂.slotsUsed).setVm hW'.alike, X.tail, State.WarmedH.trans X.warmed hW', X.limits, X.bytes, X.same.trans (hsame.setVm s.vm)⟩,
      ⟨g, mk, s₂, L, E, ce, rfl, rfl, hx, hce, hcv, hcl, rfl, hL, rfl, rfl⟩, ?_⟩
    show Steps p.tables e below _ (((({ U with heap := s₂.heap, slotsUsed := s₂.slotsUsed } : State).setVm s₂.vm).setTop g).pushFrame (.throwing q))
    rw [← hs₂]
    exact hsteps
end
variable {p : Program} {l : Launch} {e : Env} {R : Room} {s : State} {m : MethodId} {args : Array Value} {below : List Frame} {meth : Method} {c : Code} {T : State} {H : Heap} {locs : List Loc} {cells slots : Nat}
theorem vx_callVX (X : Stand p l e R s m args below meth c T locs cells slots) (hexec : p.tables.exec = Jvm.exec) {own C : String} {index : Nat} {y : MethodName} {bytes : ByteArray} {maxL : Nat} {ret : Option FieldType} {hh : List (Nat × Nat × Nat × Nat)}
    (hown : s.vm.findClass own = some m.cls) (hlink : (Cond.methodLink own index y).before args s = true) (hinst : (Cond.instanceMethod y).before args s = true) (hsel : (Cond.selects C y y).before args s = true)
    (hcode : (Cond.codeWith y bytes maxL ret hh).before args s = true) (hy : y.cls ≠ "java/lang/invoke/MethodHandle" ∧ y.cls ≠ "java/lang/invoke/VarHandle")
    {W9 : Nat} {Pre : Pt → Array Value → Prop} {Post : Pt → Array Value → Option Value → Pt → Prop} {PostX : Pt → Array Value → Addr → Pt → Prop} (hK : vx_Back l R p e below s args y 3 W9 Pre Post PostX)
    {b : Addr} {cellB : Cell} (hcell : T.heap[b]? = some cellB) (hobj : cellB.vm.isStatics = false) (hcls : s.vm.findClass C = some cellB.cls)
    {g : JFrame} (hg : g.method = m) (hsize : g.locals.size = c.maxLocals) {argsL rest : List Value} (hlen : ∀ sig, parseMethodDescriptor y.desc = some sig → argsL.length = sig.parameters.length)
    (hstack : g.stack = argsL.reverse ++ .ref b :: rest) (hW : 2 * g.monitorRoom + (rest.map fun v => v.category).sum ≤ W9) (hdg : decode c.code g.pc = .ok (.invokevirtual index, 3))
    (hpre : ∀ vm₁, s.WarmedH vm₁ → Pre ⟨T.setVm vm₁, locs, cells, slots⟩ (Value.ref b :: argsL).toArray) :
    (∃ (v : Option Value) (vm₁ : Vm) (B : Pt), s.WarmedH vm₁ ∧ Stand p l e R s m args below meth c B.U B.locs B.cells B.slots ∧ Post ⟨T.setVm vm₁, locs, cells, slots⟩ (Value.ref b :: argsL).toArray v B ∧
      ∀ target, Steps p.tables e below (B.U.setTop { g with pc := g.pc + 3, stack := v.toList ++ rest }) target → Steps p.tables e below (T.setTop g) target) ∨
    (∃ (q : Addr) (vm₁ : Vm) (B : Pt), s.WarmedH vm₁ ∧ Stand p l e R s m args below meth c B.U B.locs B.cells B.slots ∧ PostX ⟨T.setVm vm₁, locs, cells, slots⟩ (Value.ref b :: argsL).toArray q B ∧
      Steps p.tables e below (T.setTop g) ((B.U.setTop { g with stack := rest }).pushFrame (.throwing q))) := by
  obtain ⟨mk, methM, hnamed, hmethM, hstM, habM⟩ := Cond.instanceMethod_spec hinst
  obtain ⟨m8, methM', cM, hn8, hmethM', -, -, -, -, -, -, hsigM⟩ := Cond.codeWith_spec hcode
  cases Option.some.inj (hn8.symm.trans hnamed)
  cases hmethM.symm.trans hmethM'
  obtain ⟨c2, r2, m2, q1, q2, q3, q4, kP, hkP, hkPi⟩ := Cond.selects_spec hsel
  cases hcls.symm.trans q1
  cases (State.methodFound?_of_named hnamed hy).symm.trans q2
  cases hnamed.symm.trans q3
  have hselP : selectMethod e.platform s.vm cellB.cls mk = .method mk := by rw [Launch.admits_selectMethod X.admits]; exact q4
  obtain ⟨vm₁, X₁, hstep₁⟩ := X.invokevirtual hexec hown hlink hnamed hmethM hstM hkP hkPi hy (a := b) (cell := cellB) hcell
    (fun z h => by rw [h] at hobj; cases hobj) hselP hmethM habM hkP hkPi (g := g) hg (argsL := argsL) (rest := rest) (hlen _ hsigM) hstack hdg
  rcases hK m meth c ⟨T.setVm vm₁, locs, cells, slots⟩ { g with stack := rest } (.invokevirtual index) mk (Value.ref b :: argsL).toArray X₁ hg hsize hdg hW (X₁.named hnamed) (hpre vm₁ X₁.warmed) with ⟨v, B, X', hpost, hsteps⟩ | ⟨q, B, X', hpost, hsteps⟩
  · exact Or.inl ⟨v, vm₁, B, X₁.warmed, X', hpost, fun target h => hstep₁ _ fun acts => by rw [doInvoke_state]; exact hsteps.trans h⟩
  · exact Or.inr ⟨q, vm₁, B, X₁.warmed, X', hpost, hstep₁ _ fun acts => by rw [doInvoke_state]; exact hsteps⟩
theorem vx_callSX (X : Stand p l e R s m args below meth c T locs cells slots) (hexec : p.tables.exec = Jvm.exec) {own : String} {index : Nat} {y : MethodName} {bytes : ByteArray} {maxL : Nat} {ret : Option FieldType} {hh : List (Nat × Nat × Nat × Nat)}
    (hown : s.vm.findClass own = some m.cls) (hlink : (Cond.methodLink own index y).before args s = true) (hstat : (Cond.static y).before args s = true) (hinit : (Cond.initialized y.cls).before args s = true)
    (hcode : (Cond.codeWith y bytes maxL ret hh).before args s = true) (hy : y.cls ≠ "java/lang/invoke/MethodHandle" ∧ y.cls ≠ "java/lang/invoke/VarHandle")
    {W9 : Nat} {Pre : Pt → Array Value → Prop} {Post : Pt → Array Value → Option Value → Pt → Prop} {PostX : Pt → Array Value → Addr → Pt → Prop} (hK : vx_Back l R p e below s args y 3 W9 Pre Post PostX)
    {g : JFrame} (hg : g.method = m) (hsize : g.locals.size = c.maxLocals) {argsL rest : List Value} (hlen : ∀ sig, parseMethodDescriptor y.desc = some sig → argsL.length = sig.parameters.length)
    (hstack : g.stack = argsL.reverse ++ rest) (hW : 2 * g.monitorRoom + (rest.map fun v => v.category).sum ≤ W9) (hdg : decode c.code g.pc = .ok (.invokestatic index, 3))
    (hpre : ∀ vm₁, s.WarmedH vm₁ → Pre ⟨T.setVm vm₁, locs, cells, slots⟩ argsL.toArray) :
    (∃ (v : Option Value) (vm₁ : Vm) (B : Pt), s.WarmedH vm₁ ∧ Stand p l e R s m args below meth c B.U B.locs B.cells B.slots ∧ Post ⟨T.setVm vm₁, locs, cells, slots⟩ argsL.toArray v B ∧
      ∀ target, Steps p.tables e below (B.U.setTop { g with pc := g.pc + 3, stack := v.toList ++ rest }) target → Steps p.tables e below (T.setTop g) target) ∨
    (∃ (q : Addr) (vm₁ : Vm) (B : Pt), s.WarmedH vm₁ ∧ Stand p l e R s m args below meth c B.U B.locs B.cells B.slots ∧ PostX ⟨T.setVm vm₁, locs, cells, slots⟩ argsL.toArray q B ∧
      Steps p.tables e below (T.setTop g) ((B.U.setTop { g with stack := rest }).pushFrame (.throwing q))) := by
  obtain ⟨mk, methM, cM, hnamed, hmethM, -, -, -, -, -, -, hsigM⟩ := Cond.codeWith_spec hcode
  have hstatic : methM.isStatic = true := Cond.static_spec hnamed hmethM hstat
  obtain ⟨kP, hkP, -⟩ := className_of_methodNamed hnamed
  have hinitP : kP.init = .initialized := Cond.initialized_spec (findClass_of_methodNamed hnamed) hkP hinit
  obtain ⟨vm₁, X₁, hstep₁⟩ := X.invokestatic hexec hown hlink hnamed hmethM hstatic hkP hinitP hy (g := g) hg (argsL := argsL) (rest := rest) (hlen _ hsigM) hstack hdg
  rcases hK m meth c ⟨T.setVm vm₁, locs, cells, slots⟩ { g with stack := rest } (.invokestatic index) mk argsL.toArray X₁ hg hsize hdg hW (X₁.named hnamed) (hpre vm₁ X₁.warmed) with ⟨v, B, X', hpost, hsteps⟩ | ⟨q, B, X', hpost, hsteps⟩
  · exact Or.inl ⟨v, vm₁, B, X₁.warmed, X', hpost, fun target h => hstep₁ _ fun acts => by rw [doInvoke_state]; exact hsteps.trans h⟩
  · exact Or.inr ⟨q, vm₁, B, X₁.warmed, X', hpost, hstep₁ _ fun acts => by rw [doInvoke_state]; exact hsteps⟩
theorem vx_callVW (X : Stand p l e R s m args below meth c T locs cells slots) (hexec : p.tables.exec = Jvm.exec) {own C : String} {index : Nat} {y : MethodName} {bytes : ByteArray} {maxL : Nat} {ret : Option FieldType} {hh : List (Nat × Nat × Nat × Nat)}
    (hown : s.vm.findClass own = some m.cls) (hlink : (Cond.methodLink own index y).before args s = true) (hinst : (Cond.instanceMethod y).before args s = true) (hsel : (Cond.selects C y y).before args s = true)
    (hcode : (Cond.codeWith y bytes maxL ret hh).before args s = true) (hy : y.cls ≠ "java/lang/invoke/MethodHandle" ∧ y.cls ≠ "java/lang/invoke/VarHandle")
    {W9 : Nat} {Pre : Pt → Array Value → Prop} {Post : Pt → Array Value → Option Value → Pt → Prop} (hK : Back l R p e below s args y 3 W9 Pre Post)
    {b : Addr} {cellB : Cell} (hcell : T.heap[b]? = some cellB) (hobj : cellB.vm.isStatics = false) (hcls : s.vm.findClass C = some cellB.cls)
    {g : JFrame} (hg : g.method = m) (hsize : g.locals.size = c.maxLocals) {argsL rest : List Value} (hlen : ∀ sig, parseMethodDescriptor y.desc = some sig → argsL.length = sig.parameters.length)
    (hstack : g.stack = argsL.reverse ++ .ref b :: rest) (hW : 2 * g.monitorRoom + (rest.map fun v => v.category).sum ≤ W9) (hdg : decode c.code g.pc = .ok (.invokevirtual index, 3))
    (hpre : ∀ vm₁, s.WarmedH vm₁ → Pre ⟨T.setVm vm₁, locs, cells, slots⟩ (Value.ref b :: argsL).toArray) :
    ∃ (v : Option Value) (vm₁ : Vm) (B : Pt), s.WarmedH vm₁ ∧ Stand p l e R s m args below meth c B.U B.locs B.cells B.slots ∧ Post ⟨T.setVm vm₁, locs, cells, slots⟩ (Value.ref b :: argsL).toArray v B ∧
      ∀ target, Steps p.tables e below (B.U.setTop { g with pc := g.pc + 3, stack := v.toList ++ rest }) target → Steps p.tables e below (T.setTop g) target := by
  obtain ⟨mk, methM, hnamed, hmethM, hstM, habM⟩ := Cond.instanceMethod_spec hinst
  obtain ⟨m8, methM', cM, hn8, hmethM', -, -, -, -, -, -, hsigM⟩ := Cond.codeWith_spec hcode
  cases Option.some.inj (hn8.symm.trans hnamed)
  cases hmethM.symm.trans hmethM'
  obtain ⟨c2, r2, m2, q1, q2, q3, q4, kP, hkP, hkPi⟩ := Cond.selects_spec hsel
  cases hcls.symm.trans q1
  cases (State.methodFound?_of_named hnamed hy).symm.trans q2
  cases hnamed.symm.trans q3
  have hselP : selectMethod e.platform s.vm cellB.cls mk = .method mk := by rw [Launch.admits_selectMethod X.admits]; exact q4
  obtain ⟨vm₁, X₁, hstep₁⟩ := X.invokevirtual hexec hown hlink hnamed hmethM hstM hkP hkPi hy (a := b) (cell := cellB) hcell
    (fun z h => by rw [h] at hobj; cases hobj) hselP hmethM habM hkP hkPi (g := g) hg (argsL := argsL) (rest := rest) (hlen _ hsigM) hstack hdg
  obtain ⟨v, B, X', hpost, hsteps⟩ := hK m meth c ⟨T.setVm vm₁, locs, cells, slots⟩ { g with stack := rest } (.invokevirtual index) mk (Value.ref b :: argsL).toArray X₁ hg hsize hdg hW (X₁.named hnamed) (hpre vm₁ X₁.warmed)
  exact ⟨v, vm₁, B, X₁.warmed, X', hpost, fun target h => hstep₁ _ fun acts => by rw [doInvoke_state]; exact hsteps.trans h⟩
abbrev vx_CVW (R : Room) (s : State) (args : Array Value) (own C : String) (index : Nat) (y : MethodName) (bytes : ByteArray) (maxL : Nat) (ret : Option FieldType) (hh : List (Nat × Nat × Nat × Nat)) (ws : List Cond) (rm : Room) (mc ms n : Nat) : Prop :=
  (rm.cells = mc ∧ rm.slots = ms ∧ rm.frames + 1 ≤ R.frames ∧ 8 + (maxL + 11) + rm.locals ≤ R.locals ∧ (∀ w ∈ ws, ∀ (a' : Array Value) (U : State), s.WarmedH U.vm → w.before a' U = true) ∧ Cond.codeWith y bytes maxL ret hh ∈ ws) ∧
  (Cond.codeWith y bytes maxL ret hh).before args s = true ∧ (Cond.initialized y.cls).before args s = true ∧ (y.cls ≠ "java/lang/invoke/MethodHandle" ∧ y.cls ≠ "java/lang/invoke/VarHandle") ∧
  (∀ sig, parseMethodDescriptor y.desc = some sig → n = sig.parameters.length) ∧ (Cond.methodLink own index y).before args s = true ∧ (Cond.instanceMethod y).before args s = true ∧ (Cond.selects C y y).before args s = true
theorem vx_cwVW {own C : String} {index maxL mc ms : Nat} {y : MethodName} {bytes : ByteArray} {ret : Option FieldType} {hh : List (Nat × Nat × Nat × Nat)} {Ts ws ws' : List Cond} {rm : Room} (n : Nat) (ht : ∀ w ∈ Ts, w.before args s = true) (hT : GoodIn Ts (wsV own index C y ws)) (hw : ws = Cond.codeWith y bytes maxL ret hh :: ws') (hrc : rm.cells = mc) (hrs : rm.slots = ms)
    (hd : y.cls = C ∧ y.cls ≠ "java/lang/invoke/MethodHandle" ∧ y.cls ≠ "java/lang/invoke/VarHandle" ∧ (parseMethodDescriptor y.desc).map (fun d => d.parameters.length) = some n) (hR : rm.frames + 1 ≤ R.frames ∧ 8 + (maxL + 11) + rm.locals ≤ R.locals) :
    vx_CVW R s args own C index y bytes maxL ret hh ws rm mc ms n := by
  obtain ⟨hC, hd⟩ := hd
  subst hC
  have ok : ∀ w ∈ wsV own index y.cls y ws, w.before args s = true := fun w h => ht w (hT w h).1
  have hG : GoodIn Ts ws := fun w h => hT w (by unfold wsV; exact List.mem_append_right _ h)
  have hc : Cond.codeWith y bytes maxL ret hh ∈ ws := by rw [hw]; exact List.mem_cons_self
  refine ⟨⟨hrc, hrs, hR.1, hR.2, pay_in ht hG, hc⟩, ht _ (hG _ hc).1, ok _ (by simp [wsV]), ⟨hd.1, hd.2.1⟩, fun sig h => ?_, ok _ (by simp [wsV]), ok _ (by simp [wsV]), ok _ (by simp [wsV])⟩
  have h2 := hd.2.2
  rw [h] at h2
  exact (Option.some.inj h2).symm
theorem vx_runVW {y : MethodName} {bytes cc : ByteArray} {maxL nL mc ms n index : Nat} {ret : Option FieldType} {hh : List (Nat × Nat × Nat × Nat)} {ws : List Cond} {rm : Room} {Pc : Array Value → State → Prop} {Qc : Array Value → State → Outcome → State → Prop} {free : Addr → Prop} {Ts : List Cond} {own C : String} {b : Addr} {As rest : List Value} {g : JFrame}
    (S : CallFix p m c cc nL s args Ts own) (hM : Met l y ws rm Pc Qc mc ms free) (cw : vx_CVW R s args own C index y bytes maxL ret hh ws rm mc ms n) (hp : PreV s H C b Pc As)
    (hg : g.method = m) (hn : As.length = n) (hsize : g.locals.size = nL) (hstack : g.stack = As.reverse ++ .ref b :: rest) (hW : 2 * g.monitorRoom + (rest.map fun v => v.category).sum ≤ 8) (hdg : decode cc g.pc = .ok (.invokevirtual index, 3)) (hf : cells + mc ≤ R.cells ∧ slots + ms ≤ R.slots) :
    va_Run p l e R s m args below meth c H locs cells slots mc ms g rest (Qc (Value.ref b :: As).toArray) free := by
  obtain ⟨⟨hrc, hrs, hfr, hlo, hws, hcw⟩, hcode, hini, hy, hlen, hl, hin, hse⟩ := cw
  have hK : Back l R p e below s args y 3 8 (PreOf R mc ms Pc) (PostOf Qc mc ms free) := va_backW (hh := hh) (bytes := bytes) (maxL := maxL) (ret := ret) hM hp.1 hrc hrs hfr hlo hws hcw (fun a' U hW => word_at hW (Or.inl (by first | rfl | simp [Cond.onTables, Cond.keeps, Cond.steady])) hini)
  obtain ⟨hx, hb, hml, ho, -⟩ := S
  obtain ⟨-, ⟨cellB, hcB, hoB, hclB⟩, hPc⟩ := hp
  intro T hT X
  obtain ⟨v, vm₁, ⟨U', l2, c2, s2⟩, hW₁, X', ⟨g', mk, t, L, e1, e2, hq, h1, hL, h2, h3⟩, st⟩ := vx_callVW X hx (C := C) (hh := hh) (bytes := bytes) (maxL := maxL) (ret := ret) ho hl hin hse hcode hy hK (by rw [hT]; exact hcB) hoB hclB hg (hsize.trans hml.symm) (argsL := As) (rest := rest) (fun sig h => hn.trans (hlen sig h)) hstack hW (by rw [hb]; exact hdg)
    (fun vm₁ hW₁ => ⟨hf.1, hf.2, hPc (T.setVm vm₁) hT hW₁⟩)
  dsimp only [Pt.U, Pt.locs, Pt.cells, Pt.slots] at X' e1 e2 h1 h2 h3 st
  subst h1; subst h2; subst h3
  exact ⟨v, (T.setVm vm₁).calling g' mk (Value.ref b :: As).toArray, t, U', L, hT, X', hL, e1, e2, hq, st⟩
section
variable {y : MethodName} {bytes cc : ByteArray} {maxL nL mc ms n index : Nat} {ret : Option FieldType} {ws : List Cond} {rm : Room} {Pc : Array Value → State → Prop} {Qc : Array Value → State → Outcome → State → Prop} {XC : String → State → State → Prop} {free : Addr → Prop} {Ts : List Cond} {own C : String} {b : Addr} {As rest : List Value} {g : JFrame}
theorem vx_runVX {hh : List (Nat × Nat × Nat × Nat)} (S : CallFix p m c cc nL s args Ts own) (hM : vx_Met l y ws rm Pc Qc XC mc ms free) (cw : vx_CVW R s args own C index y bytes maxL ret hh ws rm mc ms n) (hp : PreV s H C b Pc As)
    (hg : g.method = m) (hn : As.length = n) (hsize : g.locals.size = nL) (hstack : g.stack = As.reverse ++ .ref b :: rest) (hW : 2 * g.monitorRoom + (rest.map fun v => v.category).sum ≤ 8) (hdg : decode cc g.pc = .ok (.invokevirtual index, 3)) (hf : cells + mc ≤ R.cells ∧ slots + ms ≤ R.slots) :
    vx_Run p l e R s m args below meth c H locs cells slots mc ms g rest (Qc (Value.ref b :: As).toArray) XC free := by
  obtain ⟨⟨hrc, hrs, hfr, hlo, hws, hcw⟩, hcode, hini, hy, hlen, hl, hin, hse⟩ := cw
  have hK : vx_Back l R p e below s args y 3 8 (PreOf R mc ms Pc) (PostOf Qc mc ms free) (vx_Post XC mc ms free) := vx_backW (hh := hh) (bytes := bytes) (maxL := maxL) (ret := ret) hM hp.1 hrc hrs hfr hlo hws hcw (fun a' U hW => word_at hW (Or.inl (by first | rfl | simp [Cond.onTables, Cond.keeps, Cond.steady])) hini)
  obtain ⟨hx, hb, hml, ho, -⟩ := S
  obtain ⟨-, ⟨cellB, hcB, hoB, hclB⟩, hPc⟩ := hp
  intro T hT X
  rcases vx_callVX X hx (C := C) (hh := hh) (bytes := bytes) (maxL := maxL) (ret := ret) ho hl hin hse hcode hy hK (by rw [hT]; exact hcB) hoB hclB hg (hsize.trans hml.symm) (argsL := As) (rest := rest) (fun sig h => hn.trans (hlen sig h)) hstack hW (by rw [hb]; exact hdg)
    (fun vm₁ hW₁ => ⟨hf.1, hf.2, hPc (T.setVm vm₁) hT hW₁⟩) with ⟨v, vm₁, ⟨U', l2, c2, s2⟩, hW₁, X', ⟨g', mk, t, L, e1, e2, hq, h1, hL, h2, h3⟩, st⟩ | ⟨q, vm₁, ⟨U', l2, c2, s2⟩, hW₁, X', ⟨g', mk, t, L, E, ce, e1, e2, hq, hce, hcv, hcl, h1, hL, h2, h3⟩, st⟩
  · dsimp only [Pt.U, Pt.locs, Pt.cells, Pt.slots] at X' e1 e2 h1 h2 h3 st
    subst h1; subst h2; subst h3
    exact Or.inl ⟨v, (T.setVm vm₁).calling g' mk (Value.ref b :: As).toArray, t, U', L, hT, X', hL, e1, e2, hq, st⟩
  · dsimp only [Pt.U, Pt.locs, Pt.cells, Pt.slots] at X' e1 e2 h1 h2 h3 st hcl
    subst h1; subst h2; subst h3
    exact Or.inr ⟨q, (T.setVm vm₁).calling g' mk (Value.ref b :: As).toArray, t, U', L, E, ce, hT, X', hL, e1, e2, hq, hce, hcv, vx_cls hW₁ hcl, st⟩
theorem vx_runSX {hh : List (Nat × Nat × Nat × Nat)} (S : CallFix p m c cc nL s args Ts own) (hM : vx_Met l y ws rm Pc Qc XC mc ms free) (cw : vx_CSW R s args own index y bytes maxL ret hh ws rm mc ms n) (hp : PreS s H Pc As)
    (hg : g.method = m) (hn : As.length = n) (hsize : g.locals.size = nL) (hstack : g.stack = As.reverse ++ rest) (hW : 2 * g.monitorRoom + (rest.map fun v => v.category).sum ≤ 8) (hdg : decode cc g.pc = .ok (.invokestatic index, 3)) (hf : cells + mc ≤ R.cells ∧ slots + ms ≤ R.slots) :
    vx_Run p l e R s m args below meth c H locs cells slots mc ms g rest (Qc As.toArray) XC free := by
  obtain ⟨⟨hrc, hrs, hfr, hlo, hws, hcw⟩, hcode, hini, hy, hlen, hl, hstt⟩ := cw
  have hK : vx_Back l R p e below s args y 3 8 (PreOf R mc ms Pc) (PostOf Qc mc ms free) (vx_Post XC mc ms free) := vx_backW (hh := hh) (bytes := bytes) (maxL := maxL) (ret := ret) hM hp.1 hrc hrs hfr hlo hws hcw (fun a' U hW => word_at hW (Or.inl (by first | rfl | simp [Cond.onTables, Cond.keeps, Cond.steady])) hini)
  obtain ⟨hx, hb, hml, ho, -⟩ := S
  intro T hT X
  rcases vx_callSX X hx (hh := hh) (bytes := bytes) (maxL := maxL) (ret := ret) ho hl hstt hini hcode hy hK hg (hsize.trans hml.symm) (argsL := As) (rest := rest) (fun sig h => hn.trans (hlen sig h)) hstack hW (by rw [hb]; exact hdg)
    (fun vm₁ hW₁ => ⟨hf.1, hf.2, hp.2 (T.setVm vm₁) hT hW₁⟩) with ⟨v, vm₁, ⟨U', l2, c2, s2⟩, hW₁, X', ⟨g', mk, t, L, e1, e2, hq, h1, hL, h2, h3⟩, st⟩ | ⟨q, vm₁, ⟨U', l2, c2, s2⟩, hW₁, X', ⟨g', mk, t, L, E, ce, e1, e2, hq, hce, hcv, hcl, h1, hL, h2, h3⟩, st⟩
  · dsimp only [Pt.U, Pt.locs, Pt.cells, Pt.slots] at X' e1 e2 h1 h2 h3 st
    subst h1; subst h2; subst h3
    exact Or.inl ⟨v, (T.setVm vm₁).calling g' mk As.toArray, t, U', L, hT, X', hL, e1, e2, hq, st⟩
  · dsimp only [Pt.U, Pt.locs, Pt.cells, Pt.slots] at X' e1 e2 h1 h2 h3 st hcl
    subst h1; subst h2; subst h3
    exact Or.inr ⟨q, (T.setVm vm₁).calling g' mk As.toArray, t, U', L, E, ce, hT, X', hL, e1, e2, hq, hce, hcv, vx_cls hW₁ hcl, st⟩
end
end VXH
theorem vx_ofWH {l : Launch} {y : MethodName} {ws ws' : List Cond} {rm : Room} {Pc : Array Value → State → Prop} {Qc : Array Value → State → Outcome → State → Prop} {XC : String → State → State → Prop} {mc ms : Nat} {free : Addr → Prop} {cc : ByteArray} {maxL : Nat} {ret : Option FieldType} {hh : List (Nat × Nat × Nat × Nat)}
    (hy : plainName y.cls = true) (hw : ws = Cond.codeWith y cc maxL ret hh :: ws')
    (body : ∀ p e s m args below meth c s₁, BodyLoose p l y (headSpec ws rm) cc maxL ret e s m args below meth c s₁ → c.maxLocals = maxL → Pc args s →
      W p l e (headSpec ws rm).room s m args below meth c s.heap [] 0 0 (vx_MQ below Qc XC args s mc ms free) (entryFrame m args maxL)) : vx_Met l y ws rm Pc Qc XC mc ms free := by
  refine MetFree.of_bodyS (code := cc) (maxLocals := maxL) (ret := ret) hy ?_ ?_
  · intro args s m h hn
    obtain ⟨m9, meth, c, hn9, h1, h2, h3, h4, -, h5, h6, -⟩ := Cond.codeWith_spec (atoms_spec (ws := ws) h _ (by rw [hw]; exact List.mem_cons_self))
    cases hn.symm.trans hn9
    exact ⟨meth, c, h1, h2, h3, h4, h5, h6⟩
  · intro p e s m args below meth c s₁ B hml hP _
    have hh0 : s₁.heap = s.heap := by rw [B.state]; rfl
    obtain ⟨t, a1, o, b1, b2, b3⟩ := body p e s m args below meth c s₁ B hml hP s₁ hh0 (Stand.of_body B)
    exact ⟨t, o, a1, b1, b2, b3⟩
/-! ===== END ===== -/

/-! ===== BEGIN printed: names, fields, word lists, decode rows ===== -/
end
section
def RX0 : String := "HopRouters$Air"
def TX0 : u_T := fun k => match k with
  | 0 => ("HopRouters$Air", "places", "[LHopRouters$Packet;", true)
  | 1 => ("HopRouters$Air", "order", "[I", true)
  | 2 => ("HopRouters$Air", "size", "I", false)
  | 3 => ("HopRouters$Air", "sent", "I", false)
  | _ => ("HopRouters$Air", "lost", "I", false)
def tyX0 : Nat → FieldType := fun k => match k with
  | 0 => .array (.object "HopRouters$Packet")
  | 1 => .array .int
  | 2 => .int
  | 3 => .int
  | _ => .int
theorem nmX0 : ∀ a, a < 5 → ∀ b, b < 5 → a ≠ b → (TX0 a).2.1 ≠ (TX0 b).2.1 := by decide +kernel
theorem tyX0_ok : ∀ k, k < 5 → parseFieldDescriptor (TX0 k).2.2.1 = some (tyX0 k) := by decide +kernel
abbrev cX0_init : ByteArray := prog_2_method_1_code
def yX0_init : MethodName := ⟨RX0, "<init>", "()V"⟩
abbrev cX0_at : ByteArray := prog_2_method_2_code
def yX0_at : MethodName := ⟨RX0, "at", "(I)LHopRouters$Packet;"⟩
abbrev cX0_launch : ByteArray := prog_2_method_3_code
def yX0_launch : MethodName := ⟨RX0, "launch", "(LHopRouters$Packet;)V"⟩
abbrev cX0_remove : ByteArray := prog_2_method_4_code
def yX0_remove : MethodName := ⟨RX0, "remove", "(I)V"⟩
def RX1 : String := "HopRouters$Packet"
def TX1 : u_T := fun k => match k with
  | 0 => ("HopRouters$Packet", "from", "I", false)
  | 1 => ("HopRouters$Packet", "to", "I", false)
  | 2 => ("HopRouters$Packet", "length", "I", false)
  | _ => ("HopRouters$Packet", "words", "[I", true)
def tyX1 : Nat → FieldType := fun k => match k with
  | 0 => .int
  | 1 => .int
  | 2 => .int
  | _ => .array .int
theorem nmX1 : ∀ a, a < 4 → ∀ b, b < 4 → a ≠ b → (TX1 a).2.1 ≠ (TX1 b).2.1 := by decide +kernel
theorem tyX1_ok : ∀ k, k < 4 → parseFieldDescriptor (TX1 k).2.2.1 = some (tyX1 k) := by decide +kernel
abbrev cX1_init : ByteArray := prog_3_method_1_code
def yX1_init : MethodName := ⟨RX1, "<init>", "()V"⟩
abbrev cX1_begin : ByteArray := prog_3_method_2_code
def yX1_begin : MethodName := ⟨RX1, "begin", "(III)V"⟩
abbrev cX1_addEntry : ByteArray := prog_3_method_3_code
def yX1_addEntry : MethodName := ⟨RX1, "addEntry", "(III)V"⟩
abbrev cX1_become : ByteArray := prog_3_method_4_code
def yX1_become : MethodName := ⟨RX1, "become", "(LHopRouters$Packet;)V"⟩
abbrev cX1_byteAt : ByteArray := prog_3_method_5_code
def yX1_byteAt : MethodName := ⟨RX1, "byteAt", "(I)I"⟩
abbrev cX1_setByte : ByteArray := prog_3_method_6_code
def yX1_setByte : MethodName := ⟨RX1, "setByte", "(II)V"⟩
abbrev cX1_shiftOf : ByteArray := prog_3_method_7_code
def yX1_shiftOf : MethodName := ⟨RX1, "shiftOf", "(I)I"⟩
abbrev cX1_isSound : ByteArray := prog_3_method_8_code
def yX1_isSound : MethodName := ⟨RX1, "isSound", "()Z"⟩
abbrev cX1_isRequest : ByteArray := prog_3_method_9_code
def yX1_isRequest : MethodName := ⟨RX1, "isRequest", "()Z"⟩
abbrev cX1_entries : ByteArray := prog_3_method_10_code
def yX1_entries : MethodName := ⟨RX1, "entries", "()I"⟩
abbrev cX1_firstWord : ByteArray := prog_3_method_11_code
def yX1_firstWord : MethodName := ⟨RX1, "firstWord", "(I)I"⟩
abbrev cX1_isSoundEntry : ByteArray := prog_3_method_12_code
def yX1_isSoundEntry : MethodName := ⟨RX1, "isSoundEntry", "(I)Z"⟩
abbrev cX1_asksForAll : ByteArray := prog_3_method_13_code
def yX1_asksForAll : MethodName := ⟨RX1, "asksForAll", "()Z"⟩
abbrev cX1_hasPlainFields : ByteArray := prog_3_method_14_code
def yX1_hasPlainFields : MethodName := ⟨RX1, "hasPlainFields", "(II)Z"⟩
abbrev cX1_destination : ByteArray := prog_3_method_15_code
def yX1_destination : MethodName := ⟨RX1, "destination", "(I)I"⟩
abbrev cX1_metric : ByteArray := prog_3_method_16_code
def yX1_metric : MethodName := ⟨RX1, "metric", "(I)I"⟩
def RX2 : String := "HopRouters$Table"
def TX2 : u_T := fun k => match k with
  | 0 => ("HopRouters$Table", "metric", "[I", true)
  | 1 => ("HopRouters$Table", "next", "[I", true)
  | 2 => ("HopRouters$Table", "age", "[I", true)
  | 3 => ("HopRouters$Table", "silent", "[I", true)
  | _ => ("HopRouters$Table", "changed", "[Z", true)
def tyX2 : Nat → FieldType := fun k => match k with
  | 0 => .array .int
  | 1 => .array .int
  | 2 => .array .int
  | 3 => .array .int
  | _ => .array .boolean
theorem nmX2 : ∀ a, a < 5 → ∀ b, b < 5 → a ≠ b → (TX2 a).2.1 ≠ (TX2 b).2.1 := by decide +kernel
theorem tyX2_ok : ∀ k, k < 5 → parseFieldDescriptor (TX2 k).2.2.1 = some (tyX2 k) := by decide +kernel
abbrev cX2_init : ByteArray := prog_4_method_1_code
def yX2_init : MethodName := ⟨RX2, "<init>", "()V"⟩
abbrev cX2_has : ByteArray := prog_4_method_2_code
def yX2_has : MethodName := ⟨RX2, "has", "(I)Z"⟩
abbrev cX2_reaches : ByteArray := prog_4_method_3_code
def yX2_reaches : MethodName := ⟨RX2, "reaches", "(I)Z"⟩
abbrev cX2_read : ByteArray := prog_4_method_4_code
def yX2_read : MethodName := ⟨RX2, "read", "(II)I"⟩
abbrev cX2_metricTold : ByteArray := prog_4_method_5_code
def yX2_metricTold : MethodName := ⟨RX2, "metricTold", "(II)I"⟩
abbrev cX2_hear : ByteArray := prog_4_method_6_code
def yX2_hear : MethodName := ⟨RX2, "hear", "(III)V"⟩
abbrev cX2_hearFromNext : ByteArray := prog_4_method_7_code
def yX2_hearFromNext : MethodName := ⟨RX2, "hearFromNext", "(II)V"⟩
abbrev cX2_adopt : ByteArray := prog_4_method_8_code
def yX2_adopt : MethodName := ⟨RX2, "adopt", "(III)V"⟩
abbrev cX2_becomeGone : ByteArray := prog_4_method_9_code
def yX2_becomeGone : MethodName := ⟨RX2, "becomeGone", "(I)V"⟩
abbrev cX2_forget : ByteArray := prog_4_method_10_code
def yX2_forget : MethodName := ⟨RX2, "forget", "(I)V"⟩
abbrev cX2_forgetAll : ByteArray := prog_4_method_11_code
def yX2_forgetAll : MethodName := ⟨RX2, "forgetAll", "()V"⟩
abbrev cX2_loseNext : ByteArray := prog_4_method_12_code
def yX2_loseNext : MethodName := ⟨RX2, "loseNext", "(I)I"⟩
abbrev cX2_growOlder : ByteArray := prog_4_method_13_code
def yX2_growOlder : MethodName := ⟨RX2, "growOlder", "()V"⟩
abbrev cX2_ageRoute : ByteArray := prog_4_method_14_code
def yX2_ageRoute : MethodName := ⟨RX2, "ageRoute", "(I)V"⟩
abbrev cX2_hasChanges : ByteArray := prog_4_method_15_code
def yX2_hasChanges : MethodName := ⟨RX2, "hasChanges", "()Z"⟩
abbrev cX2_clearChanges : ByteArray := prog_4_method_16_code
def yX2_clearChanges : MethodName := ⟨RX2, "clearChanges", "()V"⟩
def RX3 : String := "HopRouters"
def TX3 : u_T := fun k => match k with
  | 0 => ("HopRouters", "linked", "[Z", true)
  | 1 => ("HopRouters", "tables", "[LHopRouters$Table;", true)
  | 2 => ("HopRouters", "air", "LHopRouters$Air;", true)
  | 3 => ("HopRouters", "draft", "LHopRouters$Packet;", true)
  | 4 => ("HopRouters", "arriving", "LHopRouters$Packet;", true)
  | 5 => ("HopRouters", "time", "I", false)
  | 6 => ("HopRouters", "linksUp", "I", false)
  | _ => ("HopRouters", "unsoundPackets", "I", false)
def tyX3 : Nat → FieldType := fun k => match k with
  | 0 => .array .boolean
  | 1 => .array (.object "HopRouters$Table")
  | 2 => .object "HopRouters$Air"
  | 3 => .object "HopRouters$Packet"
  | 4 => .object "HopRouters$Packet"
  | 5 => .int
  | 6 => .int
  | _ => .int
theorem nmX3 : ∀ a, a < 8 → ∀ b, b < 8 → a ≠ b → (TX3 a).2.1 ≠ (TX3 b).2.1 := by decide +kernel
theorem tyX3_ok : ∀ k, k < 8 → parseFieldDescriptor (TX3 k).2.2.1 = some (tyX3 k) := by decide +kernel
abbrev cX3_init : ByteArray := prog_1_method_1_code
def yX3_init : MethodName := ⟨RX3, "<init>", "()V"⟩
abbrev cX3_link : ByteArray := prog_1_method_2_code
def yX3_link : MethodName := ⟨RX3, "link", "(IIZ)Z"⟩
abbrev cX3_sees : ByteArray := prog_1_method_3_code
def yX3_sees : MethodName := ⟨RX3, "sees", "(II)I"⟩
abbrev cX3_restart : ByteArray := prog_1_method_4_code
def yX3_restart : MethodName := ⟨RX3, "restart", "(I)I"⟩
abbrev cX3_ask : ByteArray := prog_1_method_5_code
def yX3_ask : MethodName := ⟨RX3, "ask", "(III)I"⟩
abbrev cX3_tick : ByteArray := prog_1_method_6_code
def yX3_tick : MethodName := ⟨RX3, "tick", "(IZ)I"⟩
abbrev cX3_deliver : ByteArray := prog_1_method_7_code
def yX3_deliver : MethodName := ⟨RX3, "deliver", "(I)Z"⟩
abbrev cX3_lose : ByteArray := prog_1_method_8_code
def yX3_lose : MethodName := ⟨RX3, "lose", "(I)I"⟩
abbrev cX3_twice : ByteArray := prog_1_method_9_code
def yX3_twice : MethodName := ⟨RX3, "twice", "(I)I"⟩
abbrev cX3_poke : ByteArray := prog_1_method_10_code
def yX3_poke : MethodName := ⟨RX3, "poke", "(III)I"⟩
abbrev cX3_cut : ByteArray := prog_1_method_11_code
def yX3_cut : MethodName := ⟨RX3, "cut", "(II)V"⟩
abbrev cX3_packet : ByteArray := prog_1_method_12_code
def yX3_packet : MethodName := ⟨RX3, "packet", "(II)I"⟩
abbrev cX3_route : ByteArray := prog_1_method_13_code
def yX3_route : MethodName := ⟨RX3, "route", "(III)I"⟩
abbrev cX3_send : ByteArray := prog_1_method_14_code
def yX3_send : MethodName := ⟨RX3, "send", "(II)I"⟩
abbrev cX3_count : ByteArray := prog_1_method_15_code
def yX3_count : MethodName := ⟨RX3, "count", "(I)I"⟩
abbrev cX3_checkRouter : ByteArray := prog_1_method_16_code
def yX3_checkRouter : MethodName := ⟨RX3, "checkRouter", "(I)V"⟩
abbrev cX3_checkPair : ByteArray := prog_1_method_17_code
def yX3_checkPair : MethodName := ⟨RX3, "checkPair", "(II)V"⟩
abbrev cX3_checkPacket : ByteArray := prog_1_method_18_code
def yX3_checkPacket : MethodName := ⟨RX3, "checkPacket", "(I)V"⟩
abbrev cX3_checkByte : ByteArray := prog_1_method_19_code
def yX3_checkByte : MethodName := ⟨RX3, "checkByte", "(LHopRouters$Packet;I)V"⟩
abbrev cX3_isUp : ByteArray := prog_1_method_20_code
def yX3_isUp : MethodName := ⟨RX3, "isUp", "(II)Z"⟩
abbrev cX3_passTime : ByteArray := prog_1_method_21_code
def yX3_passTime : MethodName := ⟨RX3, "passTime", "()V"⟩
abbrev cX3_tellInTurn : ByteArray := prog_1_method_22_code
def yX3_tellInTurn : MethodName := ⟨RX3, "tellInTurn", "(I)V"⟩
abbrev cX3_tell : ByteArray := prog_1_method_23_code
def yX3_tell : MethodName := ⟨RX3, "tell", "(IIZ)V"⟩
abbrev cX3_bring : ByteArray := prog_1_method_24_code
def yX3_bring : MethodName := ⟨RX3, "bring", "(I)Z"⟩
abbrev cX3_hearResponse : ByteArray := prog_1_method_25_code
def yX3_hearResponse : MethodName := ⟨RX3, "hearResponse", "()V"⟩
abbrev cX3_answerRequest : ByteArray := prog_1_method_26_code
def yX3_answerRequest : MethodName := ⟨RX3, "answerRequest", "()V"⟩
abbrev cX3_metricAnswered : ByteArray := prog_1_method_27_code
def yX3_metricAnswered : MethodName := ⟨RX3, "metricAnswered", "(II)I"⟩
def RX4 : String := "HopRoutersModel"
def TX4 : u_T := fun k => match k with
  | 0 => ("HopRoutersModel", "thrown", "I", false)
  | 1 => ("HopRoutersModel", "time", "I", false)
  | 2 => ("HopRoutersModel", "lost", "I", false)
  | 3 => ("HopRoutersModel", "sent", "I", false)
  | 4 => ("HopRoutersModel", "unsound", "I", false)
  | 5 => ("HopRoutersModel", "up", "[Z", false)
  | 6 => ("HopRoutersModel", "metric", "[I", false)
  | 7 => ("HopRoutersModel", "next", "[I", false)
  | 8 => ("HopRoutersModel", "age", "[I", false)
  | 9 => ("HopRoutersModel", "isChanged", "[Z", false)
  | 10 => ("HopRoutersModel", "silent", "[I", false)
  | 11 => ("HopRoutersModel", "packets", "I", false)
  | 12 => ("HopRoutersModel", "from", "[I", false)
  | 13 => ("HopRoutersModel", "to", "[I", false)
  | 14 => ("HopRoutersModel", "size", "[I", false)
  | 15 => ("HopRoutersModel", "bytes", "[I", false)
  | 16 => ("HopRoutersModel", "made", "I", false)
  | 17 => ("HopRoutersModel", "draft", "[I", false)
  | 18 => ("HopRoutersModel", "came", "I", false)
  | _ => ("HopRoutersModel", "coming", "[I", false)
def tyX4 : Nat → FieldType := fun k => match k with
  | 0 => .int
  | 1 => .int
  | 2 => .int
  | 3 => .int
  | 4 => .int
  | 5 => .array .boolean
  | 6 => .array .int
  | 7 => .array .int
  | 8 => .array .int
  | 9 => .array .boolean
  | 10 => .array .int
  | 11 => .int
  | 12 => .array .int
  | 13 => .array .int
  | 14 => .array .int
  | 15 => .array .int
  | 16 => .int
  | 17 => .array .int
  | 18 => .int
  | _ => .array .int
theorem nmX4 : ∀ a, a < 20 → ∀ b, b < 20 → a ≠ b → (TX4 a).2.1 ≠ (TX4 b).2.1 := by decide +kernel
theorem tyX4_ok : ∀ k, k < 20 → parseFieldDescriptor (TX4 k).2.2.1 = some (tyX4 k) := by decide +kernel
abbrev cX4_init : ByteArray := prog_6_method_1_code
def yX4_init : MethodName := ⟨RX4, "<init>", "()V"⟩
abbrev cX4_thrown : ByteArray := prog_6_method_2_code
def yX4_thrown : MethodName := ⟨RX4, "thrown", "()I"⟩
abbrev cX4_in : ByteArray := prog_6_method_3_code
def yX4_in : MethodName := ⟨RX4, "in", "(III)Z"⟩
abbrev cX4_isRouter : ByteArray := prog_6_method_4_code
def yX4_isRouter : MethodName := ⟨RX4, "isRouter", "(I)Z"⟩
abbrev cX4_refuses : ByteArray := prog_6_method_5_code
def yX4_refuses : MethodName := ⟨RX4, "refuses", "(ZI)Z"⟩
abbrev cX4_begin : ByteArray := prog_6_method_6_code
def yX4_begin : MethodName := ⟨RX4, "begin", "(I)V"⟩
abbrev cX4_put : ByteArray := prog_6_method_7_code
def yX4_put : MethodName := ⟨RX4, "put", "(I)V"⟩
abbrev cX4_entry : ByteArray := prog_6_method_8_code
def yX4_entry : MethodName := ⟨RX4, "entry", "(III)V"⟩
abbrev cX4_post : ByteArray := prog_6_method_9_code
def yX4_post : MethodName := ⟨RX4, "post", "(II)V"⟩
abbrev cX4_takeOut : ByteArray := prog_6_method_10_code
def yX4_takeOut : MethodName := ⟨RX4, "takeOut", "(I)V"⟩
abbrev cX4_tell : ByteArray := prog_6_method_11_code
def yX4_tell : MethodName := ⟨RX4, "tell", "(IIZZ)V"⟩
abbrev cX4_isFilled : ByteArray := prog_6_method_12_code
def yX4_isFilled : MethodName := ⟨RX4, "isFilled", "(II)Z"⟩
abbrev cX4_isSound : ByteArray := prog_6_method_13_code
def yX4_isSound : MethodName := ⟨RX4, "isSound", "(I)Z"⟩
abbrev cX4_gone : ByteArray := prog_6_method_14_code
def yX4_gone : MethodName := ⟨RX4, "gone", "(I)V"⟩
abbrev cX4_hear : ByteArray := prog_6_method_15_code
def yX4_hear : MethodName := ⟨RX4, "hear", "(IIII)V"⟩
abbrev cX4_answer : ByteArray := prog_6_method_16_code
def yX4_answer : MethodName := ⟨RX4, "answer", "(II)V"⟩
abbrev cX4_arrive : ByteArray := prog_6_method_17_code
def yX4_arrive : MethodName := ⟨RX4, "arrive", "(I)Z"⟩
abbrev cX4_turn : ByteArray := prog_6_method_18_code
def yX4_turn : MethodName := ⟨RX4, "turn", "()V"⟩
abbrev cX4_turnRouter : ByteArray := prog_6_method_19_code
def yX4_turnRouter : MethodName := ⟨RX4, "turnRouter", "(I)V"⟩
abbrev cX4_link : ByteArray := prog_6_method_20_code
def yX4_link : MethodName := ⟨RX4, "link", "(IIZ)Z"⟩
abbrev cX4_sees : ByteArray := prog_6_method_21_code
def yX4_sees : MethodName := ⟨RX4, "sees", "(II)I"⟩
abbrev cX4_restart : ByteArray := prog_6_method_22_code
def yX4_restart : MethodName := ⟨RX4, "restart", "(I)I"⟩
abbrev cX4_ask : ByteArray := prog_6_method_23_code
def yX4_ask : MethodName := ⟨RX4, "ask", "(III)I"⟩
abbrev cX4_tick : ByteArray := prog_6_method_24_code
def yX4_tick : MethodName := ⟨RX4, "tick", "(IZ)I"⟩
abbrev cX4_lacks : ByteArray := prog_6_method_25_code
def yX4_lacks : MethodName := ⟨RX4, "lacks", "(I)Z"⟩
abbrev cX4_deliver : ByteArray := prog_6_method_26_code
def yX4_deliver : MethodName := ⟨RX4, "deliver", "(I)Z"⟩
abbrev cX4_lose : ByteArray := prog_6_method_27_code
def yX4_lose : MethodName := ⟨RX4, "lose", "(I)I"⟩
abbrev cX4_twice : ByteArray := prog_6_method_28_code
def yX4_twice : MethodName := ⟨RX4, "twice", "(I)I"⟩
abbrev cX4_poke : ByteArray := prog_6_method_29_code
def yX4_poke : MethodName := ⟨RX4, "poke", "(III)I"⟩
abbrev cX4_cut : ByteArray := prog_6_method_30_code
def yX4_cut : MethodName := ⟨RX4, "cut", "(II)V"⟩
abbrev cX4_packet : ByteArray := prog_6_method_31_code
def yX4_packet : MethodName := ⟨RX4, "packet", "(II)I"⟩
abbrev cX4_route : ByteArray := prog_6_method_32_code
def yX4_route : MethodName := ⟨RX4, "route", "(III)I"⟩
abbrev cX4_send : ByteArray := prog_6_method_33_code
def yX4_send : MethodName := ⟨RX4, "send", "(II)I"⟩
abbrev cX4_count : ByteArray := prog_6_method_34_code
def yX4_count : MethodName := ⟨RX4, "count", "(I)I"⟩
def RJ9 : String := "java/lang/Math"
abbrev cJ9_min_7cf53 : ByteArray := prog_11_method_69_code
def yJ9_min_7cf53 : MethodName := ⟨RJ9, "min", "(II)I"⟩
def RJ0 : String := "java/lang/String"
def RJ10 : String := "java/lang/System"
def RJ7 : String := "java/util/Arrays"
abbrev cJ7_fill_53178 : ByteArray := prog_16_method_103_code
def yJ7_fill_53178 : MethodName := ⟨RJ7, "fill", "([II)V"⟩
def RL : String := "HopRoutersLaw"
abbrev cL_link : ByteArray := method_3_code
def yL_link : MethodName := ⟨RL, "link", "(LHopRouters;IIZ[J)I"⟩
abbrev cL_sees : ByteArray := method_4_code
def yL_sees : MethodName := ⟨RL, "sees", "(LHopRouters;II[J)I"⟩
abbrev cL_restart : ByteArray := method_5_code
def yL_restart : MethodName := ⟨RL, "restart", "(LHopRouters;I[J)I"⟩
abbrev cL_ask : ByteArray := method_6_code
def yL_ask : MethodName := ⟨RL, "ask", "(LHopRouters;III[J)I"⟩
abbrev cL_tick : ByteArray := method_7_code
def yL_tick : MethodName := ⟨RL, "tick", "(LHopRouters;IZ[J)I"⟩
abbrev cL_deliver : ByteArray := method_8_code
def yL_deliver : MethodName := ⟨RL, "deliver", "(LHopRouters;I[J)I"⟩
abbrev cL_lose : ByteArray := method_9_code
def yL_lose : MethodName := ⟨RL, "lose", "(LHopRouters;I[J)I"⟩
abbrev cL_twice : ByteArray := method_10_code
def yL_twice : MethodName := ⟨RL, "twice", "(LHopRouters;I[J)I"⟩
abbrev cL_poke : ByteArray := method_11_code
def yL_poke : MethodName := ⟨RL, "poke", "(LHopRouters;III[J)I"⟩
abbrev cL_cut : ByteArray := method_12_code
def yL_cut : MethodName := ⟨RL, "cut", "(LHopRouters;II)I"⟩
abbrev cL_packet : ByteArray := method_13_code
def yL_packet : MethodName := ⟨RL, "packet", "(LHopRouters;II[J)I"⟩
abbrev cL_route : ByteArray := method_14_code
def yL_route : MethodName := ⟨RL, "route", "(LHopRouters;III[J)I"⟩
abbrev cL_send : ByteArray := method_15_code
def yL_send : MethodName := ⟨RL, "send", "(LHopRouters;II[J)I"⟩
abbrev cL_count : ByteArray := method_16_code
def yL_count : MethodName := ⟨RL, "count", "(LHopRouters;I[J)I"⟩
abbrev cL_law : ByteArray := code
def yL_law : MethodName := ⟨RL, "law", "([I)Z"⟩
abbrev vwCl : List vw_C := [(RX0, TX0, 5), (RX1, TX1, 4), (RX2, TX2, 5), (RX3, TX3, 8), (RX4, TX4, 20)]
theorem dX0_init_0 : decode cX0_init 0 = .ok (.aload_n 0, 1) := by decide +kernel
theorem dX0_init_1 : decode cX0_init 1 = .ok (.invokespecial 3, 3) := by decide +kernel
theorem dX0_init_4 : decode cX0_init 4 = .ok (.aload_n 0, 1) := by decide +kernel
theorem dX0_init_5 : decode cX0_init 5 = .ok (.sipush 200, 3) := by decide +kernel
theorem dX0_init_8 : decode cX0_init 8 = .ok (.anewarray 9, 3) := by decide +kernel
theorem dX0_init_11 : decode cX0_init 11 = .ok (.putfield 11, 3) := by decide +kernel
theorem dX0_init_14 : decode cX0_init 14 = .ok (.aload_n 0, 1) := by decide +kernel
theorem dX0_init_15 : decode cX0_init 15 = .ok (.sipush 200, 3) := by decide +kernel
theorem dX0_init_18 : decode cX0_init 18 = .ok (.newarray .int, 2) := by decide +kernel
theorem dX0_init_20 : decode cX0_init 20 = .ok (.putfield 17, 3) := by decide +kernel
theorem dX0_init_23 : decode cX0_init 23 = .ok (.iconst 0, 1) := by decide +kernel
theorem dX0_init_24 : decode cX0_init 24 = .ok (.istore_n 1, 1) := by decide +kernel
theorem dX0_init_25 : decode cX0_init 25 = .ok (.iload_n 1, 1) := by decide +kernel
theorem dX0_init_26 : decode cX0_init 26 = .ok (.sipush 200, 3) := by decide +kernel
theorem dX0_init_29 : decode cX0_init 29 = .ok (.if_icmp .ge 29, 3) := by decide +kernel
theorem dX0_init_32 : decode cX0_init 32 = .ok (.aload_n 0, 1) := by decide +kernel
theorem dX0_init_33 : decode cX0_init 33 = .ok (.getfield 11, 3) := by decide +kernel
theorem dX0_init_36 : decode cX0_init 36 = .ok (.iload_n 1, 1) := by decide +kernel
theorem dX0_init_37 : decode cX0_init 37 = .ok (.new 9, 3) := by decide +kernel
theorem dX0_init_40 : decode cX0_init 40 = .ok (.dup, 1) := by decide +kernel
theorem dX0_init_41 : decode cX0_init 41 = .ok (.invokespecial 21, 3) := by decide +kernel
theorem dX0_init_44 : decode cX0_init 44 = .ok (.aastore, 1) := by decide +kernel
theorem dX0_init_45 : decode cX0_init 45 = .ok (.aload_n 0, 1) := by decide +kernel
theorem dX0_init_46 : decode cX0_init 46 = .ok (.getfield 17, 3) := by decide +kernel
theorem dX0_init_49 : decode cX0_init 49 = .ok (.iload_n 1, 1) := by decide +kernel
theorem dX0_init_50 : decode cX0_init 50 = .ok (.iload_n 1, 1) := by decide +kernel
theorem dX0_init_51 : decode cX0_init 51 = .ok (.iastore, 1) := by decide +kernel
theorem dX0_init_52 : decode cX0_init 52 = .ok (.iinc 1 1, 3) := by decide +kernel
theorem dX0_init_55 : decode cX0_init 55 = .ok (.goto (-30), 3) := by decide +kernel
theorem dX0_init_58 : decode cX0_init 58 = .ok (.return_, 1) := by decide +kernel
theorem dX0_at_0 : decode cX0_at 0 = .ok (.aload_n 0, 1) := by decide +kernel
theorem dX0_at_1 : decode cX0_at 1 = .ok (.getfield 11, 3) := by decide +kernel
theorem dX0_at_4 : decode cX0_at 4 = .ok (.aload_n 0, 1) := by decide +kernel
theorem dX0_at_5 : decode cX0_at 5 = .ok (.getfield 17, 3) := by decide +kernel
theorem dX0_at_8 : decode cX0_at 8 = .ok (.iload_n 1, 1) := by decide +kernel
theorem dX0_at_9 : decode cX0_at 9 = .ok (.iaload, 1) := by decide +kernel
theorem dX0_at_10 : decode cX0_at 10 = .ok (.aaload, 1) := by decide +kernel
theorem dX0_at_11 : decode cX0_at 11 = .ok (.areturn, 1) := by decide +kernel
theorem dX0_launch_0 : decode cX0_launch 0 = .ok (.aload_n 0, 1) := by decide +kernel
theorem dX0_launch_1 : decode cX0_launch 1 = .ok (.dup, 1) := by decide +kernel
theorem dX0_launch_2 : decode cX0_launch 2 = .ok (.getfield 22, 3) := by decide +kernel
theorem dX0_launch_5 : decode cX0_launch 5 = .ok (.iconst 1, 1) := by decide +kernel
theorem dX0_launch_6 : decode cX0_launch 6 = .ok (.iadd, 1) := by decide +kernel
theorem dX0_launch_7 : decode cX0_launch 7 = .ok (.putfield 22, 3) := by decide +kernel
theorem dX0_launch_10 : decode cX0_launch 10 = .ok (.aload_n 0, 1) := by decide +kernel
theorem dX0_launch_11 : decode cX0_launch 11 = .ok (.getfield 26, 3) := by decide +kernel
theorem dX0_launch_14 : decode cX0_launch 14 = .ok (.sipush 200, 3) := by decide +kernel
theorem dX0_launch_17 : decode cX0_launch 17 = .ok (.if_icmp .lt 14, 3) := by decide +kernel
theorem dX0_launch_20 : decode cX0_launch 20 = .ok (.aload_n 0, 1) := by decide +kernel
theorem dX0_launch_21 : decode cX0_launch 21 = .ok (.dup, 1) := by decide +kernel
theorem dX0_launch_22 : decode cX0_launch 22 = .ok (.getfield 29, 3) := by decide +kernel
theorem dX0_launch_25 : decode cX0_launch 25 = .ok (.iconst 1, 1) := by decide +kernel
theorem dX0_launch_26 : decode cX0_launch 26 = .ok (.iadd, 1) := by decide +kernel
theorem dX0_launch_27 : decode cX0_launch 27 = .ok (.putfield 29, 3) := by decide +kernel
theorem dX0_launch_30 : decode cX0_launch 30 = .ok (.return_, 1) := by decide +kernel
theorem dX0_launch_31 : decode cX0_launch 31 = .ok (.aload_n 0, 1) := by decide +kernel
theorem dX0_launch_32 : decode cX0_launch 32 = .ok (.getfield 11, 3) := by decide +kernel
theorem dX0_launch_35 : decode cX0_launch 35 = .ok (.aload_n 0, 1) := by decide +kernel
theorem dX0_launch_36 : decode cX0_launch 36 = .ok (.getfield 17, 3) := by decide +kernel
theorem dX0_launch_39 : decode cX0_launch 39 = .ok (.aload_n 0, 1) := by decide +kernel
theorem dX0_launch_40 : decode cX0_launch 40 = .ok (.getfield 26, 3) := by decide +kernel
theorem dX0_launch_43 : decode cX0_launch 43 = .ok (.iaload, 1) := by decide +kernel
theorem dX0_launch_44 : decode cX0_launch 44 = .ok (.aaload, 1) := by decide +kernel
theorem dX0_launch_45 : decode cX0_launch 45 = .ok (.aload_n 1, 1) := by decide +kernel
theorem dX0_launch_46 : decode cX0_launch 46 = .ok (.invokevirtual 32, 3) := by decide +kernel
theorem dX0_launch_49 : decode cX0_launch 49 = .ok (.aload_n 0, 1) := by decide +kernel
theorem dX0_launch_50 : decode cX0_launch 50 = .ok (.dup, 1) := by decide +kernel
theorem dX0_launch_51 : decode cX0_launch 51 = .ok (.getfield 26, 3) := by decide +kernel
theorem dX0_launch_54 : decode cX0_launch 54 = .ok (.iconst 1, 1) := by decide +kernel
theorem dX0_launch_55 : decode cX0_launch 55 = .ok (.iadd, 1) := by decide +kernel
theorem dX0_launch_56 : decode cX0_launch 56 = .ok (.putfield 26, 3) := by decide +kernel
theorem dX0_launch_59 : decode cX0_launch 59 = .ok (.return_, 1) := by decide +kernel
theorem dX0_remove_0 : decode cX0_remove 0 = .ok (.aload_n 0, 1) := by decide +kernel
theorem dX0_remove_1 : decode cX0_remove 1 = .ok (.getfield 17, 3) := by decide +kernel
theorem dX0_remove_4 : decode cX0_remove 4 = .ok (.iload_n 1, 1) := by decide +kernel
theorem dX0_remove_5 : decode cX0_remove 5 = .ok (.iaload, 1) := by decide +kernel
theorem dX0_remove_6 : decode cX0_remove 6 = .ok (.istore_n 2, 1) := by decide +kernel
theorem dX0_remove_7 : decode cX0_remove 7 = .ok (.aload_n 0, 1) := by decide +kernel
theorem dX0_remove_8 : decode cX0_remove 8 = .ok (.dup, 1) := by decide +kernel
theorem dX0_remove_9 : decode cX0_remove 9 = .ok (.getfield 26, 3) := by decide +kernel
theorem dX0_remove_12 : decode cX0_remove 12 = .ok (.iconst 1, 1) := by decide +kernel
theorem dX0_remove_13 : decode cX0_remove 13 = .ok (.isub, 1) := by decide +kernel
theorem dX0_remove_14 : decode cX0_remove 14 = .ok (.putfield 26, 3) := by decide +kernel
theorem dX0_remove_17 : decode cX0_remove 17 = .ok (.aload_n 0, 1) := by decide +kernel
theorem dX0_remove_18 : decode cX0_remove 18 = .ok (.getfield 17, 3) := by decide +kernel
theorem dX0_remove_21 : decode cX0_remove 21 = .ok (.iload_n 1, 1) := by decide +kernel
theorem dX0_remove_22 : decode cX0_remove 22 = .ok (.iconst 1, 1) := by decide +kernel
theorem dX0_remove_23 : decode cX0_remove 23 = .ok (.iadd, 1) := by decide +kernel
theorem dX0_remove_24 : decode cX0_remove 24 = .ok (.aload_n 0, 1) := by decide +kernel
theorem dX0_remove_25 : decode cX0_remove 25 = .ok (.getfield 17, 3) := by decide +kernel
theorem dX0_remove_28 : decode cX0_remove 28 = .ok (.iload_n 1, 1) := by decide +kernel
theorem dX0_remove_29 : decode cX0_remove 29 = .ok (.aload_n 0, 1) := by decide +kernel
theorem dX0_remove_30 : decode cX0_remove 30 = .ok (.getfield 26, 3) := by decide +kernel
theorem dX0_remove_33 : decode cX0_remove 33 = .ok (.iload_n 1, 1) := by decide +kernel
theorem dX0_remove_34 : decode cX0_remove 34 = .ok (.isub, 1) := by decide +kernel
theorem dX0_remove_35 : decode cX0_remove 35 = .ok (.invokestatic 36, 3) := by decide +kernel
theorem dX0_remove_38 : decode cX0_remove 38 = .ok (.aload_n 0, 1) := by decide +kernel
theorem dX0_remove_39 : decode cX0_remove 39 = .ok (.getfield 17, 3) := by decide +kernel
theorem dX0_remove_42 : decode cX0_remove 42 = .ok (.aload_n 0, 1) := by decide +kernel
theorem dX0_remove_43 : decode cX0_remove 43 = .ok (.getfield 26, 3) := by decide +kernel
theorem dX0_remove_46 : decode cX0_remove 46 = .ok (.iload_n 2, 1) := by decide +kernel
theorem dX0_remove_47 : decode cX0_remove 47 = .ok (.iastore, 1) := by decide +kernel
theorem dX0_remove_48 : decode cX0_remove 48 = .ok (.return_, 1) := by decide +kernel
theorem dX1_init_0 : decode cX1_init 0 = .ok (.aload_n 0, 1) := by decide +kernel
theorem dX1_init_1 : decode cX1_init 1 = .ok (.invokespecial 5, 3) := by decide +kernel
theorem dX1_init_4 : decode cX1_init 4 = .ok (.aload_n 0, 1) := by decide +kernel
theorem dX1_init_5 : decode cX1_init 5 = .ok (.bipush 41, 2) := by decide +kernel
theorem dX1_init_7 : decode cX1_init 7 = .ok (.newarray .int, 2) := by decide +kernel
theorem dX1_init_9 : decode cX1_init 9 = .ok (.putfield 11, 3) := by decide +kernel
theorem dX1_init_12 : decode cX1_init 12 = .ok (.return_, 1) := by decide +kernel
theorem dX1_begin_0 : decode cX1_begin 0 = .ok (.aload_n 0, 1) := by decide +kernel
theorem dX1_begin_1 : decode cX1_begin 1 = .ok (.iload_n 1, 1) := by decide +kernel
theorem dX1_begin_2 : decode cX1_begin 2 = .ok (.putfield 15, 3) := by decide +kernel
theorem dX1_begin_5 : decode cX1_begin 5 = .ok (.aload_n 0, 1) := by decide +kernel
theorem dX1_begin_6 : decode cX1_begin 6 = .ok (.iload_n 2, 1) := by decide +kernel
theorem dX1_begin_7 : decode cX1_begin 7 = .ok (.putfield 19, 3) := by decide +kernel
theorem dX1_begin_10 : decode cX1_begin 10 = .ok (.aload_n 0, 1) := by decide +kernel
theorem dX1_begin_11 : decode cX1_begin 11 = .ok (.getfield 11, 3) := by decide +kernel
theorem dX1_begin_14 : decode cX1_begin 14 = .ok (.iconst 0, 1) := by decide +kernel
theorem dX1_begin_15 : decode cX1_begin 15 = .ok (.iload_n 3, 1) := by decide +kernel
theorem dX1_begin_16 : decode cX1_begin 16 = .ok (.iastore, 1) := by decide +kernel
theorem dX1_begin_17 : decode cX1_begin 17 = .ok (.aload_n 0, 1) := by decide +kernel
theorem dX1_begin_18 : decode cX1_begin 18 = .ok (.iconst 4, 1) := by decide +kernel
theorem dX1_begin_19 : decode cX1_begin 19 = .ok (.putfield 22, 3) := by decide +kernel
theorem dX1_begin_22 : decode cX1_begin 22 = .ok (.return_, 1) := by decide +kernel
theorem dX1_addEntry_0 : decode cX1_addEntry 0 = .ok (.aload_n 0, 1) := by decide +kernel
theorem dX1_addEntry_1 : decode cX1_addEntry 1 = .ok (.getfield 22, 3) := by decide +kernel
theorem dX1_addEntry_4 : decode cX1_addEntry 4 = .ok (.sipush 144, 3) := by decide +kernel
theorem dX1_addEntry_7 : decode cX1_addEntry 7 = .ok (.if_icmp .le 4, 3) := by decide +kernel
theorem dX1_addEntry_10 : decode cX1_addEntry 10 = .ok (.return_, 1) := by decide +kernel
theorem dX1_addEntry_11 : decode cX1_addEntry 11 = .ok (.aload_n 0, 1) := by decide +kernel
theorem dX1_addEntry_12 : decode cX1_addEntry 12 = .ok (.invokevirtual 25, 3) := by decide +kernel
theorem dX1_addEntry_15 : decode cX1_addEntry 15 = .ok (.invokestatic 29, 3) := by decide +kernel
theorem dX1_addEntry_18 : decode cX1_addEntry 18 = .ok (.istore 4, 2) := by decide +kernel
theorem dX1_addEntry_20 : decode cX1_addEntry 20 = .ok (.aload_n 0, 1) := by decide +kernel
theorem dX1_addEntry_21 : decode cX1_addEntry 21 = .ok (.getfield 11, 3) := by decide +kernel
theorem dX1_addEntry_24 : decode cX1_addEntry 24 = .ok (.iload 4, 2) := by decide +kernel
theorem dX1_addEntry_26 : decode cX1_addEntry 26 = .ok (.iload_n 1, 1) := by decide +kernel
theorem dX1_addEntry_27 : decode cX1_addEntry 27 = .ok (.bipush 16, 2) := by decide +kernel
theorem dX1_addEntry_29 : decode cX1_addEntry 29 = .ok (.ishl, 1) := by decide +kernel
theorem dX1_addEntry_30 : decode cX1_addEntry 30 = .ok (.iastore, 1) := by decide +kernel
theorem dX1_addEntry_31 : decode cX1_addEntry 31 = .ok (.aload_n 0, 1) := by decide +kernel
theorem dX1_addEntry_32 : decode cX1_addEntry 32 = .ok (.getfield 11, 3) := by decide +kernel
theorem dX1_addEntry_35 : decode cX1_addEntry 35 = .ok (.iload 4, 2) := by decide +kernel
theorem dX1_addEntry_37 : decode cX1_addEntry 37 = .ok (.iconst 1, 1) := by decide +kernel
theorem dX1_addEntry_38 : decode cX1_addEntry 38 = .ok (.iadd, 1) := by decide +kernel
theorem dX1_addEntry_39 : decode cX1_addEntry 39 = .ok (.ldc 33, 2) := by decide +kernel
theorem dX1_addEntry_41 : decode cX1_addEntry 41 = .ok (.iload_n 2, 1) := by decide +kernel
theorem dX1_addEntry_42 : decode cX1_addEntry 42 = .ok (.bipush 8, 2) := by decide +kernel
theorem dX1_addEntry_44 : decode cX1_addEntry 44 = .ok (.ishl, 1) := by decide +kernel
theorem dX1_addEntry_45 : decode cX1_addEntry 45 = .ok (.ior, 1) := by decide +kernel
theorem dX1_addEntry_46 : decode cX1_addEntry 46 = .ok (.iastore, 1) := by decide +kernel
theorem dX1_addEntry_47 : decode cX1_addEntry 47 = .ok (.aload_n 0, 1) := by decide +kernel
theorem dX1_addEntry_48 : decode cX1_addEntry 48 = .ok (.getfield 11, 3) := by decide +kernel
theorem dX1_addEntry_51 : decode cX1_addEntry 51 = .ok (.iload 4, 2) := by decide +kernel
theorem dX1_addEntry_53 : decode cX1_addEntry 53 = .ok (.iconst 2, 1) := by decide +kernel
theorem dX1_addEntry_54 : decode cX1_addEntry 54 = .ok (.iadd, 1) := by decide +kernel
theorem dX1_addEntry_55 : decode cX1_addEntry 55 = .ok (.sipush (-256), 3) := by decide +kernel
theorem dX1_addEntry_58 : decode cX1_addEntry 58 = .ok (.iastore, 1) := by decide +kernel
theorem dX1_addEntry_59 : decode cX1_addEntry 59 = .ok (.aload_n 0, 1) := by decide +kernel
theorem dX1_addEntry_60 : decode cX1_addEntry 60 = .ok (.getfield 11, 3) := by decide +kernel
theorem dX1_addEntry_63 : decode cX1_addEntry 63 = .ok (.iload 4, 2) := by decide +kernel
theorem dX1_addEntry_65 : decode cX1_addEntry 65 = .ok (.iconst 3, 1) := by decide +kernel
theorem dX1_addEntry_66 : decode cX1_addEntry 66 = .ok (.iadd, 1) := by decide +kernel
theorem dX1_addEntry_67 : decode cX1_addEntry 67 = .ok (.iconst 0, 1) := by decide +kernel
theorem dX1_addEntry_68 : decode cX1_addEntry 68 = .ok (.iastore, 1) := by decide +kernel
theorem dX1_addEntry_69 : decode cX1_addEntry 69 = .ok (.aload_n 0, 1) := by decide +kernel
theorem dX1_addEntry_70 : decode cX1_addEntry 70 = .ok (.getfield 11, 3) := by decide +kernel
theorem dX1_addEntry_73 : decode cX1_addEntry 73 = .ok (.iload 4, 2) := by decide +kernel
theorem dX1_addEntry_75 : decode cX1_addEntry 75 = .ok (.iconst 4, 1) := by decide +kernel
theorem dX1_addEntry_76 : decode cX1_addEntry 76 = .ok (.iadd, 1) := by decide +kernel
theorem dX1_addEntry_77 : decode cX1_addEntry 77 = .ok (.iload_n 3, 1) := by decide +kernel
theorem dX1_addEntry_78 : decode cX1_addEntry 78 = .ok (.iastore, 1) := by decide +kernel
theorem dX1_addEntry_79 : decode cX1_addEntry 79 = .ok (.aload_n 0, 1) := by decide +kernel
theorem dX1_addEntry_80 : decode cX1_addEntry 80 = .ok (.dup, 1) := by decide +kernel
theorem dX1_addEntry_81 : decode cX1_addEntry 81 = .ok (.getfield 22, 3) := by decide +kernel
theorem dX1_addEntry_84 : decode cX1_addEntry 84 = .ok (.bipush 20, 2) := by decide +kernel
theorem dX1_addEntry_86 : decode cX1_addEntry 86 = .ok (.iadd, 1) := by decide +kernel
theorem dX1_addEntry_87 : decode cX1_addEntry 87 = .ok (.putfield 22, 3) := by decide +kernel
theorem dX1_addEntry_90 : decode cX1_addEntry 90 = .ok (.return_, 1) := by decide +kernel
theorem dX1_become_0 : decode cX1_become 0 = .ok (.aload_n 0, 1) := by decide +kernel
theorem dX1_become_1 : decode cX1_become 1 = .ok (.aload_n 1, 1) := by decide +kernel
theorem dX1_become_2 : decode cX1_become 2 = .ok (.getfield 15, 3) := by decide +kernel
theorem dX1_become_5 : decode cX1_become 5 = .ok (.putfield 15, 3) := by decide +kernel
theorem dX1_become_8 : decode cX1_become 8 = .ok (.aload_n 0, 1) := by decide +kernel
theorem dX1_become_9 : decode cX1_become 9 = .ok (.aload_n 1, 1) := by decide +kernel
theorem dX1_become_10 : decode cX1_become 10 = .ok (.getfield 19, 3) := by decide +kernel
theorem dX1_become_13 : decode cX1_become 13 = .ok (.putfield 19, 3) := by decide +kernel
theorem dX1_become_16 : decode cX1_become 16 = .ok (.aload_n 0, 1) := by decide +kernel
theorem dX1_become_17 : decode cX1_become 17 = .ok (.aload_n 1, 1) := by decide +kernel
theorem dX1_become_18 : decode cX1_become 18 = .ok (.getfield 22, 3) := by decide +kernel
theorem dX1_become_21 : decode cX1_become 21 = .ok (.putfield 22, 3) := by decide +kernel
theorem dX1_become_24 : decode cX1_become 24 = .ok (.aload_n 1, 1) := by decide +kernel
theorem dX1_become_25 : decode cX1_become 25 = .ok (.getfield 11, 3) := by decide +kernel
theorem dX1_become_28 : decode cX1_become 28 = .ok (.iconst 0, 1) := by decide +kernel
theorem dX1_become_29 : decode cX1_become 29 = .ok (.aload_n 0, 1) := by decide +kernel
theorem dX1_become_30 : decode cX1_become 30 = .ok (.getfield 11, 3) := by decide +kernel
theorem dX1_become_33 : decode cX1_become 33 = .ok (.iconst 0, 1) := by decide +kernel
theorem dX1_become_34 : decode cX1_become 34 = .ok (.aload_n 0, 1) := by decide +kernel
theorem dX1_become_35 : decode cX1_become 35 = .ok (.getfield 11, 3) := by decide +kernel
theorem dX1_become_38 : decode cX1_become 38 = .ok (.arraylength, 1) := by decide +kernel
theorem dX1_become_39 : decode cX1_become 39 = .ok (.invokestatic 34, 3) := by decide +kernel
theorem dX1_become_42 : decode cX1_become 42 = .ok (.return_, 1) := by decide +kernel
theorem dX1_byteAt_0 : decode cX1_byteAt 0 = .ok (.aload_n 0, 1) := by decide +kernel
theorem dX1_byteAt_1 : decode cX1_byteAt 1 = .ok (.getfield 11, 3) := by decide +kernel
theorem dX1_byteAt_4 : decode cX1_byteAt 4 = .ok (.iload_n 1, 1) := by decide +kernel
theorem dX1_byteAt_5 : decode cX1_byteAt 5 = .ok (.iconst 2, 1) := by decide +kernel
theorem dX1_byteAt_6 : decode cX1_byteAt 6 = .ok (.ishr, 1) := by decide +kernel
theorem dX1_byteAt_7 : decode cX1_byteAt 7 = .ok (.iaload, 1) := by decide +kernel
theorem dX1_byteAt_8 : decode cX1_byteAt 8 = .ok (.iload_n 1, 1) := by decide +kernel
theorem dX1_byteAt_9 : decode cX1_byteAt 9 = .ok (.invokestatic 40, 3) := by decide +kernel
theorem dX1_byteAt_12 : decode cX1_byteAt 12 = .ok (.iushr, 1) := by decide +kernel
theorem dX1_byteAt_13 : decode cX1_byteAt 13 = .ok (.sipush 255, 3) := by decide +kernel
theorem dX1_byteAt_16 : decode cX1_byteAt 16 = .ok (.iand, 1) := by decide +kernel
theorem dX1_byteAt_17 : decode cX1_byteAt 17 = .ok (.ireturn, 1) := by decide +kernel
theorem dX1_setByte_0 : decode cX1_setByte 0 = .ok (.aload_n 0, 1) := by decide +kernel
theorem dX1_setByte_1 : decode cX1_setByte 1 = .ok (.getfield 11, 3) := by decide +kernel
theorem dX1_setByte_4 : decode cX1_setByte 4 = .ok (.iload_n 1, 1) := by decide +kernel
theorem dX1_setByte_5 : decode cX1_setByte 5 = .ok (.iconst 2, 1) := by decide +kernel
theorem dX1_setByte_6 : decode cX1_setByte 6 = .ok (.ishr, 1) := by decide +kernel
theorem dX1_setByte_7 : decode cX1_setByte 7 = .ok (.iaload, 1) := by decide +kernel
theorem dX1_setByte_8 : decode cX1_setByte 8 = .ok (.sipush 255, 3) := by decide +kernel
theorem dX1_setByte_11 : decode cX1_setByte 11 = .ok (.iload_n 1, 1) := by decide +kernel
theorem dX1_setByte_12 : decode cX1_setByte 12 = .ok (.invokestatic 40, 3) := by decide +kernel
theorem dX1_setByte_15 : decode cX1_setByte 15 = .ok (.ishl, 1) := by decide +kernel
theorem dX1_setByte_16 : decode cX1_setByte 16 = .ok (.iconst (-1), 1) := by decide +kernel
theorem dX1_setByte_17 : decode cX1_setByte 17 = .ok (.ixor, 1) := by decide +kernel
theorem dX1_setByte_18 : decode cX1_setByte 18 = .ok (.iand, 1) := by decide +kernel
theorem dX1_setByte_19 : decode cX1_setByte 19 = .ok (.istore_n 3, 1) := by decide +kernel
theorem dX1_setByte_20 : decode cX1_setByte 20 = .ok (.aload_n 0, 1) := by decide +kernel
theorem dX1_setByte_21 : decode cX1_setByte 21 = .ok (.getfield 11, 3) := by decide +kernel
theorem dX1_setByte_24 : decode cX1_setByte 24 = .ok (.iload_n 1, 1) := by decide +kernel
theorem dX1_setByte_25 : decode cX1_setByte 25 = .ok (.iconst 2, 1) := by decide +kernel
theorem dX1_setByte_26 : decode cX1_setByte 26 = .ok (.ishr, 1) := by decide +kernel
theorem dX1_setByte_27 : decode cX1_setByte 27 = .ok (.iload_n 3, 1) := by decide +kernel
theorem dX1_setByte_28 : decode cX1_setByte 28 = .ok (.iload_n 2, 1) := by decide +kernel
theorem dX1_setByte_29 : decode cX1_setByte 29 = .ok (.iload_n 1, 1) := by decide +kernel
theorem dX1_setByte_30 : decode cX1_setByte 30 = .ok (.invokestatic 40, 3) := by decide +kernel
theorem dX1_setByte_33 : decode cX1_setByte 33 = .ok (.ishl, 1) := by decide +kernel
theorem dX1_setByte_34 : decode cX1_setByte 34 = .ok (.ior, 1) := by decide +kernel
theorem dX1_setByte_35 : decode cX1_setByte 35 = .ok (.iastore, 1) := by decide +kernel
theorem dX1_setByte_36 : decode cX1_setByte 36 = .ok (.return_, 1) := by decide +kernel
theorem dX1_shiftOf_0 : decode cX1_shiftOf 0 = .ok (.iconst 3, 1) := by decide +kernel
theorem dX1_shiftOf_1 : decode cX1_shiftOf 1 = .ok (.iload_n 0, 1) := by decide +kernel
theorem dX1_shiftOf_2 : decode cX1_shiftOf 2 = .ok (.iconst 3, 1) := by decide +kernel
theorem dX1_shiftOf_3 : decode cX1_shiftOf 3 = .ok (.iand, 1) := by decide +kernel
theorem dX1_shiftOf_4 : decode cX1_shiftOf 4 = .ok (.isub, 1) := by decide +kernel
theorem dX1_shiftOf_5 : decode cX1_shiftOf 5 = .ok (.bipush 8, 2) := by decide +kernel
theorem dX1_shiftOf_7 : decode cX1_shiftOf 7 = .ok (.imul, 1) := by decide +kernel
theorem dX1_shiftOf_8 : decode cX1_shiftOf 8 = .ok (.ireturn, 1) := by decide +kernel
theorem dX1_isSound_0 : decode cX1_isSound 0 = .ok (.aload_n 0, 1) := by decide +kernel
theorem dX1_isSound_1 : decode cX1_isSound 1 = .ok (.getfield 22, 3) := by decide +kernel
theorem dX1_isSound_4 : decode cX1_isSound 4 = .ok (.bipush 24, 2) := by decide +kernel
theorem dX1_isSound_6 : decode cX1_isSound 6 = .ok (.if_icmp .lt 41, 3) := by decide +kernel
theorem dX1_isSound_9 : decode cX1_isSound 9 = .ok (.aload_n 0, 1) := by decide +kernel
theorem dX1_isSound_10 : decode cX1_isSound 10 = .ok (.getfield 22, 3) := by decide +kernel
theorem dX1_isSound_13 : decode cX1_isSound 13 = .ok (.iconst 4, 1) := by decide +kernel
theorem dX1_isSound_14 : decode cX1_isSound 14 = .ok (.isub, 1) := by decide +kernel
theorem dX1_isSound_15 : decode cX1_isSound 15 = .ok (.bipush 20, 2) := by decide +kernel
theorem dX1_isSound_17 : decode cX1_isSound 17 = .ok (.irem, 1) := by decide +kernel
theorem dX1_isSound_18 : decode cX1_isSound 18 = .ok (.ifCond .ne 29, 3) := by decide +kernel
theorem dX1_isSound_21 : decode cX1_isSound 21 = .ok (.aload_n 0, 1) := by decide +kernel
theorem dX1_isSound_22 : decode cX1_isSound 22 = .ok (.getfield 11, 3) := by decide +kernel
theorem dX1_isSound_25 : decode cX1_isSound 25 = .ok (.iconst 0, 1) := by decide +kernel
theorem dX1_isSound_26 : decode cX1_isSound 26 = .ok (.iaload, 1) := by decide +kernel
theorem dX1_isSound_27 : decode cX1_isSound 27 = .ok (.ldc 43, 2) := by decide +kernel
theorem dX1_isSound_29 : decode cX1_isSound 29 = .ok (.if_icmp .eq 14, 3) := by decide +kernel
theorem dX1_isSound_32 : decode cX1_isSound 32 = .ok (.aload_n 0, 1) := by decide +kernel
theorem dX1_isSound_33 : decode cX1_isSound 33 = .ok (.getfield 11, 3) := by decide +kernel
theorem dX1_isSound_36 : decode cX1_isSound 36 = .ok (.iconst 0, 1) := by decide +kernel
theorem dX1_isSound_37 : decode cX1_isSound 37 = .ok (.iaload, 1) := by decide +kernel
theorem dX1_isSound_38 : decode cX1_isSound 38 = .ok (.ldc 44, 2) := by decide +kernel
theorem dX1_isSound_40 : decode cX1_isSound 40 = .ok (.if_icmp .ne 7, 3) := by decide +kernel
theorem dX1_isSound_43 : decode cX1_isSound 43 = .ok (.iconst 1, 1) := by decide +kernel
theorem dX1_isSound_44 : decode cX1_isSound 44 = .ok (.goto 4, 3) := by decide +kernel
theorem dX1_isSound_47 : decode cX1_isSound 47 = .ok (.iconst 0, 1) := by decide +kernel
theorem dX1_isSound_48 : decode cX1_isSound 48 = .ok (.ireturn, 1) := by decide +kernel
theorem dX1_isRequest_0 : decode cX1_isRequest 0 = .ok (.aload_n 0, 1) := by decide +kernel
theorem dX1_isRequest_1 : decode cX1_isRequest 1 = .ok (.getfield 11, 3) := by decide +kernel
theorem dX1_isRequest_4 : decode cX1_isRequest 4 = .ok (.iconst 0, 1) := by decide +kernel
theorem dX1_isRequest_5 : decode cX1_isRequest 5 = .ok (.iaload, 1) := by decide +kernel
theorem dX1_isRequest_6 : decode cX1_isRequest 6 = .ok (.ldc 43, 2) := by decide +kernel
theorem dX1_isRequest_8 : decode cX1_isRequest 8 = .ok (.if_icmp .ne 7, 3) := by decide +kernel
theorem dX1_isRequest_11 : decode cX1_isRequest 11 = .ok (.iconst 1, 1) := by decide +kernel
theorem dX1_isRequest_12 : decode cX1_isRequest 12 = .ok (.goto 4, 3) := by decide +kernel
theorem dX1_isRequest_15 : decode cX1_isRequest 15 = .ok (.iconst 0, 1) := by decide +kernel
theorem dX1_isRequest_16 : decode cX1_isRequest 16 = .ok (.ireturn, 1) := by decide +kernel
theorem dX1_entries_0 : decode cX1_entries 0 = .ok (.aload_n 0, 1) := by decide +kernel
theorem dX1_entries_1 : decode cX1_entries 1 = .ok (.getfield 22, 3) := by decide +kernel
theorem dX1_entries_4 : decode cX1_entries 4 = .ok (.iconst 4, 1) := by decide +kernel
theorem dX1_entries_5 : decode cX1_entries 5 = .ok (.isub, 1) := by decide +kernel
theorem dX1_entries_6 : decode cX1_entries 6 = .ok (.bipush 20, 2) := by decide +kernel
theorem dX1_entries_8 : decode cX1_entries 8 = .ok (.idiv, 1) := by decide +kernel
theorem dX1_entries_9 : decode cX1_entries 9 = .ok (.ireturn, 1) := by decide +kernel
theorem dX1_firstWord_0 : decode cX1_firstWord 0 = .ok (.iconst 1, 1) := by decide +kernel
theorem dX1_firstWord_1 : decode cX1_firstWord 1 = .ok (.iload_n 0, 1) := by decide +kernel
theorem dX1_firstWord_2 : decode cX1_firstWord 2 = .ok (.iconst 5, 1) := by decide +kernel
theorem dX1_firstWord_3 : decode cX1_firstWord 3 = .ok (.imul, 1) := by decide +kernel
theorem dX1_firstWord_4 : decode cX1_firstWord 4 = .ok (.iadd, 1) := by decide +kernel
theorem dX1_firstWord_5 : decode cX1_firstWord 5 = .ok (.ireturn, 1) := by decide +kernel
theorem dX1_isSoundEntry_0 : decode cX1_isSoundEntry 0 = .ok (.aload_n 0, 1) := by decide +kernel
theorem dX1_isSoundEntry_1 : decode cX1_isSoundEntry 1 = .ok (.iload_n 1, 1) := by decide +kernel
theorem dX1_isSoundEntry_2 : decode cX1_isSoundEntry 2 = .ok (.invokevirtual 45, 3) := by decide +kernel
theorem dX1_isSoundEntry_5 : decode cX1_isSoundEntry 5 = .ok (.istore_n 2, 1) := by decide +kernel
theorem dX1_isSoundEntry_6 : decode cX1_isSoundEntry 6 = .ok (.aload_n 0, 1) := by decide +kernel
theorem dX1_isSoundEntry_7 : decode cX1_isSoundEntry 7 = .ok (.getfield 11, 3) := by decide +kernel
theorem dX1_isSoundEntry_10 : decode cX1_isSoundEntry 10 = .ok (.iload_n 1, 1) := by decide +kernel
theorem dX1_isSoundEntry_11 : decode cX1_isSoundEntry 11 = .ok (.invokestatic 29, 3) := by decide +kernel
theorem dX1_isSoundEntry_14 : decode cX1_isSoundEntry 14 = .ok (.iaload, 1) := by decide +kernel
theorem dX1_isSoundEntry_15 : decode cX1_isSoundEntry 15 = .ok (.ldc 48, 2) := by decide +kernel
theorem dX1_isSoundEntry_17 : decode cX1_isSoundEntry 17 = .ok (.if_icmp .ne 29, 3) := by decide +kernel
theorem dX1_isSoundEntry_20 : decode cX1_isSoundEntry 20 = .ok (.aload_n 0, 1) := by decide +kernel
theorem dX1_isSoundEntry_21 : decode cX1_isSoundEntry 21 = .ok (.iload_n 1, 1) := by decide +kernel
theorem dX1_isSoundEntry_22 : decode cX1_isSoundEntry 22 = .ok (.sipush 1792, 3) := by decide +kernel
theorem dX1_isSoundEntry_25 : decode cX1_isSoundEntry 25 = .ok (.invokevirtual 49, 3) := by decide +kernel
theorem dX1_isSoundEntry_28 : decode cX1_isSoundEntry 28 = .ok (.ifCond .eq 18, 3) := by decide +kernel
theorem dX1_isSoundEntry_31 : decode cX1_isSoundEntry 31 = .ok (.iload_n 2, 1) := by decide +kernel
theorem dX1_isSoundEntry_32 : decode cX1_isSoundEntry 32 = .ok (.iconst 1, 1) := by decide +kernel
theorem dX1_isSoundEntry_33 : decode cX1_isSoundEntry 33 = .ok (.if_icmp .lt 13, 3) := by decide +kernel
theorem dX1_isSoundEntry_36 : decode cX1_isSoundEntry 36 = .ok (.iload_n 2, 1) := by decide +kernel
theorem dX1_isSoundEntry_37 : decode cX1_isSoundEntry 37 = .ok (.bipush 16, 2) := by decide +kernel
theorem dX1_isSoundEntry_39 : decode cX1_isSoundEntry 39 = .ok (.if_icmp .gt 7, 3) := by decide +kernel
theorem dX1_isSoundEntry_42 : decode cX1_isSoundEntry 42 = .ok (.iconst 1, 1) := by decide +kernel
theorem dX1_isSoundEntry_43 : decode cX1_isSoundEntry 43 = .ok (.goto 4, 3) := by decide +kernel
theorem dX1_isSoundEntry_46 : decode cX1_isSoundEntry 46 = .ok (.iconst 0, 1) := by decide +kernel
theorem dX1_isSoundEntry_47 : decode cX1_isSoundEntry 47 = .ok (.ireturn, 1) := by decide +kernel
theorem dX1_asksForAll_0 : decode cX1_asksForAll 0 = .ok (.aload_n 0, 1) := by decide +kernel
theorem dX1_asksForAll_1 : decode cX1_asksForAll 1 = .ok (.invokevirtual 25, 3) := by decide +kernel
theorem dX1_asksForAll_4 : decode cX1_asksForAll 4 = .ok (.iconst 1, 1) := by decide +kernel
theorem dX1_asksForAll_5 : decode cX1_asksForAll 5 = .ok (.if_icmp .ne 39, 3) := by decide +kernel
theorem dX1_asksForAll_8 : decode cX1_asksForAll 8 = .ok (.aload_n 0, 1) := by decide +kernel
theorem dX1_asksForAll_9 : decode cX1_asksForAll 9 = .ok (.getfield 11, 3) := by decide +kernel
theorem dX1_asksForAll_12 : decode cX1_asksForAll 12 = .ok (.iconst 0, 1) := by decide +kernel
theorem dX1_asksForAll_13 : decode cX1_asksForAll 13 = .ok (.invokestatic 29, 3) := by decide +kernel
theorem dX1_asksForAll_16 : decode cX1_asksForAll 16 = .ok (.iaload, 1) := by decide +kernel
theorem dX1_asksForAll_17 : decode cX1_asksForAll 17 = .ok (.ifCond .ne 27, 3) := by decide +kernel
theorem dX1_asksForAll_20 : decode cX1_asksForAll 20 = .ok (.aload_n 0, 1) := by decide +kernel
theorem dX1_asksForAll_21 : decode cX1_asksForAll 21 = .ok (.iconst 0, 1) := by decide +kernel
theorem dX1_asksForAll_22 : decode cX1_asksForAll 22 = .ok (.ldc 53, 2) := by decide +kernel
theorem dX1_asksForAll_24 : decode cX1_asksForAll 24 = .ok (.invokevirtual 49, 3) := by decide +kernel
theorem dX1_asksForAll_27 : decode cX1_asksForAll 27 = .ok (.ifCond .eq 17, 3) := by decide +kernel
theorem dX1_asksForAll_30 : decode cX1_asksForAll 30 = .ok (.aload_n 0, 1) := by decide +kernel
theorem dX1_asksForAll_31 : decode cX1_asksForAll 31 = .ok (.iconst 0, 1) := by decide +kernel
theorem dX1_asksForAll_32 : decode cX1_asksForAll 32 = .ok (.invokevirtual 45, 3) := by decide +kernel
theorem dX1_asksForAll_35 : decode cX1_asksForAll 35 = .ok (.bipush 16, 2) := by decide +kernel
theorem dX1_asksForAll_37 : decode cX1_asksForAll 37 = .ok (.if_icmp .ne 7, 3) := by decide +kernel
theorem dX1_asksForAll_40 : decode cX1_asksForAll 40 = .ok (.iconst 1, 1) := by decide +kernel
theorem dX1_asksForAll_41 : decode cX1_asksForAll 41 = .ok (.goto 4, 3) := by decide +kernel
theorem dX1_asksForAll_44 : decode cX1_asksForAll 44 = .ok (.iconst 0, 1) := by decide +kernel
theorem dX1_asksForAll_45 : decode cX1_asksForAll 45 = .ok (.ireturn, 1) := by decide +kernel
theorem dX1_hasPlainFields_0 : decode cX1_hasPlainFields 0 = .ok (.iload_n 1, 1) := by decide +kernel
theorem dX1_hasPlainFields_1 : decode cX1_hasPlainFields 1 = .ok (.invokestatic 29, 3) := by decide +kernel
theorem dX1_hasPlainFields_4 : decode cX1_hasPlainFields 4 = .ok (.istore_n 3, 1) := by decide +kernel
theorem dX1_hasPlainFields_5 : decode cX1_hasPlainFields 5 = .ok (.aload_n 0, 1) := by decide +kernel
theorem dX1_hasPlainFields_6 : decode cX1_hasPlainFields 6 = .ok (.getfield 11, 3) := by decide +kernel
theorem dX1_hasPlainFields_9 : decode cX1_hasPlainFields 9 = .ok (.iload_n 3, 1) := by decide +kernel
theorem dX1_hasPlainFields_10 : decode cX1_hasPlainFields 10 = .ok (.iconst 1, 1) := by decide +kernel
theorem dX1_hasPlainFields_11 : decode cX1_hasPlainFields 11 = .ok (.iadd, 1) := by decide +kernel
theorem dX1_hasPlainFields_12 : decode cX1_hasPlainFields 12 = .ok (.iaload, 1) := by decide +kernel
theorem dX1_hasPlainFields_13 : decode cX1_hasPlainFields 13 = .ok (.iload_n 2, 1) := by decide +kernel
theorem dX1_hasPlainFields_14 : decode cX1_hasPlainFields 14 = .ok (.iconst (-1), 1) := by decide +kernel
theorem dX1_hasPlainFields_15 : decode cX1_hasPlainFields 15 = .ok (.ixor, 1) := by decide +kernel
theorem dX1_hasPlainFields_16 : decode cX1_hasPlainFields 16 = .ok (.iand, 1) := by decide +kernel
theorem dX1_hasPlainFields_17 : decode cX1_hasPlainFields 17 = .ok (.ldc 33, 2) := by decide +kernel
theorem dX1_hasPlainFields_19 : decode cX1_hasPlainFields 19 = .ok (.if_icmp .ne 32, 3) := by decide +kernel
theorem dX1_hasPlainFields_22 : decode cX1_hasPlainFields 22 = .ok (.aload_n 0, 1) := by decide +kernel
theorem dX1_hasPlainFields_23 : decode cX1_hasPlainFields 23 = .ok (.getfield 11, 3) := by decide +kernel
theorem dX1_hasPlainFields_26 : decode cX1_hasPlainFields 26 = .ok (.iload_n 3, 1) := by decide +kernel
theorem dX1_hasPlainFields_27 : decode cX1_hasPlainFields 27 = .ok (.iconst 2, 1) := by decide +kernel
theorem dX1_hasPlainFields_28 : decode cX1_hasPlainFields 28 = .ok (.iadd, 1) := by decide +kernel
theorem dX1_hasPlainFields_29 : decode cX1_hasPlainFields 29 = .ok (.iaload, 1) := by decide +kernel
theorem dX1_hasPlainFields_30 : decode cX1_hasPlainFields 30 = .ok (.sipush (-256), 3) := by decide +kernel
theorem dX1_hasPlainFields_33 : decode cX1_hasPlainFields 33 = .ok (.if_icmp .ne 18, 3) := by decide +kernel
theorem dX1_hasPlainFields_36 : decode cX1_hasPlainFields 36 = .ok (.aload_n 0, 1) := by decide +kernel
theorem dX1_hasPlainFields_37 : decode cX1_hasPlainFields 37 = .ok (.getfield 11, 3) := by decide +kernel
theorem dX1_hasPlainFields_40 : decode cX1_hasPlainFields 40 = .ok (.iload_n 3, 1) := by decide +kernel
theorem dX1_hasPlainFields_41 : decode cX1_hasPlainFields 41 = .ok (.iconst 3, 1) := by decide +kernel
theorem dX1_hasPlainFields_42 : decode cX1_hasPlainFields 42 = .ok (.iadd, 1) := by decide +kernel
theorem dX1_hasPlainFields_43 : decode cX1_hasPlainFields 43 = .ok (.iaload, 1) := by decide +kernel
theorem dX1_hasPlainFields_44 : decode cX1_hasPlainFields 44 = .ok (.ifCond .ne 7, 3) := by decide +kernel
theorem dX1_hasPlainFields_47 : decode cX1_hasPlainFields 47 = .ok (.iconst 1, 1) := by decide +kernel
theorem dX1_hasPlainFields_48 : decode cX1_hasPlainFields 48 = .ok (.goto 4, 3) := by decide +kernel
theorem dX1_hasPlainFields_51 : decode cX1_hasPlainFields 51 = .ok (.iconst 0, 1) := by decide +kernel
theorem dX1_hasPlainFields_52 : decode cX1_hasPlainFields 52 = .ok (.ireturn, 1) := by decide +kernel
theorem dX1_destination_0 : decode cX1_destination 0 = .ok (.aload_n 0, 1) := by decide +kernel
theorem dX1_destination_1 : decode cX1_destination 1 = .ok (.getfield 11, 3) := by decide +kernel
theorem dX1_destination_4 : decode cX1_destination 4 = .ok (.iload_n 1, 1) := by decide +kernel
theorem dX1_destination_5 : decode cX1_destination 5 = .ok (.invokestatic 29, 3) := by decide +kernel
theorem dX1_destination_8 : decode cX1_destination 8 = .ok (.iconst 1, 1) := by decide +kernel
theorem dX1_destination_9 : decode cX1_destination 9 = .ok (.iadd, 1) := by decide +kernel
theorem dX1_destination_10 : decode cX1_destination 10 = .ok (.iaload, 1) := by decide +kernel
theorem dX1_destination_11 : decode cX1_destination 11 = .ok (.bipush 8, 2) := by decide +kernel
theorem dX1_destination_13 : decode cX1_destination 13 = .ok (.ishr, 1) := by decide +kernel
theorem dX1_destination_14 : decode cX1_destination 14 = .ok (.sipush 255, 3) := by decide +kernel
theorem dX1_destination_17 : decode cX1_destination 17 = .ok (.iand, 1) := by decide +kernel
theorem dX1_destination_18 : decode cX1_destination 18 = .ok (.ireturn, 1) := by decide +kernel
theorem dX1_metric_0 : decode cX1_metric 0 = .ok (.aload_n 0, 1) := by decide +kernel
theorem dX1_metric_1 : decode cX1_metric 1 = .ok (.getfield 11, 3) := by decide +kernel
theorem dX1_metric_4 : decode cX1_metric 4 = .ok (.iload_n 1, 1) := by decide +kernel
theorem dX1_metric_5 : decode cX1_metric 5 = .ok (.invokestatic 29, 3) := by decide +kernel
theorem dX1_metric_8 : decode cX1_metric 8 = .ok (.iconst 4, 1) := by decide +kernel
theorem dX1_metric_9 : decode cX1_metric 9 = .ok (.iadd, 1) := by decide +kernel
theorem dX1_metric_10 : decode cX1_metric 10 = .ok (.iaload, 1) := by decide +kernel
theorem dX1_metric_11 : decode cX1_metric 11 = .ok (.ireturn, 1) := by decide +kernel
theorem dX2_init_0 : decode cX2_init 0 = .ok (.aload_n 0, 1) := by decide +kernel
theorem dX2_init_1 : decode cX2_init 1 = .ok (.invokespecial 3, 3) := by decide +kernel
theorem dX2_init_4 : decode cX2_init 4 = .ok (.aload_n 0, 1) := by decide +kernel
theorem dX2_init_5 : decode cX2_init 5 = .ok (.bipush 8, 2) := by decide +kernel
theorem dX2_init_7 : decode cX2_init 7 = .ok (.newarray .int, 2) := by decide +kernel
theorem dX2_init_9 : decode cX2_init 9 = .ok (.putfield 9, 3) := by decide +kernel
theorem dX2_init_12 : decode cX2_init 12 = .ok (.aload_n 0, 1) := by decide +kernel
theorem dX2_init_13 : decode cX2_init 13 = .ok (.bipush 8, 2) := by decide +kernel
theorem dX2_init_15 : decode cX2_init 15 = .ok (.newarray .int, 2) := by decide +kernel
theorem dX2_init_17 : decode cX2_init 17 = .ok (.putfield 15, 3) := by decide +kernel
theorem dX2_init_20 : decode cX2_init 20 = .ok (.aload_n 0, 1) := by decide +kernel
theorem dX2_init_21 : decode cX2_init 21 = .ok (.bipush 8, 2) := by decide +kernel
theorem dX2_init_23 : decode cX2_init 23 = .ok (.newarray .int, 2) := by decide +kernel
theorem dX2_init_25 : decode cX2_init 25 = .ok (.putfield 18, 3) := by decide +kernel
theorem dX2_init_28 : decode cX2_init 28 = .ok (.aload_n 0, 1) := by decide +kernel
theorem dX2_init_29 : decode cX2_init 29 = .ok (.bipush 8, 2) := by decide +kernel
theorem dX2_init_31 : decode cX2_init 31 = .ok (.newarray .int, 2) := by decide +kernel
theorem dX2_init_33 : decode cX2_init 33 = .ok (.putfield 21, 3) := by decide +kernel
theorem dX2_init_36 : decode cX2_init 36 = .ok (.aload_n 0, 1) := by decide +kernel
theorem dX2_init_37 : decode cX2_init 37 = .ok (.bipush 8, 2) := by decide +kernel
theorem dX2_init_39 : decode cX2_init 39 = .ok (.newarray .boolean, 2) := by decide +kernel
theorem dX2_init_41 : decode cX2_init 41 = .ok (.putfield 24, 3) := by decide +kernel
theorem dX2_init_44 : decode cX2_init 44 = .ok (.aload_n 0, 1) := by decide +kernel
theorem dX2_init_45 : decode cX2_init 45 = .ok (.getfield 9, 3) := by decide +kernel
theorem dX2_init_48 : decode cX2_init 48 = .ok (.iconst (-1), 1) := by decide +kernel
theorem dX2_init_49 : decode cX2_init 49 = .ok (.invokestatic 28, 3) := by decide +kernel
theorem dX2_init_52 : decode cX2_init 52 = .ok (.return_, 1) := by decide +kernel
theorem dX2_has_0 : decode cX2_has 0 = .ok (.aload_n 0, 1) := by decide +kernel
theorem dX2_has_1 : decode cX2_has 1 = .ok (.getfield 9, 3) := by decide +kernel
theorem dX2_has_4 : decode cX2_has 4 = .ok (.iload_n 1, 1) := by decide +kernel
theorem dX2_has_5 : decode cX2_has 5 = .ok (.iaload, 1) := by decide +kernel
theorem dX2_has_6 : decode cX2_has 6 = .ok (.iconst (-1), 1) := by decide +kernel
theorem dX2_has_7 : decode cX2_has 7 = .ok (.if_icmp .eq 7, 3) := by decide +kernel
theorem dX2_has_10 : decode cX2_has 10 = .ok (.iconst 1, 1) := by decide +kernel
theorem dX2_has_11 : decode cX2_has 11 = .ok (.goto 4, 3) := by decide +kernel
theorem dX2_has_14 : decode cX2_has 14 = .ok (.iconst 0, 1) := by decide +kernel
theorem dX2_has_15 : decode cX2_has 15 = .ok (.ireturn, 1) := by decide +kernel
theorem dX2_reaches_0 : decode cX2_reaches 0 = .ok (.aload_n 0, 1) := by decide +kernel
theorem dX2_reaches_1 : decode cX2_reaches 1 = .ok (.iload_n 1, 1) := by decide +kernel
theorem dX2_reaches_2 : decode cX2_reaches 2 = .ok (.invokevirtual 34, 3) := by decide +kernel
theorem dX2_reaches_5 : decode cX2_reaches 5 = .ok (.ifCond .eq 18, 3) := by decide +kernel
theorem dX2_reaches_8 : decode cX2_reaches 8 = .ok (.aload_n 0, 1) := by decide +kernel
theorem dX2_reaches_9 : decode cX2_reaches 9 = .ok (.getfield 9, 3) := by decide +kernel
theorem dX2_reaches_12 : decode cX2_reaches 12 = .ok (.iload_n 1, 1) := by decide +kernel
theorem dX2_reaches_13 : decode cX2_reaches 13 = .ok (.iaload, 1) := by decide +kernel
theorem dX2_reaches_14 : decode cX2_reaches 14 = .ok (.bipush 16, 2) := by decide +kernel
theorem dX2_reaches_16 : decode cX2_reaches 16 = .ok (.if_icmp .ge 7, 3) := by decide +kernel
theorem dX2_reaches_19 : decode cX2_reaches 19 = .ok (.iconst 1, 1) := by decide +kernel
theorem dX2_reaches_20 : decode cX2_reaches 20 = .ok (.goto 4, 3) := by decide +kernel
theorem dX2_reaches_23 : decode cX2_reaches 23 = .ok (.iconst 0, 1) := by decide +kernel
theorem dX2_reaches_24 : decode cX2_reaches 24 = .ok (.ireturn, 1) := by decide +kernel
theorem dX2_read_0 : decode cX2_read 0 = .ok (.aload_n 0, 1) := by decide +kernel
theorem dX2_read_1 : decode cX2_read 1 = .ok (.iload_n 1, 1) := by decide +kernel
theorem dX2_read_2 : decode cX2_read 2 = .ok (.invokevirtual 34, 3) := by decide +kernel
theorem dX2_read_5 : decode cX2_read 5 = .ok (.ifCond .ne 5, 3) := by decide +kernel
theorem dX2_read_8 : decode cX2_read 8 = .ok (.iconst (-1), 1) := by decide +kernel
theorem dX2_read_9 : decode cX2_read 9 = .ok (.ireturn, 1) := by decide +kernel
theorem dX2_read_10 : decode cX2_read 10 = .ok (.iload_n 2, 1) := by decide +kernel
theorem dX2_read_11 : decode cX2_read 11 = .ok (.tableswitch 65 0 3 #[29, 36, 43, 50], 29) := by decide +kernel
theorem dX2_read_40 : decode cX2_read 40 = .ok (.aload_n 0, 1) := by decide +kernel
theorem dX2_read_41 : decode cX2_read 41 = .ok (.getfield 9, 3) := by decide +kernel
theorem dX2_read_44 : decode cX2_read 44 = .ok (.iload_n 1, 1) := by decide +kernel
theorem dX2_read_45 : decode cX2_read 45 = .ok (.iaload, 1) := by decide +kernel
theorem dX2_read_46 : decode cX2_read 46 = .ok (.ireturn, 1) := by decide +kernel
theorem dX2_read_47 : decode cX2_read 47 = .ok (.aload_n 0, 1) := by decide +kernel
theorem dX2_read_48 : decode cX2_read 48 = .ok (.getfield 15, 3) := by decide +kernel
theorem dX2_read_51 : decode cX2_read 51 = .ok (.iload_n 1, 1) := by decide +kernel
theorem dX2_read_52 : decode cX2_read 52 = .ok (.iaload, 1) := by decide +kernel
theorem dX2_read_53 : decode cX2_read 53 = .ok (.ireturn, 1) := by decide +kernel
theorem dX2_read_54 : decode cX2_read 54 = .ok (.aload_n 0, 1) := by decide +kernel
theorem dX2_read_55 : decode cX2_read 55 = .ok (.getfield 18, 3) := by decide +kernel
theorem dX2_read_58 : decode cX2_read 58 = .ok (.iload_n 1, 1) := by decide +kernel
theorem dX2_read_59 : decode cX2_read 59 = .ok (.iaload, 1) := by decide +kernel
theorem dX2_read_60 : decode cX2_read 60 = .ok (.ireturn, 1) := by decide +kernel
theorem dX2_read_61 : decode cX2_read 61 = .ok (.aload_n 0, 1) := by decide +kernel
theorem dX2_read_62 : decode cX2_read 62 = .ok (.getfield 24, 3) := by decide +kernel
theorem dX2_read_65 : decode cX2_read 65 = .ok (.iload_n 1, 1) := by decide +kernel
theorem dX2_read_66 : decode cX2_read 66 = .ok (.baload, 1) := by decide +kernel
theorem dX2_read_67 : decode cX2_read 67 = .ok (.ifCond .eq 7, 3) := by decide +kernel
theorem dX2_read_70 : decode cX2_read 70 = .ok (.iconst 1, 1) := by decide +kernel
theorem dX2_read_71 : decode cX2_read 71 = .ok (.goto 4, 3) := by decide +kernel
theorem dX2_read_74 : decode cX2_read 74 = .ok (.iconst 0, 1) := by decide +kernel
theorem dX2_read_75 : decode cX2_read 75 = .ok (.ireturn, 1) := by decide +kernel
theorem dX2_read_76 : decode cX2_read 76 = .ok (.aload_n 0, 1) := by decide +kernel
theorem dX2_read_77 : decode cX2_read 77 = .ok (.getfield 21, 3) := by decide +kernel
theorem dX2_read_80 : decode cX2_read 80 = .ok (.iload_n 1, 1) := by decide +kernel
theorem dX2_read_81 : decode cX2_read 81 = .ok (.iaload, 1) := by decide +kernel
theorem dX2_read_82 : decode cX2_read 82 = .ok (.ireturn, 1) := by decide +kernel
theorem dX2_metricTold_0 : decode cX2_metricTold 0 = .ok (.aload_n 0, 1) := by decide +kernel
theorem dX2_metricTold_1 : decode cX2_metricTold 1 = .ok (.getfield 15, 3) := by decide +kernel
theorem dX2_metricTold_4 : decode cX2_metricTold 4 = .ok (.iload_n 1, 1) := by decide +kernel
theorem dX2_metricTold_5 : decode cX2_metricTold 5 = .ok (.iaload, 1) := by decide +kernel
theorem dX2_metricTold_6 : decode cX2_metricTold 6 = .ok (.iload_n 2, 1) := by decide +kernel
theorem dX2_metricTold_7 : decode cX2_metricTold 7 = .ok (.if_icmp .ne 8, 3) := by decide +kernel
theorem dX2_metricTold_10 : decode cX2_metricTold 10 = .ok (.bipush 16, 2) := by decide +kernel
theorem dX2_metricTold_12 : decode cX2_metricTold 12 = .ok (.goto 16, 3) := by decide +kernel
theorem dX2_metricTold_15 : decode cX2_metricTold 15 = .ok (.aload_n 0, 1) := by decide +kernel
theorem dX2_metricTold_16 : decode cX2_metricTold 16 = .ok (.getfield 9, 3) := by decide +kernel
theorem dX2_metricTold_19 : decode cX2_metricTold 19 = .ok (.iload_n 1, 1) := by decide +kernel
theorem dX2_metricTold_20 : decode cX2_metricTold 20 = .ok (.iaload, 1) := by decide +kernel
theorem dX2_metricTold_21 : decode cX2_metricTold 21 = .ok (.iconst 1, 1) := by decide +kernel
theorem dX2_metricTold_22 : decode cX2_metricTold 22 = .ok (.iadd, 1) := by decide +kernel
theorem dX2_metricTold_23 : decode cX2_metricTold 23 = .ok (.bipush 16, 2) := by decide +kernel
theorem dX2_metricTold_25 : decode cX2_metricTold 25 = .ok (.invokestatic 38, 3) := by decide +kernel
theorem dX2_metricTold_28 : decode cX2_metricTold 28 = .ok (.ireturn, 1) := by decide +kernel
theorem dX2_hear_0 : decode cX2_hear 0 = .ok (.aload_n 0, 1) := by decide +kernel
theorem dX2_hear_1 : decode cX2_hear 1 = .ok (.iload_n 1, 1) := by decide +kernel
theorem dX2_hear_2 : decode cX2_hear 2 = .ok (.invokevirtual 34, 3) := by decide +kernel
theorem dX2_hear_5 : decode cX2_hear 5 = .ok (.ifCond .ne 19, 3) := by decide +kernel
theorem dX2_hear_8 : decode cX2_hear 8 = .ok (.iload_n 2, 1) := by decide +kernel
theorem dX2_hear_9 : decode cX2_hear 9 = .ok (.bipush 16, 2) := by decide +kernel
theorem dX2_hear_11 : decode cX2_hear 11 = .ok (.if_icmp .ge 58, 3) := by decide +kernel
theorem dX2_hear_14 : decode cX2_hear 14 = .ok (.aload_n 0, 1) := by decide +kernel
theorem dX2_hear_15 : decode cX2_hear 15 = .ok (.iload_n 1, 1) := by decide +kernel
theorem dX2_hear_16 : decode cX2_hear 16 = .ok (.iload_n 2, 1) := by decide +kernel
theorem dX2_hear_17 : decode cX2_hear 17 = .ok (.iload_n 3, 1) := by decide +kernel
theorem dX2_hear_18 : decode cX2_hear 18 = .ok (.invokevirtual 44, 3) := by decide +kernel
theorem dX2_hear_21 : decode cX2_hear 21 = .ok (.goto 48, 3) := by decide +kernel
theorem dX2_hear_24 : decode cX2_hear 24 = .ok (.aload_n 0, 1) := by decide +kernel
theorem dX2_hear_25 : decode cX2_hear 25 = .ok (.getfield 21, 3) := by decide +kernel
theorem dX2_hear_28 : decode cX2_hear 28 = .ok (.iload_n 1, 1) := by decide +kernel
theorem dX2_hear_29 : decode cX2_hear 29 = .ok (.iaload, 1) := by decide +kernel
theorem dX2_hear_30 : decode cX2_hear 30 = .ok (.ifCond .ne 39, 3) := by decide +kernel
theorem dX2_hear_33 : decode cX2_hear 33 = .ok (.aload_n 0, 1) := by decide +kernel
theorem dX2_hear_34 : decode cX2_hear 34 = .ok (.getfield 15, 3) := by decide +kernel
theorem dX2_hear_37 : decode cX2_hear 37 = .ok (.iload_n 1, 1) := by decide +kernel
theorem dX2_hear_38 : decode cX2_hear 38 = .ok (.iaload, 1) := by decide +kernel
theorem dX2_hear_39 : decode cX2_hear 39 = .ok (.iload_n 3, 1) := by decide +kernel
theorem dX2_hear_40 : decode cX2_hear 40 = .ok (.if_icmp .ne 12, 3) := by decide +kernel
theorem dX2_hear_43 : decode cX2_hear 43 = .ok (.aload_n 0, 1) := by decide +kernel
theorem dX2_hear_44 : decode cX2_hear 44 = .ok (.iload_n 1, 1) := by decide +kernel
theorem dX2_hear_45 : decode cX2_hear 45 = .ok (.iload_n 2, 1) := by decide +kernel
theorem dX2_hear_46 : decode cX2_hear 46 = .ok (.invokevirtual 48, 3) := by decide +kernel
theorem dX2_hear_49 : decode cX2_hear 49 = .ok (.goto 20, 3) := by decide +kernel
theorem dX2_hear_52 : decode cX2_hear 52 = .ok (.iload_n 2, 1) := by decide +kernel
theorem dX2_hear_53 : decode cX2_hear 53 = .ok (.aload_n 0, 1) := by decide +kernel
theorem dX2_hear_54 : decode cX2_hear 54 = .ok (.getfield 9, 3) := by decide +kernel
theorem dX2_hear_57 : decode cX2_hear 57 = .ok (.iload_n 1, 1) := by decide +kernel
theorem dX2_hear_58 : decode cX2_hear 58 = .ok (.iaload, 1) := by decide +kernel
theorem dX2_hear_59 : decode cX2_hear 59 = .ok (.if_icmp .ge 10, 3) := by decide +kernel
theorem dX2_hear_62 : decode cX2_hear 62 = .ok (.aload_n 0, 1) := by decide +kernel
theorem dX2_hear_63 : decode cX2_hear 63 = .ok (.iload_n 1, 1) := by decide +kernel
theorem dX2_hear_64 : decode cX2_hear 64 = .ok (.iload_n 2, 1) := by decide +kernel
theorem dX2_hear_65 : decode cX2_hear 65 = .ok (.iload_n 3, 1) := by decide +kernel
theorem dX2_hear_66 : decode cX2_hear 66 = .ok (.invokevirtual 44, 3) := by decide +kernel
theorem dX2_hear_69 : decode cX2_hear 69 = .ok (.return_, 1) := by decide +kernel
theorem dX2_hearFromNext_0 : decode cX2_hearFromNext 0 = .ok (.iload_n 2, 1) := by decide +kernel
theorem dX2_hearFromNext_1 : decode cX2_hearFromNext 1 = .ok (.bipush 16, 2) := by decide +kernel
theorem dX2_hearFromNext_3 : decode cX2_hearFromNext 3 = .ok (.if_icmp .ge 10, 3) := by decide +kernel
theorem dX2_hearFromNext_6 : decode cX2_hearFromNext 6 = .ok (.aload_n 0, 1) := by decide +kernel
theorem dX2_hearFromNext_7 : decode cX2_hearFromNext 7 = .ok (.getfield 18, 3) := by decide +kernel
theorem dX2_hearFromNext_10 : decode cX2_hearFromNext 10 = .ok (.iload_n 1, 1) := by decide +kernel
theorem dX2_hearFromNext_11 : decode cX2_hearFromNext 11 = .ok (.iconst 0, 1) := by decide +kernel
theorem dX2_hearFromNext_12 : decode cX2_hearFromNext 12 = .ok (.iastore, 1) := by decide +kernel
theorem dX2_hearFromNext_13 : decode cX2_hearFromNext 13 = .ok (.iload_n 2, 1) := by decide +kernel
theorem dX2_hearFromNext_14 : decode cX2_hearFromNext 14 = .ok (.aload_n 0, 1) := by decide +kernel
theorem dX2_hearFromNext_15 : decode cX2_hearFromNext 15 = .ok (.getfield 9, 3) := by decide +kernel
theorem dX2_hearFromNext_18 : decode cX2_hearFromNext 18 = .ok (.iload_n 1, 1) := by decide +kernel
theorem dX2_hearFromNext_19 : decode cX2_hearFromNext 19 = .ok (.iaload, 1) := by decide +kernel
theorem dX2_hearFromNext_20 : decode cX2_hearFromNext 20 = .ok (.if_icmp .ne 4, 3) := by decide +kernel
theorem dX2_hearFromNext_23 : decode cX2_hearFromNext 23 = .ok (.return_, 1) := by decide +kernel
theorem dX2_hearFromNext_24 : decode cX2_hearFromNext 24 = .ok (.iload_n 2, 1) := by decide +kernel
theorem dX2_hearFromNext_25 : decode cX2_hearFromNext 25 = .ok (.bipush 16, 2) := by decide +kernel
theorem dX2_hearFromNext_27 : decode cX2_hearFromNext 27 = .ok (.if_icmp .ne 11, 3) := by decide +kernel
theorem dX2_hearFromNext_30 : decode cX2_hearFromNext 30 = .ok (.aload_n 0, 1) := by decide +kernel
theorem dX2_hearFromNext_31 : decode cX2_hearFromNext 31 = .ok (.iload_n 1, 1) := by decide +kernel
theorem dX2_hearFromNext_32 : decode cX2_hearFromNext 32 = .ok (.invokevirtual 52, 3) := by decide +kernel
theorem dX2_hearFromNext_35 : decode cX2_hearFromNext 35 = .ok (.goto 17, 3) := by decide +kernel
theorem dX2_hearFromNext_38 : decode cX2_hearFromNext 38 = .ok (.aload_n 0, 1) := by decide +kernel
theorem dX2_hearFromNext_39 : decode cX2_hearFromNext 39 = .ok (.getfield 9, 3) := by decide +kernel
theorem dX2_hearFromNext_42 : decode cX2_hearFromNext 42 = .ok (.iload_n 1, 1) := by decide +kernel
theorem dX2_hearFromNext_43 : decode cX2_hearFromNext 43 = .ok (.iload_n 2, 1) := by decide +kernel
theorem dX2_hearFromNext_44 : decode cX2_hearFromNext 44 = .ok (.iastore, 1) := by decide +kernel
theorem dX2_hearFromNext_45 : decode cX2_hearFromNext 45 = .ok (.aload_n 0, 1) := by decide +kernel
theorem dX2_hearFromNext_46 : decode cX2_hearFromNext 46 = .ok (.getfield 24, 3) := by decide +kernel
theorem dX2_hearFromNext_49 : decode cX2_hearFromNext 49 = .ok (.iload_n 1, 1) := by decide +kernel
theorem dX2_hearFromNext_50 : decode cX2_hearFromNext 50 = .ok (.iconst 1, 1) := by decide +kernel
theorem dX2_hearFromNext_51 : decode cX2_hearFromNext 51 = .ok (.bastore, 1) := by decide +kernel
theorem dX2_hearFromNext_52 : decode cX2_hearFromNext 52 = .ok (.return_, 1) := by decide +kernel
theorem dX2_adopt_0 : decode cX2_adopt 0 = .ok (.aload_n 0, 1) := by decide +kernel
theorem dX2_adopt_1 : decode cX2_adopt 1 = .ok (.getfield 9, 3) := by decide +kernel
theorem dX2_adopt_4 : decode cX2_adopt 4 = .ok (.iload_n 1, 1) := by decide +kernel
theorem dX2_adopt_5 : decode cX2_adopt 5 = .ok (.iload_n 2, 1) := by decide +kernel
theorem dX2_adopt_6 : decode cX2_adopt 6 = .ok (.iastore, 1) := by decide +kernel
theorem dX2_adopt_7 : decode cX2_adopt 7 = .ok (.aload_n 0, 1) := by decide +kernel
theorem dX2_adopt_8 : decode cX2_adopt 8 = .ok (.getfield 15, 3) := by decide +kernel
theorem dX2_adopt_11 : decode cX2_adopt 11 = .ok (.iload_n 1, 1) := by decide +kernel
theorem dX2_adopt_12 : decode cX2_adopt 12 = .ok (.iload_n 3, 1) := by decide +kernel
theorem dX2_adopt_13 : decode cX2_adopt 13 = .ok (.iastore, 1) := by decide +kernel
theorem dX2_adopt_14 : decode cX2_adopt 14 = .ok (.aload_n 0, 1) := by decide +kernel
theorem dX2_adopt_15 : decode cX2_adopt 15 = .ok (.getfield 18, 3) := by decide +kernel
theorem dX2_adopt_18 : decode cX2_adopt 18 = .ok (.iload_n 1, 1) := by decide +kernel
theorem dX2_adopt_19 : decode cX2_adopt 19 = .ok (.iconst 0, 1) := by decide +kernel
theorem dX2_adopt_20 : decode cX2_adopt 20 = .ok (.iastore, 1) := by decide +kernel
theorem dX2_adopt_21 : decode cX2_adopt 21 = .ok (.aload_n 0, 1) := by decide +kernel
theorem dX2_adopt_22 : decode cX2_adopt 22 = .ok (.getfield 21, 3) := by decide +kernel
theorem dX2_adopt_25 : decode cX2_adopt 25 = .ok (.iload_n 1, 1) := by decide +kernel
theorem dX2_adopt_26 : decode cX2_adopt 26 = .ok (.iconst 0, 1) := by decide +kernel
theorem dX2_adopt_27 : decode cX2_adopt 27 = .ok (.iastore, 1) := by decide +kernel
theorem dX2_adopt_28 : decode cX2_adopt 28 = .ok (.aload_n 0, 1) := by decide +kernel
theorem dX2_adopt_29 : decode cX2_adopt 29 = .ok (.getfield 24, 3) := by decide +kernel
theorem dX2_adopt_32 : decode cX2_adopt 32 = .ok (.iload_n 1, 1) := by decide +kernel
theorem dX2_adopt_33 : decode cX2_adopt 33 = .ok (.iconst 1, 1) := by decide +kernel
theorem dX2_adopt_34 : decode cX2_adopt 34 = .ok (.bastore, 1) := by decide +kernel
theorem dX2_adopt_35 : decode cX2_adopt 35 = .ok (.return_, 1) := by decide +kernel
theorem dX2_becomeGone_0 : decode cX2_becomeGone 0 = .ok (.aload_n 0, 1) := by decide +kernel
theorem dX2_becomeGone_1 : decode cX2_becomeGone 1 = .ok (.getfield 9, 3) := by decide +kernel
theorem dX2_becomeGone_4 : decode cX2_becomeGone 4 = .ok (.iload_n 1, 1) := by decide +kernel
theorem dX2_becomeGone_5 : decode cX2_becomeGone 5 = .ok (.bipush 16, 2) := by decide +kernel
theorem dX2_becomeGone_7 : decode cX2_becomeGone 7 = .ok (.iastore, 1) := by decide +kernel
theorem dX2_becomeGone_8 : decode cX2_becomeGone 8 = .ok (.aload_n 0, 1) := by decide +kernel
theorem dX2_becomeGone_9 : decode cX2_becomeGone 9 = .ok (.getfield 18, 3) := by decide +kernel
theorem dX2_becomeGone_12 : decode cX2_becomeGone 12 = .ok (.iload_n 1, 1) := by decide +kernel
theorem dX2_becomeGone_13 : decode cX2_becomeGone 13 = .ok (.iconst 0, 1) := by decide +kernel
theorem dX2_becomeGone_14 : decode cX2_becomeGone 14 = .ok (.iastore, 1) := by decide +kernel
theorem dX2_becomeGone_15 : decode cX2_becomeGone 15 = .ok (.aload_n 0, 1) := by decide +kernel
theorem dX2_becomeGone_16 : decode cX2_becomeGone 16 = .ok (.getfield 21, 3) := by decide +kernel
theorem dX2_becomeGone_19 : decode cX2_becomeGone 19 = .ok (.iload_n 1, 1) := by decide +kernel
theorem dX2_becomeGone_20 : decode cX2_becomeGone 20 = .ok (.bipush 20, 2) := by decide +kernel
theorem dX2_becomeGone_22 : decode cX2_becomeGone 22 = .ok (.iastore, 1) := by decide +kernel
theorem dX2_becomeGone_23 : decode cX2_becomeGone 23 = .ok (.aload_n 0, 1) := by decide +kernel
theorem dX2_becomeGone_24 : decode cX2_becomeGone 24 = .ok (.getfield 24, 3) := by decide +kernel
theorem dX2_becomeGone_27 : decode cX2_becomeGone 27 = .ok (.iload_n 1, 1) := by decide +kernel
theorem dX2_becomeGone_28 : decode cX2_becomeGone 28 = .ok (.iconst 1, 1) := by decide +kernel
theorem dX2_becomeGone_29 : decode cX2_becomeGone 29 = .ok (.bastore, 1) := by decide +kernel
theorem dX2_becomeGone_30 : decode cX2_becomeGone 30 = .ok (.return_, 1) := by decide +kernel
theorem dX2_forget_0 : decode cX2_forget 0 = .ok (.aload_n 0, 1) := by decide +kernel
theorem dX2_forget_1 : decode cX2_forget 1 = .ok (.getfield 9, 3) := by decide +kernel
theorem dX2_forget_4 : decode cX2_forget 4 = .ok (.iload_n 1, 1) := by decide +kernel
theorem dX2_forget_5 : decode cX2_forget 5 = .ok (.iconst (-1), 1) := by decide +kernel
theorem dX2_forget_6 : decode cX2_forget 6 = .ok (.iastore, 1) := by decide +kernel
theorem dX2_forget_7 : decode cX2_forget 7 = .ok (.aload_n 0, 1) := by decide +kernel
theorem dX2_forget_8 : decode cX2_forget 8 = .ok (.getfield 24, 3) := by decide +kernel
theorem dX2_forget_11 : decode cX2_forget 11 = .ok (.iload_n 1, 1) := by decide +kernel
theorem dX2_forget_12 : decode cX2_forget 12 = .ok (.iconst 0, 1) := by decide +kernel
theorem dX2_forget_13 : decode cX2_forget 13 = .ok (.bastore, 1) := by decide +kernel
theorem dX2_forget_14 : decode cX2_forget 14 = .ok (.return_, 1) := by decide +kernel
theorem dX2_forgetAll_0 : decode cX2_forgetAll 0 = .ok (.iconst 0, 1) := by decide +kernel
theorem dX2_forgetAll_1 : decode cX2_forgetAll 1 = .ok (.istore_n 1, 1) := by decide +kernel
theorem dX2_forgetAll_2 : decode cX2_forgetAll 2 = .ok (.iload_n 1, 1) := by decide +kernel
theorem dX2_forgetAll_3 : decode cX2_forgetAll 3 = .ok (.bipush 8, 2) := by decide +kernel
theorem dX2_forgetAll_5 : decode cX2_forgetAll 5 = .ok (.if_icmp .ge 14, 3) := by decide +kernel
theorem dX2_forgetAll_8 : decode cX2_forgetAll 8 = .ok (.aload_n 0, 1) := by decide +kernel
theorem dX2_forgetAll_9 : decode cX2_forgetAll 9 = .ok (.iload_n 1, 1) := by decide +kernel
theorem dX2_forgetAll_10 : decode cX2_forgetAll 10 = .ok (.invokevirtual 56, 3) := by decide +kernel
theorem dX2_forgetAll_13 : decode cX2_forgetAll 13 = .ok (.iinc 1 1, 3) := by decide +kernel
theorem dX2_forgetAll_16 : decode cX2_forgetAll 16 = .ok (.goto (-14), 3) := by decide +kernel
theorem dX2_forgetAll_19 : decode cX2_forgetAll 19 = .ok (.return_, 1) := by decide +kernel
theorem dX2_loseNext_0 : decode cX2_loseNext 0 = .ok (.iconst 0, 1) := by decide +kernel
theorem dX2_loseNext_1 : decode cX2_loseNext 1 = .ok (.istore_n 2, 1) := by decide +kernel
theorem dX2_loseNext_2 : decode cX2_loseNext 2 = .ok (.iconst 0, 1) := by decide +kernel
theorem dX2_loseNext_3 : decode cX2_loseNext 3 = .ok (.istore_n 3, 1) := by decide +kernel
theorem dX2_loseNext_4 : decode cX2_loseNext 4 = .ok (.iload_n 3, 1) := by decide +kernel
theorem dX2_loseNext_5 : decode cX2_loseNext 5 = .ok (.bipush 8, 2) := by decide +kernel
theorem dX2_loseNext_7 : decode cX2_loseNext 7 = .ok (.if_icmp .ge 44, 3) := by decide +kernel
theorem dX2_loseNext_10 : decode cX2_loseNext 10 = .ok (.aload_n 0, 1) := by decide +kernel
theorem dX2_loseNext_11 : decode cX2_loseNext 11 = .ok (.iload_n 3, 1) := by decide +kernel
theorem dX2_loseNext_12 : decode cX2_loseNext 12 = .ok (.invokevirtual 59, 3) := by decide +kernel
theorem dX2_loseNext_15 : decode cX2_loseNext 15 = .ok (.ifCond .eq 30, 3) := by decide +kernel
theorem dX2_loseNext_18 : decode cX2_loseNext 18 = .ok (.aload_n 0, 1) := by decide +kernel
theorem dX2_loseNext_19 : decode cX2_loseNext 19 = .ok (.getfield 15, 3) := by decide +kernel
theorem dX2_loseNext_22 : decode cX2_loseNext 22 = .ok (.iload_n 3, 1) := by decide +kernel
theorem dX2_loseNext_23 : decode cX2_loseNext 23 = .ok (.iaload, 1) := by decide +kernel
theorem dX2_loseNext_24 : decode cX2_loseNext 24 = .ok (.iload_n 1, 1) := by decide +kernel
theorem dX2_loseNext_25 : decode cX2_loseNext 25 = .ok (.if_icmp .ne 20, 3) := by decide +kernel
theorem dX2_loseNext_28 : decode cX2_loseNext 28 = .ok (.aload_n 0, 1) := by decide +kernel
theorem dX2_loseNext_29 : decode cX2_loseNext 29 = .ok (.getfield 21, 3) := by decide +kernel
theorem dX2_loseNext_32 : decode cX2_loseNext 32 = .ok (.iload_n 3, 1) := by decide +kernel
theorem dX2_loseNext_33 : decode cX2_loseNext 33 = .ok (.iaload, 1) := by decide +kernel
theorem dX2_loseNext_34 : decode cX2_loseNext 34 = .ok (.ifCond .ne 11, 3) := by decide +kernel
theorem dX2_loseNext_37 : decode cX2_loseNext 37 = .ok (.aload_n 0, 1) := by decide +kernel
theorem dX2_loseNext_38 : decode cX2_loseNext 38 = .ok (.iload_n 3, 1) := by decide +kernel
theorem dX2_loseNext_39 : decode cX2_loseNext 39 = .ok (.invokevirtual 52, 3) := by decide +kernel
theorem dX2_loseNext_42 : decode cX2_loseNext 42 = .ok (.iinc 2 1, 3) := by decide +kernel
theorem dX2_loseNext_45 : decode cX2_loseNext 45 = .ok (.iinc 3 1, 3) := by decide +kernel
theorem dX2_loseNext_48 : decode cX2_loseNext 48 = .ok (.goto (-44), 3) := by decide +kernel
theorem dX2_loseNext_51 : decode cX2_loseNext 51 = .ok (.iload_n 2, 1) := by decide +kernel
theorem dX2_loseNext_52 : decode cX2_loseNext 52 = .ok (.ireturn, 1) := by decide +kernel
theorem dX2_growOlder_0 : decode cX2_growOlder 0 = .ok (.iconst 0, 1) := by decide +kernel
theorem dX2_growOlder_1 : decode cX2_growOlder 1 = .ok (.istore_n 1, 1) := by decide +kernel
theorem dX2_growOlder_2 : decode cX2_growOlder 2 = .ok (.iload_n 1, 1) := by decide +kernel
theorem dX2_growOlder_3 : decode cX2_growOlder 3 = .ok (.bipush 8, 2) := by decide +kernel
theorem dX2_growOlder_5 : decode cX2_growOlder 5 = .ok (.if_icmp .ge 22, 3) := by decide +kernel
theorem dX2_growOlder_8 : decode cX2_growOlder 8 = .ok (.aload_n 0, 1) := by decide +kernel
theorem dX2_growOlder_9 : decode cX2_growOlder 9 = .ok (.iload_n 1, 1) := by decide +kernel
theorem dX2_growOlder_10 : decode cX2_growOlder 10 = .ok (.invokevirtual 34, 3) := by decide +kernel
theorem dX2_growOlder_13 : decode cX2_growOlder 13 = .ok (.ifCond .eq 8, 3) := by decide +kernel
theorem dX2_growOlder_16 : decode cX2_growOlder 16 = .ok (.aload_n 0, 1) := by decide +kernel
theorem dX2_growOlder_17 : decode cX2_growOlder 17 = .ok (.iload_n 1, 1) := by decide +kernel
theorem dX2_growOlder_18 : decode cX2_growOlder 18 = .ok (.invokevirtual 62, 3) := by decide +kernel
theorem dX2_growOlder_21 : decode cX2_growOlder 21 = .ok (.iinc 1 1, 3) := by decide +kernel
theorem dX2_growOlder_24 : decode cX2_growOlder 24 = .ok (.goto (-22), 3) := by decide +kernel
theorem dX2_growOlder_27 : decode cX2_growOlder 27 = .ok (.return_, 1) := by decide +kernel
theorem dX2_ageRoute_0 : decode cX2_ageRoute 0 = .ok (.aload_n 0, 1) := by decide +kernel
theorem dX2_ageRoute_1 : decode cX2_ageRoute 1 = .ok (.getfield 18, 3) := by decide +kernel
theorem dX2_ageRoute_4 : decode cX2_ageRoute 4 = .ok (.iload_n 1, 1) := by decide +kernel
theorem dX2_ageRoute_5 : decode cX2_ageRoute 5 = .ok (.dup2, 1) := by decide +kernel
theorem dX2_ageRoute_6 : decode cX2_ageRoute 6 = .ok (.iaload, 1) := by decide +kernel
theorem dX2_ageRoute_7 : decode cX2_ageRoute 7 = .ok (.iconst 1, 1) := by decide +kernel
theorem dX2_ageRoute_8 : decode cX2_ageRoute 8 = .ok (.iadd, 1) := by decide +kernel
theorem dX2_ageRoute_9 : decode cX2_ageRoute 9 = .ok (.iastore, 1) := by decide +kernel
theorem dX2_ageRoute_10 : decode cX2_ageRoute 10 = .ok (.aload_n 0, 1) := by decide +kernel
theorem dX2_ageRoute_11 : decode cX2_ageRoute 11 = .ok (.getfield 21, 3) := by decide +kernel
theorem dX2_ageRoute_14 : decode cX2_ageRoute 14 = .ok (.iload_n 1, 1) := by decide +kernel
theorem dX2_ageRoute_15 : decode cX2_ageRoute 15 = .ok (.iaload, 1) := by decide +kernel
theorem dX2_ageRoute_16 : decode cX2_ageRoute 16 = .ok (.ifCond .le 13, 3) := by decide +kernel
theorem dX2_ageRoute_19 : decode cX2_ageRoute 19 = .ok (.aload_n 0, 1) := by decide +kernel
theorem dX2_ageRoute_20 : decode cX2_ageRoute 20 = .ok (.getfield 21, 3) := by decide +kernel
theorem dX2_ageRoute_23 : decode cX2_ageRoute 23 = .ok (.iload_n 1, 1) := by decide +kernel
theorem dX2_ageRoute_24 : decode cX2_ageRoute 24 = .ok (.dup2, 1) := by decide +kernel
theorem dX2_ageRoute_25 : decode cX2_ageRoute 25 = .ok (.iaload, 1) := by decide +kernel
theorem dX2_ageRoute_26 : decode cX2_ageRoute 26 = .ok (.iconst 1, 1) := by decide +kernel
theorem dX2_ageRoute_27 : decode cX2_ageRoute 27 = .ok (.isub, 1) := by decide +kernel
theorem dX2_ageRoute_28 : decode cX2_ageRoute 28 = .ok (.iastore, 1) := by decide +kernel
theorem dX2_ageRoute_29 : decode cX2_ageRoute 29 = .ok (.aload_n 0, 1) := by decide +kernel
theorem dX2_ageRoute_30 : decode cX2_ageRoute 30 = .ok (.getfield 9, 3) := by decide +kernel
theorem dX2_ageRoute_33 : decode cX2_ageRoute 33 = .ok (.iload_n 1, 1) := by decide +kernel
theorem dX2_ageRoute_34 : decode cX2_ageRoute 34 = .ok (.iaload, 1) := by decide +kernel
theorem dX2_ageRoute_35 : decode cX2_ageRoute 35 = .ok (.bipush 16, 2) := by decide +kernel
theorem dX2_ageRoute_37 : decode cX2_ageRoute 37 = .ok (.if_icmp .ge 22, 3) := by decide +kernel
theorem dX2_ageRoute_40 : decode cX2_ageRoute 40 = .ok (.aload_n 0, 1) := by decide +kernel
theorem dX2_ageRoute_41 : decode cX2_ageRoute 41 = .ok (.getfield 18, 3) := by decide +kernel
theorem dX2_ageRoute_44 : decode cX2_ageRoute 44 = .ok (.iload_n 1, 1) := by decide +kernel
theorem dX2_ageRoute_45 : decode cX2_ageRoute 45 = .ok (.iaload, 1) := by decide +kernel
theorem dX2_ageRoute_46 : decode cX2_ageRoute 46 = .ok (.bipush 60, 2) := by decide +kernel
theorem dX2_ageRoute_48 : decode cX2_ageRoute 48 = .ok (.if_icmp .lt 27, 3) := by decide +kernel
theorem dX2_ageRoute_51 : decode cX2_ageRoute 51 = .ok (.aload_n 0, 1) := by decide +kernel
theorem dX2_ageRoute_52 : decode cX2_ageRoute 52 = .ok (.iload_n 1, 1) := by decide +kernel
theorem dX2_ageRoute_53 : decode cX2_ageRoute 53 = .ok (.invokevirtual 52, 3) := by decide +kernel
theorem dX2_ageRoute_56 : decode cX2_ageRoute 56 = .ok (.goto 19, 3) := by decide +kernel
theorem dX2_ageRoute_59 : decode cX2_ageRoute 59 = .ok (.aload_n 0, 1) := by decide +kernel
theorem dX2_ageRoute_60 : decode cX2_ageRoute 60 = .ok (.getfield 18, 3) := by decide +kernel
theorem dX2_ageRoute_63 : decode cX2_ageRoute 63 = .ok (.iload_n 1, 1) := by decide +kernel
theorem dX2_ageRoute_64 : decode cX2_ageRoute 64 = .ok (.iaload, 1) := by decide +kernel
theorem dX2_ageRoute_65 : decode cX2_ageRoute 65 = .ok (.bipush 50, 2) := by decide +kernel
theorem dX2_ageRoute_67 : decode cX2_ageRoute 67 = .ok (.if_icmp .lt 8, 3) := by decide +kernel
theorem dX2_ageRoute_70 : decode cX2_ageRoute 70 = .ok (.aload_n 0, 1) := by decide +kernel
theorem dX2_ageRoute_71 : decode cX2_ageRoute 71 = .ok (.iload_n 1, 1) := by decide +kernel
theorem dX2_ageRoute_72 : decode cX2_ageRoute 72 = .ok (.invokevirtual 56, 3) := by decide +kernel
theorem dX2_ageRoute_75 : decode cX2_ageRoute 75 = .ok (.return_, 1) := by decide +kernel
theorem dX2_hasChanges_0 : decode cX2_hasChanges 0 = .ok (.iconst 0, 1) := by decide +kernel
theorem dX2_hasChanges_1 : decode cX2_hasChanges 1 = .ok (.istore_n 1, 1) := by decide +kernel
theorem dX2_hasChanges_2 : decode cX2_hasChanges 2 = .ok (.iload_n 1, 1) := by decide +kernel
theorem dX2_hasChanges_3 : decode cX2_hasChanges 3 = .ok (.bipush 8, 2) := by decide +kernel
theorem dX2_hasChanges_5 : decode cX2_hasChanges 5 = .ok (.if_icmp .ge 20, 3) := by decide +kernel
theorem dX2_hasChanges_8 : decode cX2_hasChanges 8 = .ok (.aload_n 0, 1) := by decide +kernel
theorem dX2_hasChanges_9 : decode cX2_hasChanges 9 = .ok (.getfield 24, 3) := by decide +kernel
theorem dX2_hasChanges_12 : decode cX2_hasChanges 12 = .ok (.iload_n 1, 1) := by decide +kernel
theorem dX2_hasChanges_13 : decode cX2_hasChanges 13 = .ok (.baload, 1) := by decide +kernel
theorem dX2_hasChanges_14 : decode cX2_hasChanges 14 = .ok (.ifCond .eq 5, 3) := by decide +kernel
theorem dX2_hasChanges_17 : decode cX2_hasChanges 17 = .ok (.iconst 1, 1) := by decide +kernel
theorem dX2_hasChanges_18 : decode cX2_hasChanges 18 = .ok (.ireturn, 1) := by decide +kernel
theorem dX2_hasChanges_19 : decode cX2_hasChanges 19 = .ok (.iinc 1 1, 3) := by decide +kernel
theorem dX2_hasChanges_22 : decode cX2_hasChanges 22 = .ok (.goto (-20), 3) := by decide +kernel
theorem dX2_hasChanges_25 : decode cX2_hasChanges 25 = .ok (.iconst 0, 1) := by decide +kernel
theorem dX2_hasChanges_26 : decode cX2_hasChanges 26 = .ok (.ireturn, 1) := by decide +kernel
theorem dX2_clearChanges_0 : decode cX2_clearChanges 0 = .ok (.iconst 0, 1) := by decide +kernel
theorem dX2_clearChanges_1 : decode cX2_clearChanges 1 = .ok (.istore_n 1, 1) := by decide +kernel
theorem dX2_clearChanges_2 : decode cX2_clearChanges 2 = .ok (.iload_n 1, 1) := by decide +kernel
theorem dX2_clearChanges_3 : decode cX2_clearChanges 3 = .ok (.bipush 8, 2) := by decide +kernel
theorem dX2_clearChanges_5 : decode cX2_clearChanges 5 = .ok (.if_icmp .ge 16, 3) := by decide +kernel
theorem dX2_clearChanges_8 : decode cX2_clearChanges 8 = .ok (.aload_n 0, 1) := by decide +kernel
theorem dX2_clearChanges_9 : decode cX2_clearChanges 9 = .ok (.getfield 24, 3) := by decide +kernel
theorem dX2_clearChanges_12 : decode cX2_clearChanges 12 = .ok (.iload_n 1, 1) := by decide +kernel
theorem dX2_clearChanges_13 : decode cX2_clearChanges 13 = .ok (.iconst 0, 1) := by decide +kernel
theorem dX2_clearChanges_14 : decode cX2_clearChanges 14 = .ok (.bastore, 1) := by decide +kernel
theorem dX2_clearChanges_15 : decode cX2_clearChanges 15 = .ok (.iinc 1 1, 3) := by decide +kernel
theorem dX2_clearChanges_18 : decode cX2_clearChanges 18 = .ok (.goto (-16), 3) := by decide +kernel
theorem dX2_clearChanges_21 : decode cX2_clearChanges 21 = .ok (.return_, 1) := by decide +kernel
theorem dX3_init_0 : decode cX3_init 0 = .ok (.aload_n 0, 1) := by decide +kernel
theorem dX3_init_1 : decode cX3_init 1 = .ok (.invokespecial 1, 3) := by decide +kernel
theorem dX3_init_4 : decode cX3_init 4 = .ok (.aload_n 0, 1) := by decide +kernel
theorem dX3_init_5 : decode cX3_init 5 = .ok (.bipush 64, 2) := by decide +kernel
theorem dX3_init_7 : decode cX3_init 7 = .ok (.newarray .boolean, 2) := by decide +kernel
theorem dX3_init_9 : decode cX3_init 9 = .ok (.putfield 9, 3) := by decide +kernel
theorem dX3_init_12 : decode cX3_init 12 = .ok (.aload_n 0, 1) := by decide +kernel
theorem dX3_init_13 : decode cX3_init 13 = .ok (.bipush 8, 2) := by decide +kernel
theorem dX3_init_15 : decode cX3_init 15 = .ok (.anewarray 13, 3) := by decide +kernel
theorem dX3_init_18 : decode cX3_init 18 = .ok (.putfield 15, 3) := by decide +kernel
theorem dX3_init_21 : decode cX3_init 21 = .ok (.aload_n 0, 1) := by decide +kernel
theorem dX3_init_22 : decode cX3_init 22 = .ok (.new 19, 3) := by decide +kernel
theorem dX3_init_25 : decode cX3_init 25 = .ok (.dup, 1) := by decide +kernel
theorem dX3_init_26 : decode cX3_init 26 = .ok (.invokespecial 21, 3) := by decide +kernel
theorem dX3_init_29 : decode cX3_init 29 = .ok (.putfield 22, 3) := by decide +kernel
theorem dX3_init_32 : decode cX3_init 32 = .ok (.aload_n 0, 1) := by decide +kernel
theorem dX3_init_33 : decode cX3_init 33 = .ok (.new 26, 3) := by decide +kernel
theorem dX3_init_36 : decode cX3_init 36 = .ok (.dup, 1) := by decide +kernel
theorem dX3_init_37 : decode cX3_init 37 = .ok (.invokespecial 28, 3) := by decide +kernel
theorem dX3_init_40 : decode cX3_init 40 = .ok (.putfield 29, 3) := by decide +kernel
theorem dX3_init_43 : decode cX3_init 43 = .ok (.aload_n 0, 1) := by decide +kernel
theorem dX3_init_44 : decode cX3_init 44 = .ok (.new 26, 3) := by decide +kernel
theorem dX3_init_47 : decode cX3_init 47 = .ok (.dup, 1) := by decide +kernel
theorem dX3_init_48 : decode cX3_init 48 = .ok (.invokespecial 28, 3) := by decide +kernel
theorem dX3_init_51 : decode cX3_init 51 = .ok (.putfield 33, 3) := by decide +kernel
theorem dX3_init_54 : decode cX3_init 54 = .ok (.iconst 0, 1) := by decide +kernel
theorem dX3_init_55 : decode cX3_init 55 = .ok (.istore_n 1, 1) := by decide +kernel
theorem dX3_init_56 : decode cX3_init 56 = .ok (.iload_n 1, 1) := by decide +kernel
theorem dX3_init_57 : decode cX3_init 57 = .ok (.bipush 8, 2) := by decide +kernel
theorem dX3_init_59 : decode cX3_init 59 = .ok (.if_icmp .ge 22, 3) := by decide +kernel
theorem dX3_init_62 : decode cX3_init 62 = .ok (.aload_n 0, 1) := by decide +kernel
theorem dX3_init_63 : decode cX3_init 63 = .ok (.getfield 15, 3) := by decide +kernel
theorem dX3_init_66 : decode cX3_init 66 = .ok (.iload_n 1, 1) := by decide +kernel
theorem dX3_init_67 : decode cX3_init 67 = .ok (.new 13, 3) := by decide +kernel
theorem dX3_init_70 : decode cX3_init 70 = .ok (.dup, 1) := by decide +kernel
theorem dX3_init_71 : decode cX3_init 71 = .ok (.invokespecial 36, 3) := by decide +kernel
theorem dX3_init_74 : decode cX3_init 74 = .ok (.aastore, 1) := by decide +kernel
theorem dX3_init_75 : decode cX3_init 75 = .ok (.iinc 1 1, 3) := by decide +kernel
theorem dX3_init_78 : decode cX3_init 78 = .ok (.goto (-22), 3) := by decide +kernel
theorem dX3_init_81 : decode cX3_init 81 = .ok (.return_, 1) := by decide +kernel
theorem dX3_link_0 : decode cX3_link 0 = .ok (.iload_n 1, 1) := by decide +kernel
theorem dX3_link_1 : decode cX3_link 1 = .ok (.iload_n 2, 1) := by decide +kernel
theorem dX3_link_2 : decode cX3_link 2 = .ok (.invokestatic 37, 3) := by decide +kernel
theorem dX3_link_5 : decode cX3_link 5 = .ok (.aload_n 0, 1) := by decide +kernel
theorem dX3_link_6 : decode cX3_link 6 = .ok (.iload_n 1, 1) := by decide +kernel
theorem dX3_link_7 : decode cX3_link 7 = .ok (.iload_n 2, 1) := by decide +kernel
theorem dX3_link_8 : decode cX3_link 8 = .ok (.invokevirtual 41, 3) := by decide +kernel
theorem dX3_link_11 : decode cX3_link 11 = .ok (.iload_n 3, 1) := by decide +kernel
theorem dX3_link_12 : decode cX3_link 12 = .ok (.if_icmp .ne 5, 3) := by decide +kernel
theorem dX3_link_15 : decode cX3_link 15 = .ok (.iconst 0, 1) := by decide +kernel
theorem dX3_link_16 : decode cX3_link 16 = .ok (.ireturn, 1) := by decide +kernel
theorem dX3_link_17 : decode cX3_link 17 = .ok (.aload_n 0, 1) := by decide +kernel
theorem dX3_link_18 : decode cX3_link 18 = .ok (.getfield 9, 3) := by decide +kernel
theorem dX3_link_21 : decode cX3_link 21 = .ok (.iload_n 1, 1) := by decide +kernel
theorem dX3_link_22 : decode cX3_link 22 = .ok (.bipush 8, 2) := by decide +kernel
theorem dX3_link_24 : decode cX3_link 24 = .ok (.imul, 1) := by decide +kernel
theorem dX3_link_25 : decode cX3_link 25 = .ok (.iload_n 2, 1) := by decide +kernel
theorem dX3_link_26 : decode cX3_link 26 = .ok (.iadd, 1) := by decide +kernel
theorem dX3_link_27 : decode cX3_link 27 = .ok (.iload_n 3, 1) := by decide +kernel
theorem dX3_link_28 : decode cX3_link 28 = .ok (.bastore, 1) := by decide +kernel
theorem dX3_link_29 : decode cX3_link 29 = .ok (.aload_n 0, 1) := by decide +kernel
theorem dX3_link_30 : decode cX3_link 30 = .ok (.getfield 9, 3) := by decide +kernel
theorem dX3_link_33 : decode cX3_link 33 = .ok (.iload_n 2, 1) := by decide +kernel
theorem dX3_link_34 : decode cX3_link 34 = .ok (.bipush 8, 2) := by decide +kernel
theorem dX3_link_36 : decode cX3_link 36 = .ok (.imul, 1) := by decide +kernel
theorem dX3_link_37 : decode cX3_link 37 = .ok (.iload_n 1, 1) := by decide +kernel
theorem dX3_link_38 : decode cX3_link 38 = .ok (.iadd, 1) := by decide +kernel
theorem dX3_link_39 : decode cX3_link 39 = .ok (.iload_n 3, 1) := by decide +kernel
theorem dX3_link_40 : decode cX3_link 40 = .ok (.bastore, 1) := by decide +kernel
theorem dX3_link_41 : decode cX3_link 41 = .ok (.aload_n 0, 1) := by decide +kernel
theorem dX3_link_42 : decode cX3_link 42 = .ok (.dup, 1) := by decide +kernel
theorem dX3_link_43 : decode cX3_link 43 = .ok (.getfield 45, 3) := by decide +kernel
theorem dX3_link_46 : decode cX3_link 46 = .ok (.iload_n 3, 1) := by decide +kernel
theorem dX3_link_47 : decode cX3_link 47 = .ok (.ifCond .eq 7, 3) := by decide +kernel
theorem dX3_link_50 : decode cX3_link 50 = .ok (.iconst 1, 1) := by decide +kernel
theorem dX3_link_51 : decode cX3_link 51 = .ok (.goto 4, 3) := by decide +kernel
theorem dX3_link_54 : decode cX3_link 54 = .ok (.iconst (-1), 1) := by decide +kernel
theorem dX3_link_55 : decode cX3_link 55 = .ok (.iadd, 1) := by decide +kernel
theorem dX3_link_56 : decode cX3_link 56 = .ok (.putfield 45, 3) := by decide +kernel
theorem dX3_link_59 : decode cX3_link 59 = .ok (.iconst 1, 1) := by decide +kernel
theorem dX3_link_60 : decode cX3_link 60 = .ok (.ireturn, 1) := by decide +kernel
theorem dX3_sees_0 : decode cX3_sees 0 = .ok (.iload_n 1, 1) := by decide +kernel
theorem dX3_sees_1 : decode cX3_sees 1 = .ok (.iload_n 2, 1) := by decide +kernel
theorem dX3_sees_2 : decode cX3_sees 2 = .ok (.invokestatic 37, 3) := by decide +kernel
theorem dX3_sees_5 : decode cX3_sees 5 = .ok (.aload_n 0, 1) := by decide +kernel
theorem dX3_sees_6 : decode cX3_sees 6 = .ok (.iload_n 1, 1) := by decide +kernel
theorem dX3_sees_7 : decode cX3_sees 7 = .ok (.iload_n 2, 1) := by decide +kernel
theorem dX3_sees_8 : decode cX3_sees 8 = .ok (.invokevirtual 41, 3) := by decide +kernel
theorem dX3_sees_11 : decode cX3_sees 11 = .ok (.ifCond .eq 13, 3) := by decide +kernel
theorem dX3_sees_14 : decode cX3_sees 14 = .ok (.new 49, 3) := by decide +kernel
theorem dX3_sees_17 : decode cX3_sees 17 = .ok (.dup, 1) := by decide +kernel
theorem dX3_sees_18 : decode cX3_sees 18 = .ok (.ldc 51, 2) := by decide +kernel
theorem dX3_sees_20 : decode cX3_sees 20 = .ok (.invokespecial 53, 3) := by decide +kernel
theorem dX3_sees_23 : decode cX3_sees 23 = .ok (.athrow, 1) := by decide +kernel
theorem dX3_sees_24 : decode cX3_sees 24 = .ok (.aload_n 0, 1) := by decide +kernel
theorem dX3_sees_25 : decode cX3_sees 25 = .ok (.getfield 15, 3) := by decide +kernel
theorem dX3_sees_28 : decode cX3_sees 28 = .ok (.iload_n 1, 1) := by decide +kernel
theorem dX3_sees_29 : decode cX3_sees 29 = .ok (.aaload, 1) := by decide +kernel
theorem dX3_sees_30 : decode cX3_sees 30 = .ok (.iload_n 2, 1) := by decide +kernel
theorem dX3_sees_31 : decode cX3_sees 31 = .ok (.invokevirtual 56, 3) := by decide +kernel
theorem dX3_sees_34 : decode cX3_sees 34 = .ok (.ireturn, 1) := by decide +kernel
theorem dX3_restart_0 : decode cX3_restart 0 = .ok (.iload_n 1, 1) := by decide +kernel
theorem dX3_restart_1 : decode cX3_restart 1 = .ok (.invokestatic 60, 3) := by decide +kernel
theorem dX3_restart_4 : decode cX3_restart 4 = .ok (.aload_n 0, 1) := by decide +kernel
theorem dX3_restart_5 : decode cX3_restart 5 = .ok (.getfield 15, 3) := by decide +kernel
theorem dX3_restart_8 : decode cX3_restart 8 = .ok (.iload_n 1, 1) := by decide +kernel
theorem dX3_restart_9 : decode cX3_restart 9 = .ok (.aaload, 1) := by decide +kernel
theorem dX3_restart_10 : decode cX3_restart 10 = .ok (.invokevirtual 64, 3) := by decide +kernel
theorem dX3_restart_13 : decode cX3_restart 13 = .ok (.iconst 0, 1) := by decide +kernel
theorem dX3_restart_14 : decode cX3_restart 14 = .ok (.istore_n 2, 1) := by decide +kernel
theorem dX3_restart_15 : decode cX3_restart 15 = .ok (.iload_n 2, 1) := by decide +kernel
theorem dX3_restart_16 : decode cX3_restart 16 = .ok (.bipush 8, 2) := by decide +kernel
theorem dX3_restart_18 : decode cX3_restart 18 = .ok (.if_icmp .ge 51, 3) := by decide +kernel
theorem dX3_restart_21 : decode cX3_restart 21 = .ok (.aload_n 0, 1) := by decide +kernel
theorem dX3_restart_22 : decode cX3_restart 22 = .ok (.iload_n 1, 1) := by decide +kernel
theorem dX3_restart_23 : decode cX3_restart 23 = .ok (.iload_n 2, 1) := by decide +kernel
theorem dX3_restart_24 : decode cX3_restart 24 = .ok (.invokevirtual 41, 3) := by decide +kernel
theorem dX3_restart_27 : decode cX3_restart 27 = .ok (.ifCond .eq 36, 3) := by decide +kernel
theorem dX3_restart_30 : decode cX3_restart 30 = .ok (.aload_n 0, 1) := by decide +kernel
theorem dX3_restart_31 : decode cX3_restart 31 = .ok (.getfield 29, 3) := by decide +kernel
theorem dX3_restart_34 : decode cX3_restart 34 = .ok (.iload_n 1, 1) := by decide +kernel
theorem dX3_restart_35 : decode cX3_restart 35 = .ok (.iload_n 2, 1) := by decide +kernel
theorem dX3_restart_36 : decode cX3_restart 36 = .ok (.ldc 67, 2) := by decide +kernel
theorem dX3_restart_38 : decode cX3_restart 38 = .ok (.invokevirtual 68, 3) := by decide +kernel
theorem dX3_restart_41 : decode cX3_restart 41 = .ok (.aload_n 0, 1) := by decide +kernel
theorem dX3_restart_42 : decode cX3_restart 42 = .ok (.getfield 29, 3) := by decide +kernel
theorem dX3_restart_45 : decode cX3_restart 45 = .ok (.iconst 0, 1) := by decide +kernel
theorem dX3_restart_46 : decode cX3_restart 46 = .ok (.iconst 0, 1) := by decide +kernel
theorem dX3_restart_47 : decode cX3_restart 47 = .ok (.bipush 16, 2) := by decide +kernel
theorem dX3_restart_49 : decode cX3_restart 49 = .ok (.invokevirtual 72, 3) := by decide +kernel
theorem dX3_restart_52 : decode cX3_restart 52 = .ok (.aload_n 0, 1) := by decide +kernel
theorem dX3_restart_53 : decode cX3_restart 53 = .ok (.getfield 22, 3) := by decide +kernel
theorem dX3_restart_56 : decode cX3_restart 56 = .ok (.aload_n 0, 1) := by decide +kernel
theorem dX3_restart_57 : decode cX3_restart 57 = .ok (.getfield 29, 3) := by decide +kernel
theorem dX3_restart_60 : decode cX3_restart 60 = .ok (.invokevirtual 75, 3) := by decide +kernel
theorem dX3_restart_63 : decode cX3_restart 63 = .ok (.iinc 2 1, 3) := by decide +kernel
theorem dX3_restart_66 : decode cX3_restart 66 = .ok (.goto (-51), 3) := by decide +kernel
theorem dX3_restart_69 : decode cX3_restart 69 = .ok (.aload_n 0, 1) := by decide +kernel
theorem dX3_restart_70 : decode cX3_restart 70 = .ok (.getfield 22, 3) := by decide +kernel
theorem dX3_restart_73 : decode cX3_restart 73 = .ok (.getfield 79, 3) := by decide +kernel
theorem dX3_restart_76 : decode cX3_restart 76 = .ok (.ireturn, 1) := by decide +kernel
theorem dX3_ask_0 : decode cX3_ask 0 = .ok (.iload_n 1, 1) := by decide +kernel
theorem dX3_ask_1 : decode cX3_ask 1 = .ok (.iload_n 2, 1) := by decide +kernel
theorem dX3_ask_2 : decode cX3_ask 2 = .ok (.invokestatic 37, 3) := by decide +kernel
theorem dX3_ask_5 : decode cX3_ask 5 = .ok (.iload_n 3, 1) := by decide +kernel
theorem dX3_ask_6 : decode cX3_ask 6 = .ok (.iconst 1, 1) := by decide +kernel
theorem dX3_ask_7 : decode cX3_ask 7 = .ok (.if_icmp .lt 10, 3) := by decide +kernel
theorem dX3_ask_10 : decode cX3_ask 10 = .ok (.iload_n 3, 1) := by decide +kernel
theorem dX3_ask_11 : decode cX3_ask 11 = .ok (.sipush 255, 3) := by decide +kernel
theorem dX3_ask_14 : decode cX3_ask 14 = .ok (.if_icmp .le 13, 3) := by decide +kernel
theorem dX3_ask_17 : decode cX3_ask 17 = .ok (.new 82, 3) := by decide +kernel
theorem dX3_ask_20 : decode cX3_ask 20 = .ok (.dup, 1) := by decide +kernel
theorem dX3_ask_21 : decode cX3_ask 21 = .ok (.ldc 84, 2) := by decide +kernel
theorem dX3_ask_23 : decode cX3_ask 23 = .ok (.invokespecial 86, 3) := by decide +kernel
theorem dX3_ask_26 : decode cX3_ask 26 = .ok (.athrow, 1) := by decide +kernel
theorem dX3_ask_27 : decode cX3_ask 27 = .ok (.aload_n 0, 1) := by decide +kernel
theorem dX3_ask_28 : decode cX3_ask 28 = .ok (.iload_n 1, 1) := by decide +kernel
theorem dX3_ask_29 : decode cX3_ask 29 = .ok (.iload_n 2, 1) := by decide +kernel
theorem dX3_ask_30 : decode cX3_ask 30 = .ok (.invokevirtual 41, 3) := by decide +kernel
theorem dX3_ask_33 : decode cX3_ask 33 = .ok (.ifCond .ne 13, 3) := by decide +kernel
theorem dX3_ask_36 : decode cX3_ask 36 = .ok (.new 49, 3) := by decide +kernel
theorem dX3_ask_39 : decode cX3_ask 39 = .ok (.dup, 1) := by decide +kernel
theorem dX3_ask_40 : decode cX3_ask 40 = .ok (.ldc 87, 2) := by decide +kernel
theorem dX3_ask_42 : decode cX3_ask 42 = .ok (.invokespecial 53, 3) := by decide +kernel
theorem dX3_ask_45 : decode cX3_ask 45 = .ok (.athrow, 1) := by decide +kernel
theorem dX3_ask_46 : decode cX3_ask 46 = .ok (.aload_n 0, 1) := by decide +kernel
theorem dX3_ask_47 : decode cX3_ask 47 = .ok (.getfield 29, 3) := by decide +kernel
theorem dX3_ask_50 : decode cX3_ask 50 = .ok (.iload_n 1, 1) := by decide +kernel
theorem dX3_ask_51 : decode cX3_ask 51 = .ok (.iload_n 2, 1) := by decide +kernel
theorem dX3_ask_52 : decode cX3_ask 52 = .ok (.ldc 67, 2) := by decide +kernel
theorem dX3_ask_54 : decode cX3_ask 54 = .ok (.invokevirtual 68, 3) := by decide +kernel
theorem dX3_ask_57 : decode cX3_ask 57 = .ok (.iconst 0, 1) := by decide +kernel
theorem dX3_ask_58 : decode cX3_ask 58 = .ok (.istore 4, 2) := by decide +kernel
theorem dX3_ask_60 : decode cX3_ask 60 = .ok (.iload 4, 2) := by decide +kernel
theorem dX3_ask_62 : decode cX3_ask 62 = .ok (.bipush 8, 2) := by decide +kernel
theorem dX3_ask_64 : decode cX3_ask 64 = .ok (.if_icmp .ge 31, 3) := by decide +kernel
theorem dX3_ask_67 : decode cX3_ask 67 = .ok (.iload_n 3, 1) := by decide +kernel
theorem dX3_ask_68 : decode cX3_ask 68 = .ok (.iload 4, 2) := by decide +kernel
theorem dX3_ask_70 : decode cX3_ask 70 = .ok (.ishr, 1) := by decide +kernel
theorem dX3_ask_71 : decode cX3_ask 71 = .ok (.iconst 1, 1) := by decide +kernel
theorem dX3_ask_72 : decode cX3_ask 72 = .ok (.iand, 1) := by decide +kernel
theorem dX3_ask_73 : decode cX3_ask 73 = .ok (.iconst 1, 1) := by decide +kernel
theorem dX3_ask_74 : decode cX3_ask 74 = .ok (.if_icmp .ne 15, 3) := by decide +kernel
theorem dX3_ask_77 : decode cX3_ask 77 = .ok (.aload_n 0, 1) := by decide +kernel
theorem dX3_ask_78 : decode cX3_ask 78 = .ok (.getfield 29, 3) := by decide +kernel
theorem dX3_ask_81 : decode cX3_ask 81 = .ok (.iconst 2, 1) := by decide +kernel
theorem dX3_ask_82 : decode cX3_ask 82 = .ok (.iload 4, 2) := by decide +kernel
theorem dX3_ask_84 : decode cX3_ask 84 = .ok (.bipush 16, 2) := by decide +kernel
theorem dX3_ask_86 : decode cX3_ask 86 = .ok (.invokevirtual 72, 3) := by decide +kernel
theorem dX3_ask_89 : decode cX3_ask 89 = .ok (.iinc 4 1, 3) := by decide +kernel
theorem dX3_ask_92 : decode cX3_ask 92 = .ok (.goto (-32), 3) := by decide +kernel
theorem dX3_ask_95 : decode cX3_ask 95 = .ok (.aload_n 0, 1) := by decide +kernel
theorem dX3_ask_96 : decode cX3_ask 96 = .ok (.getfield 22, 3) := by decide +kernel
theorem dX3_ask_99 : decode cX3_ask 99 = .ok (.aload_n 0, 1) := by decide +kernel
theorem dX3_ask_100 : decode cX3_ask 100 = .ok (.getfield 29, 3) := by decide +kernel
theorem dX3_ask_103 : decode cX3_ask 103 = .ok (.invokevirtual 75, 3) := by decide +kernel
theorem dX3_ask_106 : decode cX3_ask 106 = .ok (.aload_n 0, 1) := by decide +kernel
theorem dX3_ask_107 : decode cX3_ask 107 = .ok (.getfield 22, 3) := by decide +kernel
theorem dX3_ask_110 : decode cX3_ask 110 = .ok (.getfield 79, 3) := by decide +kernel
theorem dX3_ask_113 : decode cX3_ask 113 = .ok (.ireturn, 1) := by decide +kernel
theorem dX3_tick_0 : decode cX3_tick 0 = .ok (.iload_n 1, 1) := by decide +kernel
theorem dX3_tick_1 : decode cX3_tick 1 = .ok (.ifCond .lt 10, 3) := by decide +kernel
theorem dX3_tick_4 : decode cX3_tick 4 = .ok (.iload_n 1, 1) := by decide +kernel
theorem dX3_tick_5 : decode cX3_tick 5 = .ok (.sipush 1000, 3) := by decide +kernel
theorem dX3_tick_8 : decode cX3_tick 8 = .ok (.if_icmp .le 13, 3) := by decide +kernel
theorem dX3_tick_11 : decode cX3_tick 11 = .ok (.new 82, 3) := by decide +kernel
theorem dX3_tick_14 : decode cX3_tick 14 = .ok (.dup, 1) := by decide +kernel
theorem dX3_tick_15 : decode cX3_tick 15 = .ok (.ldc 89, 2) := by decide +kernel
theorem dX3_tick_17 : decode cX3_tick 17 = .ok (.invokespecial 86, 3) := by decide +kernel
theorem dX3_tick_20 : decode cX3_tick 20 = .ok (.athrow, 1) := by decide +kernel
theorem dX3_tick_21 : decode cX3_tick 21 = .ok (.iconst 0, 1) := by decide +kernel
theorem dX3_tick_22 : decode cX3_tick 22 = .ok (.istore_n 3, 1) := by decide +kernel
theorem dX3_tick_23 : decode cX3_tick 23 = .ok (.iload_n 3, 1) := by decide +kernel
theorem dX3_tick_24 : decode cX3_tick 24 = .ok (.iload_n 1, 1) := by decide +kernel
theorem dX3_tick_25 : decode cX3_tick 25 = .ok (.if_icmp .ge 50, 3) := by decide +kernel
theorem dX3_tick_28 : decode cX3_tick 28 = .ok (.aload_n 0, 1) := by decide +kernel
theorem dX3_tick_29 : decode cX3_tick 29 = .ok (.invokevirtual 91, 3) := by decide +kernel
theorem dX3_tick_32 : decode cX3_tick 32 = .ok (.iconst 0, 1) := by decide +kernel
theorem dX3_tick_33 : decode cX3_tick 33 = .ok (.istore 4, 2) := by decide +kernel
theorem dX3_tick_35 : decode cX3_tick 35 = .ok (.iload_n 2, 1) := by decide +kernel
theorem dX3_tick_36 : decode cX3_tick 36 = .ok (.ifCond .eq 33, 3) := by decide +kernel
theorem dX3_tick_39 : decode cX3_tick 39 = .ok (.iload 4, 2) := by decide +kernel
theorem dX3_tick_41 : decode cX3_tick 41 = .ok (.sipush 1000, 3) := by decide +kernel
theorem dX3_tick_44 : decode cX3_tick 44 = .ok (.if_icmp .ge 25, 3) := by decide +kernel
theorem dX3_tick_47 : decode cX3_tick 47 = .ok (.aload_n 0, 1) := by decide +kernel
theorem dX3_tick_48 : decode cX3_tick 48 = .ok (.getfield 22, 3) := by decide +kernel
theorem dX3_tick_51 : decode cX3_tick 51 = .ok (.getfield 79, 3) := by decide +kernel
theorem dX3_tick_54 : decode cX3_tick 54 = .ok (.ifCond .le 15, 3) := by decide +kernel
theorem dX3_tick_57 : decode cX3_tick 57 = .ok (.aload_n 0, 1) := by decide +kernel
theorem dX3_tick_58 : decode cX3_tick 58 = .ok (.iconst 0, 1) := by decide +kernel
theorem dX3_tick_59 : decode cX3_tick 59 = .ok (.invokevirtual 94, 3) := by decide +kernel
theorem dX3_tick_62 : decode cX3_tick 62 = .ok (.pop, 1) := by decide +kernel
theorem dX3_tick_63 : decode cX3_tick 63 = .ok (.iinc 4 1, 3) := by decide +kernel
theorem dX3_tick_66 : decode cX3_tick 66 = .ok (.goto (-31), 3) := by decide +kernel
theorem dX3_tick_69 : decode cX3_tick 69 = .ok (.iinc 3 1, 3) := by decide +kernel
theorem dX3_tick_72 : decode cX3_tick 72 = .ok (.goto (-49), 3) := by decide +kernel
theorem dX3_tick_75 : decode cX3_tick 75 = .ok (.aload_n 0, 1) := by decide +kernel
theorem dX3_tick_76 : decode cX3_tick 76 = .ok (.getfield 22, 3) := by decide +kernel
theorem dX3_tick_79 : decode cX3_tick 79 = .ok (.getfield 79, 3) := by decide +kernel
theorem dX3_tick_82 : decode cX3_tick 82 = .ok (.ireturn, 1) := by decide +kernel
theorem dX3_deliver_0 : decode cX3_deliver 0 = .ok (.aload_n 0, 1) := by decide +kernel
theorem dX3_deliver_1 : decode cX3_deliver 1 = .ok (.iload_n 1, 1) := by decide +kernel
theorem dX3_deliver_2 : decode cX3_deliver 2 = .ok (.invokevirtual 98, 3) := by decide +kernel
theorem dX3_deliver_5 : decode cX3_deliver 5 = .ok (.aload_n 0, 1) := by decide +kernel
theorem dX3_deliver_6 : decode cX3_deliver 6 = .ok (.iload_n 1, 1) := by decide +kernel
theorem dX3_deliver_7 : decode cX3_deliver 7 = .ok (.invokevirtual 94, 3) := by decide +kernel
theorem dX3_deliver_10 : decode cX3_deliver 10 = .ok (.ireturn, 1) := by decide +kernel
theorem dX3_lose_0 : decode cX3_lose 0 = .ok (.aload_n 0, 1) := by decide +kernel
theorem dX3_lose_1 : decode cX3_lose 1 = .ok (.iload_n 1, 1) := by decide +kernel
theorem dX3_lose_2 : decode cX3_lose 2 = .ok (.invokevirtual 98, 3) := by decide +kernel
theorem dX3_lose_5 : decode cX3_lose 5 = .ok (.aload_n 0, 1) := by decide +kernel
theorem dX3_lose_6 : decode cX3_lose 6 = .ok (.getfield 22, 3) := by decide +kernel
theorem dX3_lose_9 : decode cX3_lose 9 = .ok (.iload_n 1, 1) := by decide +kernel
theorem dX3_lose_10 : decode cX3_lose 10 = .ok (.invokevirtual 101, 3) := by decide +kernel
theorem dX3_lose_13 : decode cX3_lose 13 = .ok (.aload_n 0, 1) := by decide +kernel
theorem dX3_lose_14 : decode cX3_lose 14 = .ok (.getfield 22, 3) := by decide +kernel
theorem dX3_lose_17 : decode cX3_lose 17 = .ok (.getfield 79, 3) := by decide +kernel
theorem dX3_lose_20 : decode cX3_lose 20 = .ok (.ireturn, 1) := by decide +kernel
theorem dX3_twice_0 : decode cX3_twice 0 = .ok (.aload_n 0, 1) := by decide +kernel
theorem dX3_twice_1 : decode cX3_twice 1 = .ok (.iload_n 1, 1) := by decide +kernel
theorem dX3_twice_2 : decode cX3_twice 2 = .ok (.invokevirtual 98, 3) := by decide +kernel
theorem dX3_twice_5 : decode cX3_twice 5 = .ok (.aload_n 0, 1) := by decide +kernel
theorem dX3_twice_6 : decode cX3_twice 6 = .ok (.getfield 22, 3) := by decide +kernel
theorem dX3_twice_9 : decode cX3_twice 9 = .ok (.aload_n 0, 1) := by decide +kernel
theorem dX3_twice_10 : decode cX3_twice 10 = .ok (.getfield 22, 3) := by decide +kernel
theorem dX3_twice_13 : decode cX3_twice 13 = .ok (.iload_n 1, 1) := by decide +kernel
theorem dX3_twice_14 : decode cX3_twice 14 = .ok (.invokevirtual 104, 3) := by decide +kernel
theorem dX3_twice_17 : decode cX3_twice 17 = .ok (.invokevirtual 75, 3) := by decide +kernel
theorem dX3_twice_20 : decode cX3_twice 20 = .ok (.aload_n 0, 1) := by decide +kernel
theorem dX3_twice_21 : decode cX3_twice 21 = .ok (.getfield 22, 3) := by decide +kernel
theorem dX3_twice_24 : decode cX3_twice 24 = .ok (.getfield 79, 3) := by decide +kernel
theorem dX3_twice_27 : decode cX3_twice 27 = .ok (.ireturn, 1) := by decide +kernel
theorem dX3_poke_0 : decode cX3_poke 0 = .ok (.aload_n 0, 1) := by decide +kernel
theorem dX3_poke_1 : decode cX3_poke 1 = .ok (.iload_n 1, 1) := by decide +kernel
theorem dX3_poke_2 : decode cX3_poke 2 = .ok (.invokevirtual 98, 3) := by decide +kernel
theorem dX3_poke_5 : decode cX3_poke 5 = .ok (.aload_n 0, 1) := by decide +kernel
theorem dX3_poke_6 : decode cX3_poke 6 = .ok (.getfield 22, 3) := by decide +kernel
theorem dX3_poke_9 : decode cX3_poke 9 = .ok (.iload_n 1, 1) := by decide +kernel
theorem dX3_poke_10 : decode cX3_poke 10 = .ok (.invokevirtual 104, 3) := by decide +kernel
theorem dX3_poke_13 : decode cX3_poke 13 = .ok (.astore 4, 2) := by decide +kernel
theorem dX3_poke_15 : decode cX3_poke 15 = .ok (.aload 4, 2) := by decide +kernel
theorem dX3_poke_17 : decode cX3_poke 17 = .ok (.iload_n 2, 1) := by decide +kernel
theorem dX3_poke_18 : decode cX3_poke 18 = .ok (.invokestatic 108, 3) := by decide +kernel
theorem dX3_poke_21 : decode cX3_poke 21 = .ok (.iload_n 3, 1) := by decide +kernel
theorem dX3_poke_22 : decode cX3_poke 22 = .ok (.ifCond .lt 10, 3) := by decide +kernel
theorem dX3_poke_25 : decode cX3_poke 25 = .ok (.iload_n 3, 1) := by decide +kernel
theorem dX3_poke_26 : decode cX3_poke 26 = .ok (.sipush 255, 3) := by decide +kernel
theorem dX3_poke_29 : decode cX3_poke 29 = .ok (.if_icmp .le 13, 3) := by decide +kernel
theorem dX3_poke_32 : decode cX3_poke 32 = .ok (.new 82, 3) := by decide +kernel
theorem dX3_poke_35 : decode cX3_poke 35 = .ok (.dup, 1) := by decide +kernel
theorem dX3_poke_36 : decode cX3_poke 36 = .ok (.ldc 112, 2) := by decide +kernel
theorem dX3_poke_38 : decode cX3_poke 38 = .ok (.invokespecial 86, 3) := by decide +kernel
theorem dX3_poke_41 : decode cX3_poke 41 = .ok (.athrow, 1) := by decide +kernel
theorem dX3_poke_42 : decode cX3_poke 42 = .ok (.aload 4, 2) := by decide +kernel
theorem dX3_poke_44 : decode cX3_poke 44 = .ok (.iload_n 2, 1) := by decide +kernel
theorem dX3_poke_45 : decode cX3_poke 45 = .ok (.invokevirtual 114, 3) := by decide +kernel
theorem dX3_poke_48 : decode cX3_poke 48 = .ok (.istore 5, 2) := by decide +kernel
theorem dX3_poke_50 : decode cX3_poke 50 = .ok (.aload 4, 2) := by decide +kernel
theorem dX3_poke_52 : decode cX3_poke 52 = .ok (.iload_n 2, 1) := by decide +kernel
theorem dX3_poke_53 : decode cX3_poke 53 = .ok (.iload_n 3, 1) := by decide +kernel
theorem dX3_poke_54 : decode cX3_poke 54 = .ok (.invokevirtual 117, 3) := by decide +kernel
theorem dX3_poke_57 : decode cX3_poke 57 = .ok (.iload 5, 2) := by decide +kernel
theorem dX3_poke_59 : decode cX3_poke 59 = .ok (.ireturn, 1) := by decide +kernel
theorem dX3_cut_0 : decode cX3_cut 0 = .ok (.aload_n 0, 1) := by decide +kernel
theorem dX3_cut_1 : decode cX3_cut 1 = .ok (.iload_n 1, 1) := by decide +kernel
theorem dX3_cut_2 : decode cX3_cut 2 = .ok (.invokevirtual 98, 3) := by decide +kernel
theorem dX3_cut_5 : decode cX3_cut 5 = .ok (.aload_n 0, 1) := by decide +kernel
theorem dX3_cut_6 : decode cX3_cut 6 = .ok (.getfield 22, 3) := by decide +kernel
theorem dX3_cut_9 : decode cX3_cut 9 = .ok (.iload_n 1, 1) := by decide +kernel
theorem dX3_cut_10 : decode cX3_cut 10 = .ok (.invokevirtual 104, 3) := by decide +kernel
theorem dX3_cut_13 : decode cX3_cut 13 = .ok (.astore_n 3, 1) := by decide +kernel
theorem dX3_cut_14 : decode cX3_cut 14 = .ok (.iload_n 2, 1) := by decide +kernel
theorem dX3_cut_15 : decode cX3_cut 15 = .ok (.ifCond .lt 11, 3) := by decide +kernel
theorem dX3_cut_18 : decode cX3_cut 18 = .ok (.iload_n 2, 1) := by decide +kernel
theorem dX3_cut_19 : decode cX3_cut 19 = .ok (.aload_n 3, 1) := by decide +kernel
theorem dX3_cut_20 : decode cX3_cut 20 = .ok (.getfield 120, 3) := by decide +kernel
theorem dX3_cut_23 : decode cX3_cut 23 = .ok (.if_icmp .le 13, 3) := by decide +kernel
theorem dX3_cut_26 : decode cX3_cut 26 = .ok (.new 82, 3) := by decide +kernel
theorem dX3_cut_29 : decode cX3_cut 29 = .ok (.dup, 1) := by decide +kernel
theorem dX3_cut_30 : decode cX3_cut 30 = .ok (.ldc 123, 2) := by decide +kernel
theorem dX3_cut_32 : decode cX3_cut 32 = .ok (.invokespecial 86, 3) := by decide +kernel
theorem dX3_cut_35 : decode cX3_cut 35 = .ok (.athrow, 1) := by decide +kernel
theorem dX3_cut_36 : decode cX3_cut 36 = .ok (.aload_n 3, 1) := by decide +kernel
theorem dX3_cut_37 : decode cX3_cut 37 = .ok (.iload_n 2, 1) := by decide +kernel
theorem dX3_cut_38 : decode cX3_cut 38 = .ok (.putfield 120, 3) := by decide +kernel
theorem dX3_cut_41 : decode cX3_cut 41 = .ok (.return_, 1) := by decide +kernel
theorem dX3_packet_0 : decode cX3_packet 0 = .ok (.aload_n 0, 1) := by decide +kernel
theorem dX3_packet_1 : decode cX3_packet 1 = .ok (.iload_n 1, 1) := by decide +kernel
theorem dX3_packet_2 : decode cX3_packet 2 = .ok (.invokevirtual 98, 3) := by decide +kernel
theorem dX3_packet_5 : decode cX3_packet 5 = .ok (.aload_n 0, 1) := by decide +kernel
theorem dX3_packet_6 : decode cX3_packet 6 = .ok (.getfield 22, 3) := by decide +kernel
theorem dX3_packet_9 : decode cX3_packet 9 = .ok (.iload_n 1, 1) := by decide +kernel
theorem dX3_packet_10 : decode cX3_packet 10 = .ok (.invokevirtual 104, 3) := by decide +kernel
theorem dX3_packet_13 : decode cX3_packet 13 = .ok (.astore_n 3, 1) := by decide +kernel
theorem dX3_packet_14 : decode cX3_packet 14 = .ok (.iload_n 2, 1) := by decide +kernel
theorem dX3_packet_15 : decode cX3_packet 15 = .ok (.bipush (-3), 2) := by decide +kernel
theorem dX3_packet_17 : decode cX3_packet 17 = .ok (.if_icmp .ne 8, 3) := by decide +kernel
theorem dX3_packet_20 : decode cX3_packet 20 = .ok (.aload_n 3, 1) := by decide +kernel
theorem dX3_packet_21 : decode cX3_packet 21 = .ok (.getfield 125, 3) := by decide +kernel
theorem dX3_packet_24 : decode cX3_packet 24 = .ok (.ireturn, 1) := by decide +kernel
theorem dX3_packet_25 : decode cX3_packet 25 = .ok (.iload_n 2, 1) := by decide +kernel
theorem dX3_packet_26 : decode cX3_packet 26 = .ok (.bipush (-2), 2) := by decide +kernel
theorem dX3_packet_28 : decode cX3_packet 28 = .ok (.if_icmp .ne 8, 3) := by decide +kernel
theorem dX3_packet_31 : decode cX3_packet 31 = .ok (.aload_n 3, 1) := by decide +kernel
theorem dX3_packet_32 : decode cX3_packet 32 = .ok (.getfield 128, 3) := by decide +kernel
theorem dX3_packet_35 : decode cX3_packet 35 = .ok (.ireturn, 1) := by decide +kernel
theorem dX3_packet_36 : decode cX3_packet 36 = .ok (.iload_n 2, 1) := by decide +kernel
theorem dX3_packet_37 : decode cX3_packet 37 = .ok (.iconst (-1), 1) := by decide +kernel
theorem dX3_packet_38 : decode cX3_packet 38 = .ok (.if_icmp .ne 8, 3) := by decide +kernel
theorem dX3_packet_41 : decode cX3_packet 41 = .ok (.aload_n 3, 1) := by decide +kernel
theorem dX3_packet_42 : decode cX3_packet 42 = .ok (.getfield 120, 3) := by decide +kernel
theorem dX3_packet_45 : decode cX3_packet 45 = .ok (.ireturn, 1) := by decide +kernel
theorem dX3_packet_46 : decode cX3_packet 46 = .ok (.aload_n 3, 1) := by decide +kernel
theorem dX3_packet_47 : decode cX3_packet 47 = .ok (.iload_n 2, 1) := by decide +kernel
theorem dX3_packet_48 : decode cX3_packet 48 = .ok (.invokestatic 108, 3) := by decide +kernel
theorem dX3_packet_51 : decode cX3_packet 51 = .ok (.aload_n 3, 1) := by decide +kernel
theorem dX3_packet_52 : decode cX3_packet 52 = .ok (.iload_n 2, 1) := by decide +kernel
theorem dX3_packet_53 : decode cX3_packet 53 = .ok (.invokevirtual 114, 3) := by decide +kernel
theorem dX3_packet_56 : decode cX3_packet 56 = .ok (.ireturn, 1) := by decide +kernel
theorem dX3_route_0 : decode cX3_route 0 = .ok (.iload_n 1, 1) := by decide +kernel
theorem dX3_route_1 : decode cX3_route 1 = .ok (.invokestatic 60, 3) := by decide +kernel
theorem dX3_route_4 : decode cX3_route 4 = .ok (.iload_n 2, 1) := by decide +kernel
theorem dX3_route_5 : decode cX3_route 5 = .ok (.invokestatic 60, 3) := by decide +kernel
theorem dX3_route_8 : decode cX3_route 8 = .ok (.iload_n 3, 1) := by decide +kernel
theorem dX3_route_9 : decode cX3_route 9 = .ok (.ifCond .lt 8, 3) := by decide +kernel
theorem dX3_route_12 : decode cX3_route 12 = .ok (.iload_n 3, 1) := by decide +kernel
theorem dX3_route_13 : decode cX3_route 13 = .ok (.iconst 4, 1) := by decide +kernel
theorem dX3_route_14 : decode cX3_route 14 = .ok (.if_icmp .le 13, 3) := by decide +kernel
theorem dX3_route_17 : decode cX3_route 17 = .ok (.new 131, 3) := by decide +kernel
theorem dX3_route_20 : decode cX3_route 20 = .ok (.dup, 1) := by decide +kernel
theorem dX3_route_21 : decode cX3_route 21 = .ok (.ldc 133, 2) := by decide +kernel
theorem dX3_route_23 : decode cX3_route 23 = .ok (.invokespecial 135, 3) := by decide +kernel
theorem dX3_route_26 : decode cX3_route 26 = .ok (.athrow, 1) := by decide +kernel
theorem dX3_route_27 : decode cX3_route 27 = .ok (.iload_n 1, 1) := by decide +kernel
theorem dX3_route_28 : decode cX3_route 28 = .ok (.iload_n 2, 1) := by decide +kernel
theorem dX3_route_29 : decode cX3_route 29 = .ok (.if_icmp .ne 13, 3) := by decide +kernel
theorem dX3_route_32 : decode cX3_route 32 = .ok (.iload_n 3, 1) := by decide +kernel
theorem dX3_route_33 : decode cX3_route 33 = .ok (.ifCond .ne 7, 3) := by decide +kernel
theorem dX3_route_36 : decode cX3_route 36 = .ok (.iconst 0, 1) := by decide +kernel
theorem dX3_route_37 : decode cX3_route 37 = .ok (.goto 4, 3) := by decide +kernel
theorem dX3_route_40 : decode cX3_route 40 = .ok (.iconst (-1), 1) := by decide +kernel
theorem dX3_route_41 : decode cX3_route 41 = .ok (.ireturn, 1) := by decide +kernel
theorem dX3_route_42 : decode cX3_route 42 = .ok (.aload_n 0, 1) := by decide +kernel
theorem dX3_route_43 : decode cX3_route 43 = .ok (.getfield 15, 3) := by decide +kernel
theorem dX3_route_46 : decode cX3_route 46 = .ok (.iload_n 1, 1) := by decide +kernel
theorem dX3_route_47 : decode cX3_route 47 = .ok (.aaload, 1) := by decide +kernel
theorem dX3_route_48 : decode cX3_route 48 = .ok (.iload_n 2, 1) := by decide +kernel
theorem dX3_route_49 : decode cX3_route 49 = .ok (.iload_n 3, 1) := by decide +kernel
theorem dX3_route_50 : decode cX3_route 50 = .ok (.invokevirtual 136, 3) := by decide +kernel
theorem dX3_route_53 : decode cX3_route 53 = .ok (.ireturn, 1) := by decide +kernel
theorem dX3_send_0 : decode cX3_send 0 = .ok (.iload_n 1, 1) := by decide +kernel
theorem dX3_send_1 : decode cX3_send 1 = .ok (.invokestatic 60, 3) := by decide +kernel
theorem dX3_send_4 : decode cX3_send 4 = .ok (.iload_n 2, 1) := by decide +kernel
theorem dX3_send_5 : decode cX3_send 5 = .ok (.invokestatic 60, 3) := by decide +kernel
theorem dX3_send_8 : decode cX3_send 8 = .ok (.iload_n 1, 1) := by decide +kernel
theorem dX3_send_9 : decode cX3_send 9 = .ok (.istore_n 3, 1) := by decide +kernel
theorem dX3_send_10 : decode cX3_send 10 = .ok (.iconst 0, 1) := by decide +kernel
theorem dX3_send_11 : decode cX3_send 11 = .ok (.istore 4, 2) := by decide +kernel
theorem dX3_send_13 : decode cX3_send 13 = .ok (.iload_n 3, 1) := by decide +kernel
theorem dX3_send_14 : decode cX3_send 14 = .ok (.iload_n 2, 1) := by decide +kernel
theorem dX3_send_15 : decode cX3_send 15 = .ok (.if_icmp .eq 60, 3) := by decide +kernel
theorem dX3_send_18 : decode cX3_send 18 = .ok (.iload 4, 2) := by decide +kernel
theorem dX3_send_20 : decode cX3_send 20 = .ok (.bipush 16, 2) := by decide +kernel
theorem dX3_send_22 : decode cX3_send 22 = .ok (.if_icmp .ge 53, 3) := by decide +kernel
theorem dX3_send_25 : decode cX3_send 25 = .ok (.aload_n 0, 1) := by decide +kernel
theorem dX3_send_26 : decode cX3_send 26 = .ok (.getfield 15, 3) := by decide +kernel
theorem dX3_send_29 : decode cX3_send 29 = .ok (.iload_n 3, 1) := by decide +kernel
theorem dX3_send_30 : decode cX3_send 30 = .ok (.aaload, 1) := by decide +kernel
theorem dX3_send_31 : decode cX3_send 31 = .ok (.astore 5, 2) := by decide +kernel
theorem dX3_send_33 : decode cX3_send 33 = .ok (.aload 5, 2) := by decide +kernel
theorem dX3_send_35 : decode cX3_send 35 = .ok (.iload_n 2, 1) := by decide +kernel
theorem dX3_send_36 : decode cX3_send 36 = .ok (.invokevirtual 140, 3) := by decide +kernel
theorem dX3_send_39 : decode cX3_send 39 = .ok (.ifCond .ne 5, 3) := by decide +kernel
theorem dX3_send_42 : decode cX3_send 42 = .ok (.iconst (-1), 1) := by decide +kernel
theorem dX3_send_43 : decode cX3_send 43 = .ok (.ireturn, 1) := by decide +kernel
theorem dX3_send_44 : decode cX3_send 44 = .ok (.aload 5, 2) := by decide +kernel
theorem dX3_send_46 : decode cX3_send 46 = .ok (.getfield 143, 3) := by decide +kernel
theorem dX3_send_49 : decode cX3_send 49 = .ok (.iload_n 2, 1) := by decide +kernel
theorem dX3_send_50 : decode cX3_send 50 = .ok (.iaload, 1) := by decide +kernel
theorem dX3_send_51 : decode cX3_send 51 = .ok (.istore 6, 2) := by decide +kernel
theorem dX3_send_53 : decode cX3_send 53 = .ok (.aload_n 0, 1) := by decide +kernel
theorem dX3_send_54 : decode cX3_send 54 = .ok (.iload_n 3, 1) := by decide +kernel
theorem dX3_send_55 : decode cX3_send 55 = .ok (.iload 6, 2) := by decide +kernel
theorem dX3_send_57 : decode cX3_send 57 = .ok (.invokevirtual 41, 3) := by decide +kernel
theorem dX3_send_60 : decode cX3_send 60 = .ok (.ifCond .ne 6, 3) := by decide +kernel
theorem dX3_send_63 : decode cX3_send 63 = .ok (.bipush (-2), 2) := by decide +kernel
theorem dX3_send_65 : decode cX3_send 65 = .ok (.ireturn, 1) := by decide +kernel
theorem dX3_send_66 : decode cX3_send 66 = .ok (.iload 6, 2) := by decide +kernel
theorem dX3_send_68 : decode cX3_send 68 = .ok (.istore_n 3, 1) := by decide +kernel
theorem dX3_send_69 : decode cX3_send 69 = .ok (.iinc 4 1, 3) := by decide +kernel
theorem dX3_send_72 : decode cX3_send 72 = .ok (.goto (-59), 3) := by decide +kernel
theorem dX3_send_75 : decode cX3_send 75 = .ok (.iload_n 3, 1) := by decide +kernel
theorem dX3_send_76 : decode cX3_send 76 = .ok (.iload_n 2, 1) := by decide +kernel
theorem dX3_send_77 : decode cX3_send 77 = .ok (.if_icmp .ne 8, 3) := by decide +kernel
theorem dX3_send_80 : decode cX3_send 80 = .ok (.iload 4, 2) := by decide +kernel
theorem dX3_send_82 : decode cX3_send 82 = .ok (.goto 5, 3) := by decide +kernel
theorem dX3_send_85 : decode cX3_send 85 = .ok (.bipush (-3), 2) := by decide +kernel
theorem dX3_send_87 : decode cX3_send 87 = .ok (.ireturn, 1) := by decide +kernel
theorem dX3_count_0 : decode cX3_count 0 = .ok (.iload_n 1, 1) := by decide +kernel
theorem dX3_count_1 : decode cX3_count 1 = .ok (.tableswitch 78 0 5 #[39, 47, 55, 63, 68, 73], 39) := by decide +kernel
theorem dX3_count_40 : decode cX3_count 40 = .ok (.aload_n 0, 1) := by decide +kernel
theorem dX3_count_41 : decode cX3_count 41 = .ok (.getfield 22, 3) := by decide +kernel
theorem dX3_count_44 : decode cX3_count 44 = .ok (.getfield 79, 3) := by decide +kernel
theorem dX3_count_47 : decode cX3_count 47 = .ok (.ireturn, 1) := by decide +kernel
theorem dX3_count_48 : decode cX3_count 48 = .ok (.aload_n 0, 1) := by decide +kernel
theorem dX3_count_49 : decode cX3_count 49 = .ok (.getfield 22, 3) := by decide +kernel
theorem dX3_count_52 : decode cX3_count 52 = .ok (.getfield 147, 3) := by decide +kernel
theorem dX3_count_55 : decode cX3_count 55 = .ok (.ireturn, 1) := by decide +kernel
theorem dX3_count_56 : decode cX3_count 56 = .ok (.aload_n 0, 1) := by decide +kernel
theorem dX3_count_57 : decode cX3_count 57 = .ok (.getfield 22, 3) := by decide +kernel
theorem dX3_count_60 : decode cX3_count 60 = .ok (.getfield 150, 3) := by decide +kernel
theorem dX3_count_63 : decode cX3_count 63 = .ok (.ireturn, 1) := by decide +kernel
theorem dX3_count_64 : decode cX3_count 64 = .ok (.aload_n 0, 1) := by decide +kernel
theorem dX3_count_65 : decode cX3_count 65 = .ok (.getfield 153, 3) := by decide +kernel
theorem dX3_count_68 : decode cX3_count 68 = .ok (.ireturn, 1) := by decide +kernel
theorem dX3_count_69 : decode cX3_count 69 = .ok (.aload_n 0, 1) := by decide +kernel
theorem dX3_count_70 : decode cX3_count 70 = .ok (.getfield 45, 3) := by decide +kernel
theorem dX3_count_73 : decode cX3_count 73 = .ok (.ireturn, 1) := by decide +kernel
theorem dX3_count_74 : decode cX3_count 74 = .ok (.aload_n 0, 1) := by decide +kernel
theorem dX3_count_75 : decode cX3_count 75 = .ok (.getfield 156, 3) := by decide +kernel
theorem dX3_count_78 : decode cX3_count 78 = .ok (.ireturn, 1) := by decide +kernel
theorem dX3_count_79 : decode cX3_count 79 = .ok (.new 131, 3) := by decide +kernel
theorem dX3_count_82 : decode cX3_count 82 = .ok (.dup, 1) := by decide +kernel
theorem dX3_count_83 : decode cX3_count 83 = .ok (.ldc 133, 2) := by decide +kernel
theorem dX3_count_85 : decode cX3_count 85 = .ok (.invokespecial 135, 3) := by decide +kernel
theorem dX3_count_88 : decode cX3_count 88 = .ok (.athrow, 1) := by decide +kernel
theorem dX3_checkRouter_0 : decode cX3_checkRouter 0 = .ok (.iload_n 0, 1) := by decide +kernel
theorem dX3_checkRouter_1 : decode cX3_checkRouter 1 = .ok (.ifCond .lt 9, 3) := by decide +kernel
theorem dX3_checkRouter_4 : decode cX3_checkRouter 4 = .ok (.iload_n 0, 1) := by decide +kernel
theorem dX3_checkRouter_5 : decode cX3_checkRouter 5 = .ok (.bipush 8, 2) := by decide +kernel
theorem dX3_checkRouter_7 : decode cX3_checkRouter 7 = .ok (.if_icmp .lt 13, 3) := by decide +kernel
theorem dX3_checkRouter_10 : decode cX3_checkRouter 10 = .ok (.new 131, 3) := by decide +kernel
theorem dX3_checkRouter_13 : decode cX3_checkRouter 13 = .ok (.dup, 1) := by decide +kernel
theorem dX3_checkRouter_14 : decode cX3_checkRouter 14 = .ok (.ldc 159, 2) := by decide +kernel
theorem dX3_checkRouter_16 : decode cX3_checkRouter 16 = .ok (.invokespecial 135, 3) := by decide +kernel
theorem dX3_checkRouter_19 : decode cX3_checkRouter 19 = .ok (.athrow, 1) := by decide +kernel
theorem dX3_checkRouter_20 : decode cX3_checkRouter 20 = .ok (.return_, 1) := by decide +kernel
theorem dX3_checkPair_0 : decode cX3_checkPair 0 = .ok (.iload_n 0, 1) := by decide +kernel
theorem dX3_checkPair_1 : decode cX3_checkPair 1 = .ok (.invokestatic 60, 3) := by decide +kernel
theorem dX3_checkPair_4 : decode cX3_checkPair 4 = .ok (.iload_n 1, 1) := by decide +kernel
theorem dX3_checkPair_5 : decode cX3_checkPair 5 = .ok (.invokestatic 60, 3) := by decide +kernel
theorem dX3_checkPair_8 : decode cX3_checkPair 8 = .ok (.iload_n 0, 1) := by decide +kernel
theorem dX3_checkPair_9 : decode cX3_checkPair 9 = .ok (.iload_n 1, 1) := by decide +kernel
theorem dX3_checkPair_10 : decode cX3_checkPair 10 = .ok (.if_icmp .ne 13, 3) := by decide +kernel
theorem dX3_checkPair_13 : decode cX3_checkPair 13 = .ok (.new 82, 3) := by decide +kernel
theorem dX3_checkPair_16 : decode cX3_checkPair 16 = .ok (.dup, 1) := by decide +kernel
theorem dX3_checkPair_17 : decode cX3_checkPair 17 = .ok (.ldc 161, 2) := by decide +kernel
theorem dX3_checkPair_19 : decode cX3_checkPair 19 = .ok (.invokespecial 86, 3) := by decide +kernel
theorem dX3_checkPair_22 : decode cX3_checkPair 22 = .ok (.athrow, 1) := by decide +kernel
theorem dX3_checkPair_23 : decode cX3_checkPair 23 = .ok (.return_, 1) := by decide +kernel
theorem dX3_checkPacket_0 : decode cX3_checkPacket 0 = .ok (.iload_n 1, 1) := by decide +kernel
theorem dX3_checkPacket_1 : decode cX3_checkPacket 1 = .ok (.ifCond .lt 14, 3) := by decide +kernel
theorem dX3_checkPacket_4 : decode cX3_checkPacket 4 = .ok (.iload_n 1, 1) := by decide +kernel
theorem dX3_checkPacket_5 : decode cX3_checkPacket 5 = .ok (.aload_n 0, 1) := by decide +kernel
theorem dX3_checkPacket_6 : decode cX3_checkPacket 6 = .ok (.getfield 22, 3) := by decide +kernel
theorem dX3_checkPacket_9 : decode cX3_checkPacket 9 = .ok (.getfield 79, 3) := by decide +kernel
theorem dX3_checkPacket_12 : decode cX3_checkPacket 12 = .ok (.if_icmp .lt 13, 3) := by decide +kernel
theorem dX3_checkPacket_15 : decode cX3_checkPacket 15 = .ok (.new 131, 3) := by decide +kernel
theorem dX3_checkPacket_18 : decode cX3_checkPacket 18 = .ok (.dup, 1) := by decide +kernel
theorem dX3_checkPacket_19 : decode cX3_checkPacket 19 = .ok (.ldc 163, 2) := by decide +kernel
theorem dX3_checkPacket_21 : decode cX3_checkPacket 21 = .ok (.invokespecial 135, 3) := by decide +kernel
theorem dX3_checkPacket_24 : decode cX3_checkPacket 24 = .ok (.athrow, 1) := by decide +kernel
theorem dX3_checkPacket_25 : decode cX3_checkPacket 25 = .ok (.return_, 1) := by decide +kernel
theorem dX3_checkByte_0 : decode cX3_checkByte 0 = .ok (.iload_n 1, 1) := by decide +kernel
theorem dX3_checkByte_1 : decode cX3_checkByte 1 = .ok (.ifCond .lt 11, 3) := by decide +kernel
theorem dX3_checkByte_4 : decode cX3_checkByte 4 = .ok (.iload_n 1, 1) := by decide +kernel
theorem dX3_checkByte_5 : decode cX3_checkByte 5 = .ok (.aload_n 0, 1) := by decide +kernel
theorem dX3_checkByte_6 : decode cX3_checkByte 6 = .ok (.getfield 120, 3) := by decide +kernel
theorem dX3_checkByte_9 : decode cX3_checkByte 9 = .ok (.if_icmp .lt 13, 3) := by decide +kernel
theorem dX3_checkByte_12 : decode cX3_checkByte 12 = .ok (.new 131, 3) := by decide +kernel
theorem dX3_checkByte_15 : decode cX3_checkByte 15 = .ok (.dup, 1) := by decide +kernel
theorem dX3_checkByte_16 : decode cX3_checkByte 16 = .ok (.ldc 165, 2) := by decide +kernel
theorem dX3_checkByte_18 : decode cX3_checkByte 18 = .ok (.invokespecial 135, 3) := by decide +kernel
theorem dX3_checkByte_21 : decode cX3_checkByte 21 = .ok (.athrow, 1) := by decide +kernel
theorem dX3_checkByte_22 : decode cX3_checkByte 22 = .ok (.return_, 1) := by decide +kernel
theorem dX3_isUp_0 : decode cX3_isUp 0 = .ok (.aload_n 0, 1) := by decide +kernel
theorem dX3_isUp_1 : decode cX3_isUp 1 = .ok (.getfield 9, 3) := by decide +kernel
theorem dX3_isUp_4 : decode cX3_isUp 4 = .ok (.iload_n 1, 1) := by decide +kernel
theorem dX3_isUp_5 : decode cX3_isUp 5 = .ok (.bipush 8, 2) := by decide +kernel
theorem dX3_isUp_7 : decode cX3_isUp 7 = .ok (.imul, 1) := by decide +kernel
theorem dX3_isUp_8 : decode cX3_isUp 8 = .ok (.iload_n 2, 1) := by decide +kernel
theorem dX3_isUp_9 : decode cX3_isUp 9 = .ok (.iadd, 1) := by decide +kernel
theorem dX3_isUp_10 : decode cX3_isUp 10 = .ok (.baload, 1) := by decide +kernel
theorem dX3_isUp_11 : decode cX3_isUp 11 = .ok (.ireturn, 1) := by decide +kernel
theorem dX3_passTime_0 : decode cX3_passTime 0 = .ok (.aload_n 0, 1) := by decide +kernel
theorem dX3_passTime_1 : decode cX3_passTime 1 = .ok (.dup, 1) := by decide +kernel
theorem dX3_passTime_2 : decode cX3_passTime 2 = .ok (.getfield 153, 3) := by decide +kernel
theorem dX3_passTime_5 : decode cX3_passTime 5 = .ok (.iconst 1, 1) := by decide +kernel
theorem dX3_passTime_6 : decode cX3_passTime 6 = .ok (.iadd, 1) := by decide +kernel
theorem dX3_passTime_7 : decode cX3_passTime 7 = .ok (.putfield 153, 3) := by decide +kernel
theorem dX3_passTime_10 : decode cX3_passTime 10 = .ok (.iconst 0, 1) := by decide +kernel
theorem dX3_passTime_11 : decode cX3_passTime 11 = .ok (.istore_n 1, 1) := by decide +kernel
theorem dX3_passTime_12 : decode cX3_passTime 12 = .ok (.iload_n 1, 1) := by decide +kernel
theorem dX3_passTime_13 : decode cX3_passTime 13 = .ok (.bipush 8, 2) := by decide +kernel
theorem dX3_passTime_15 : decode cX3_passTime 15 = .ok (.if_icmp .ge 18, 3) := by decide +kernel
theorem dX3_passTime_18 : decode cX3_passTime 18 = .ok (.aload_n 0, 1) := by decide +kernel
theorem dX3_passTime_19 : decode cX3_passTime 19 = .ok (.getfield 15, 3) := by decide +kernel
theorem dX3_passTime_22 : decode cX3_passTime 22 = .ok (.iload_n 1, 1) := by decide +kernel
theorem dX3_passTime_23 : decode cX3_passTime 23 = .ok (.aaload, 1) := by decide +kernel
theorem dX3_passTime_24 : decode cX3_passTime 24 = .ok (.invokevirtual 167, 3) := by decide +kernel
theorem dX3_passTime_27 : decode cX3_passTime 27 = .ok (.iinc 1 1, 3) := by decide +kernel
theorem dX3_passTime_30 : decode cX3_passTime 30 = .ok (.goto (-18), 3) := by decide +kernel
theorem dX3_passTime_33 : decode cX3_passTime 33 = .ok (.iconst 0, 1) := by decide +kernel
theorem dX3_passTime_34 : decode cX3_passTime 34 = .ok (.istore_n 1, 1) := by decide +kernel
theorem dX3_passTime_35 : decode cX3_passTime 35 = .ok (.iload_n 1, 1) := by decide +kernel
theorem dX3_passTime_36 : decode cX3_passTime 36 = .ok (.bipush 8, 2) := by decide +kernel
theorem dX3_passTime_38 : decode cX3_passTime 38 = .ok (.if_icmp .ge 14, 3) := by decide +kernel
theorem dX3_passTime_41 : decode cX3_passTime 41 = .ok (.aload_n 0, 1) := by decide +kernel
theorem dX3_passTime_42 : decode cX3_passTime 42 = .ok (.iload_n 1, 1) := by decide +kernel
theorem dX3_passTime_43 : decode cX3_passTime 43 = .ok (.invokevirtual 170, 3) := by decide +kernel
theorem dX3_passTime_46 : decode cX3_passTime 46 = .ok (.iinc 1 1, 3) := by decide +kernel
theorem dX3_passTime_49 : decode cX3_passTime 49 = .ok (.goto (-14), 3) := by decide +kernel
theorem dX3_passTime_52 : decode cX3_passTime 52 = .ok (.return_, 1) := by decide +kernel
theorem dX3_tellInTurn_0 : decode cX3_tellInTurn 0 = .ok (.aload_n 0, 1) := by decide +kernel
theorem dX3_tellInTurn_1 : decode cX3_tellInTurn 1 = .ok (.getfield 15, 3) := by decide +kernel
theorem dX3_tellInTurn_4 : decode cX3_tellInTurn 4 = .ok (.iload_n 1, 1) := by decide +kernel
theorem dX3_tellInTurn_5 : decode cX3_tellInTurn 5 = .ok (.aaload, 1) := by decide +kernel
theorem dX3_tellInTurn_6 : decode cX3_tellInTurn 6 = .ok (.astore_n 2, 1) := by decide +kernel
theorem dX3_tellInTurn_7 : decode cX3_tellInTurn 7 = .ok (.aload_n 0, 1) := by decide +kernel
theorem dX3_tellInTurn_8 : decode cX3_tellInTurn 8 = .ok (.getfield 153, 3) := by decide +kernel
theorem dX3_tellInTurn_11 : decode cX3_tellInTurn 11 = .ok (.iload_n 1, 1) := by decide +kernel
theorem dX3_tellInTurn_12 : decode cX3_tellInTurn 12 = .ok (.iadd, 1) := by decide +kernel
theorem dX3_tellInTurn_13 : decode cX3_tellInTurn 13 = .ok (.bipush 10, 2) := by decide +kernel
theorem dX3_tellInTurn_15 : decode cX3_tellInTurn 15 = .ok (.irem, 1) := by decide +kernel
theorem dX3_tellInTurn_16 : decode cX3_tellInTurn 16 = .ok (.ifCond .ne 7, 3) := by decide +kernel
theorem dX3_tellInTurn_19 : decode cX3_tellInTurn 19 = .ok (.iconst 1, 1) := by decide +kernel
theorem dX3_tellInTurn_20 : decode cX3_tellInTurn 20 = .ok (.goto 4, 3) := by decide +kernel
theorem dX3_tellInTurn_23 : decode cX3_tellInTurn 23 = .ok (.iconst 0, 1) := by decide +kernel
theorem dX3_tellInTurn_24 : decode cX3_tellInTurn 24 = .ok (.istore_n 3, 1) := by decide +kernel
theorem dX3_tellInTurn_25 : decode cX3_tellInTurn 25 = .ok (.iload_n 3, 1) := by decide +kernel
theorem dX3_tellInTurn_26 : decode cX3_tellInTurn 26 = .ok (.ifCond .ne 11, 3) := by decide +kernel
theorem dX3_tellInTurn_29 : decode cX3_tellInTurn 29 = .ok (.aload_n 2, 1) := by decide +kernel
theorem dX3_tellInTurn_30 : decode cX3_tellInTurn 30 = .ok (.invokevirtual 173, 3) := by decide +kernel
theorem dX3_tellInTurn_33 : decode cX3_tellInTurn 33 = .ok (.ifCond .ne 4, 3) := by decide +kernel
theorem dX3_tellInTurn_36 : decode cX3_tellInTurn 36 = .ok (.return_, 1) := by decide +kernel
theorem dX3_tellInTurn_37 : decode cX3_tellInTurn 37 = .ok (.iconst 0, 1) := by decide +kernel
theorem dX3_tellInTurn_38 : decode cX3_tellInTurn 38 = .ok (.istore 4, 2) := by decide +kernel
theorem dX3_tellInTurn_40 : decode cX3_tellInTurn 40 = .ok (.iload 4, 2) := by decide +kernel
theorem dX3_tellInTurn_42 : decode cX3_tellInTurn 42 = .ok (.bipush 8, 2) := by decide +kernel
theorem dX3_tellInTurn_44 : decode cX3_tellInTurn 44 = .ok (.if_icmp .ge 27, 3) := by decide +kernel
theorem dX3_tellInTurn_47 : decode cX3_tellInTurn 47 = .ok (.aload_n 0, 1) := by decide +kernel
theorem dX3_tellInTurn_48 : decode cX3_tellInTurn 48 = .ok (.iload_n 1, 1) := by decide +kernel
theorem dX3_tellInTurn_49 : decode cX3_tellInTurn 49 = .ok (.iload 4, 2) := by decide +kernel
theorem dX3_tellInTurn_51 : decode cX3_tellInTurn 51 = .ok (.invokevirtual 41, 3) := by decide +kernel
theorem dX3_tellInTurn_54 : decode cX3_tellInTurn 54 = .ok (.ifCond .eq 11, 3) := by decide +kernel
theorem dX3_tellInTurn_57 : decode cX3_tellInTurn 57 = .ok (.aload_n 0, 1) := by decide +kernel
theorem dX3_tellInTurn_58 : decode cX3_tellInTurn 58 = .ok (.iload_n 1, 1) := by decide +kernel
theorem dX3_tellInTurn_59 : decode cX3_tellInTurn 59 = .ok (.iload 4, 2) := by decide +kernel
theorem dX3_tellInTurn_61 : decode cX3_tellInTurn 61 = .ok (.iload_n 3, 1) := by decide +kernel
theorem dX3_tellInTurn_62 : decode cX3_tellInTurn 62 = .ok (.invokevirtual 177, 3) := by decide +kernel
theorem dX3_tellInTurn_65 : decode cX3_tellInTurn 65 = .ok (.iinc 4 1, 3) := by decide +kernel
theorem dX3_tellInTurn_68 : decode cX3_tellInTurn 68 = .ok (.goto (-28), 3) := by decide +kernel
theorem dX3_tellInTurn_71 : decode cX3_tellInTurn 71 = .ok (.aload_n 2, 1) := by decide +kernel
theorem dX3_tellInTurn_72 : decode cX3_tellInTurn 72 = .ok (.invokevirtual 181, 3) := by decide +kernel
theorem dX3_tellInTurn_75 : decode cX3_tellInTurn 75 = .ok (.return_, 1) := by decide +kernel
theorem dX3_tell_0 : decode cX3_tell 0 = .ok (.aload_n 0, 1) := by decide +kernel
theorem dX3_tell_1 : decode cX3_tell 1 = .ok (.getfield 15, 3) := by decide +kernel
theorem dX3_tell_4 : decode cX3_tell 4 = .ok (.iload_n 1, 1) := by decide +kernel
theorem dX3_tell_5 : decode cX3_tell 5 = .ok (.aaload, 1) := by decide +kernel
theorem dX3_tell_6 : decode cX3_tell 6 = .ok (.astore 4, 2) := by decide +kernel
theorem dX3_tell_8 : decode cX3_tell 8 = .ok (.aload_n 0, 1) := by decide +kernel
theorem dX3_tell_9 : decode cX3_tell 9 = .ok (.getfield 29, 3) := by decide +kernel
theorem dX3_tell_12 : decode cX3_tell 12 = .ok (.iload_n 1, 1) := by decide +kernel
theorem dX3_tell_13 : decode cX3_tell 13 = .ok (.iload_n 2, 1) := by decide +kernel
theorem dX3_tell_14 : decode cX3_tell 14 = .ok (.ldc 184, 2) := by decide +kernel
theorem dX3_tell_16 : decode cX3_tell 16 = .ok (.invokevirtual 68, 3) := by decide +kernel
theorem dX3_tell_19 : decode cX3_tell 19 = .ok (.iload_n 3, 1) := by decide +kernel
theorem dX3_tell_20 : decode cX3_tell 20 = .ok (.ifCond .eq 13, 3) := by decide +kernel
theorem dX3_tell_23 : decode cX3_tell 23 = .ok (.aload_n 0, 1) := by decide +kernel
theorem dX3_tell_24 : decode cX3_tell 24 = .ok (.getfield 29, 3) := by decide +kernel
theorem dX3_tell_27 : decode cX3_tell 27 = .ok (.iconst 2, 1) := by decide +kernel
theorem dX3_tell_28 : decode cX3_tell 28 = .ok (.iload_n 1, 1) := by decide +kernel
theorem dX3_tell_29 : decode cX3_tell 29 = .ok (.iconst 1, 1) := by decide +kernel
theorem dX3_tell_30 : decode cX3_tell 30 = .ok (.invokevirtual 72, 3) := by decide +kernel
theorem dX3_tell_33 : decode cX3_tell 33 = .ok (.iconst 0, 1) := by decide +kernel
theorem dX3_tell_34 : decode cX3_tell 34 = .ok (.istore 5, 2) := by decide +kernel
theorem dX3_tell_36 : decode cX3_tell 36 = .ok (.iload 5, 2) := by decide +kernel
theorem dX3_tell_38 : decode cX3_tell 38 = .ok (.bipush 8, 2) := by decide +kernel
theorem dX3_tell_40 : decode cX3_tell 40 = .ok (.if_icmp .ge 55, 3) := by decide +kernel
theorem dX3_tell_43 : decode cX3_tell 43 = .ok (.iload_n 3, 1) := by decide +kernel
theorem dX3_tell_44 : decode cX3_tell 44 = .ok (.ifCond .eq 16, 3) := by decide +kernel
theorem dX3_tell_47 : decode cX3_tell 47 = .ok (.aload 4, 2) := by decide +kernel
theorem dX3_tell_49 : decode cX3_tell 49 = .ok (.iload 5, 2) := by decide +kernel
theorem dX3_tell_51 : decode cX3_tell 51 = .ok (.invokevirtual 185, 3) := by decide +kernel
theorem dX3_tell_54 : decode cX3_tell 54 = .ok (.ifCond .eq 35, 3) := by decide +kernel
theorem dX3_tell_57 : decode cX3_tell 57 = .ok (.goto 14, 3) := by decide +kernel
theorem dX3_tell_60 : decode cX3_tell 60 = .ok (.aload 4, 2) := by decide +kernel
theorem dX3_tell_62 : decode cX3_tell 62 = .ok (.getfield 188, 3) := by decide +kernel
theorem dX3_tell_65 : decode cX3_tell 65 = .ok (.iload 5, 2) := by decide +kernel
theorem dX3_tell_67 : decode cX3_tell 67 = .ok (.baload, 1) := by decide +kernel
theorem dX3_tell_68 : decode cX3_tell 68 = .ok (.ifCond .eq 21, 3) := by decide +kernel
theorem dX3_tell_71 : decode cX3_tell 71 = .ok (.aload_n 0, 1) := by decide +kernel
theorem dX3_tell_72 : decode cX3_tell 72 = .ok (.getfield 29, 3) := by decide +kernel
theorem dX3_tell_75 : decode cX3_tell 75 = .ok (.iconst 2, 1) := by decide +kernel
theorem dX3_tell_76 : decode cX3_tell 76 = .ok (.iload 5, 2) := by decide +kernel
theorem dX3_tell_78 : decode cX3_tell 78 = .ok (.aload 4, 2) := by decide +kernel
theorem dX3_tell_80 : decode cX3_tell 80 = .ok (.iload 5, 2) := by decide +kernel
theorem dX3_tell_82 : decode cX3_tell 82 = .ok (.iload_n 2, 1) := by decide +kernel
theorem dX3_tell_83 : decode cX3_tell 83 = .ok (.invokevirtual 191, 3) := by decide +kernel
theorem dX3_tell_86 : decode cX3_tell 86 = .ok (.invokevirtual 72, 3) := by decide +kernel
theorem dX3_tell_89 : decode cX3_tell 89 = .ok (.iinc 5 1, 3) := by decide +kernel
theorem dX3_tell_92 : decode cX3_tell 92 = .ok (.goto (-56), 3) := by decide +kernel
theorem dX3_tell_95 : decode cX3_tell 95 = .ok (.aload_n 0, 1) := by decide +kernel
theorem dX3_tell_96 : decode cX3_tell 96 = .ok (.getfield 22, 3) := by decide +kernel
theorem dX3_tell_99 : decode cX3_tell 99 = .ok (.aload_n 0, 1) := by decide +kernel
theorem dX3_tell_100 : decode cX3_tell 100 = .ok (.getfield 29, 3) := by decide +kernel
theorem dX3_tell_103 : decode cX3_tell 103 = .ok (.invokevirtual 75, 3) := by decide +kernel
theorem dX3_tell_106 : decode cX3_tell 106 = .ok (.return_, 1) := by decide +kernel
theorem dX3_bring_0 : decode cX3_bring 0 = .ok (.aload_n 0, 1) := by decide +kernel
theorem dX3_bring_1 : decode cX3_bring 1 = .ok (.getfield 33, 3) := by decide +kernel
theorem dX3_bring_4 : decode cX3_bring 4 = .ok (.aload_n 0, 1) := by decide +kernel
theorem dX3_bring_5 : decode cX3_bring 5 = .ok (.getfield 22, 3) := by decide +kernel
theorem dX3_bring_8 : decode cX3_bring 8 = .ok (.iload_n 1, 1) := by decide +kernel
theorem dX3_bring_9 : decode cX3_bring 9 = .ok (.invokevirtual 104, 3) := by decide +kernel
theorem dX3_bring_12 : decode cX3_bring 12 = .ok (.invokevirtual 194, 3) := by decide +kernel
theorem dX3_bring_15 : decode cX3_bring 15 = .ok (.aload_n 0, 1) := by decide +kernel
theorem dX3_bring_16 : decode cX3_bring 16 = .ok (.getfield 22, 3) := by decide +kernel
theorem dX3_bring_19 : decode cX3_bring 19 = .ok (.iload_n 1, 1) := by decide +kernel
theorem dX3_bring_20 : decode cX3_bring 20 = .ok (.invokevirtual 101, 3) := by decide +kernel
theorem dX3_bring_23 : decode cX3_bring 23 = .ok (.aload_n 0, 1) := by decide +kernel
theorem dX3_bring_24 : decode cX3_bring 24 = .ok (.aload_n 0, 1) := by decide +kernel
theorem dX3_bring_25 : decode cX3_bring 25 = .ok (.getfield 33, 3) := by decide +kernel
theorem dX3_bring_28 : decode cX3_bring 28 = .ok (.getfield 125, 3) := by decide +kernel
theorem dX3_bring_31 : decode cX3_bring 31 = .ok (.aload_n 0, 1) := by decide +kernel
theorem dX3_bring_32 : decode cX3_bring 32 = .ok (.getfield 33, 3) := by decide +kernel
theorem dX3_bring_35 : decode cX3_bring 35 = .ok (.getfield 128, 3) := by decide +kernel
theorem dX3_bring_38 : decode cX3_bring 38 = .ok (.invokevirtual 41, 3) := by decide +kernel
theorem dX3_bring_41 : decode cX3_bring 41 = .ok (.ifCond .ne 18, 3) := by decide +kernel
theorem dX3_bring_44 : decode cX3_bring 44 = .ok (.aload_n 0, 1) := by decide +kernel
theorem dX3_bring_45 : decode cX3_bring 45 = .ok (.getfield 22, 3) := by decide +kernel
theorem dX3_bring_48 : decode cX3_bring 48 = .ok (.dup, 1) := by decide +kernel
theorem dX3_bring_49 : decode cX3_bring 49 = .ok (.getfield 147, 3) := by decide +kernel
theorem dX3_bring_52 : decode cX3_bring 52 = .ok (.iconst 1, 1) := by decide +kernel
theorem dX3_bring_53 : decode cX3_bring 53 = .ok (.iadd, 1) := by decide +kernel
theorem dX3_bring_54 : decode cX3_bring 54 = .ok (.putfield 147, 3) := by decide +kernel
theorem dX3_bring_57 : decode cX3_bring 57 = .ok (.iconst 0, 1) := by decide +kernel
theorem dX3_bring_58 : decode cX3_bring 58 = .ok (.ireturn, 1) := by decide +kernel
theorem dX3_bring_59 : decode cX3_bring 59 = .ok (.aload_n 0, 1) := by decide +kernel
theorem dX3_bring_60 : decode cX3_bring 60 = .ok (.getfield 33, 3) := by decide +kernel
theorem dX3_bring_63 : decode cX3_bring 63 = .ok (.invokevirtual 197, 3) := by decide +kernel
theorem dX3_bring_66 : decode cX3_bring 66 = .ok (.ifCond .ne 16, 3) := by decide +kernel
theorem dX3_bring_69 : decode cX3_bring 69 = .ok (.aload_n 0, 1) := by decide +kernel
theorem dX3_bring_70 : decode cX3_bring 70 = .ok (.dup, 1) := by decide +kernel
theorem dX3_bring_71 : decode cX3_bring 71 = .ok (.getfield 156, 3) := by decide +kernel
theorem dX3_bring_74 : decode cX3_bring 74 = .ok (.iconst 1, 1) := by decide +kernel
theorem dX3_bring_75 : decode cX3_bring 75 = .ok (.iadd, 1) := by decide +kernel
theorem dX3_bring_76 : decode cX3_bring 76 = .ok (.putfield 156, 3) := by decide +kernel
theorem dX3_bring_79 : decode cX3_bring 79 = .ok (.goto 24, 3) := by decide +kernel
theorem dX3_bring_82 : decode cX3_bring 82 = .ok (.aload_n 0, 1) := by decide +kernel
theorem dX3_bring_83 : decode cX3_bring 83 = .ok (.getfield 33, 3) := by decide +kernel
theorem dX3_bring_86 : decode cX3_bring 86 = .ok (.invokevirtual 200, 3) := by decide +kernel
theorem dX3_bring_89 : decode cX3_bring 89 = .ok (.ifCond .eq 10, 3) := by decide +kernel
theorem dX3_bring_92 : decode cX3_bring 92 = .ok (.aload_n 0, 1) := by decide +kernel
theorem dX3_bring_93 : decode cX3_bring 93 = .ok (.invokevirtual 203, 3) := by decide +kernel
theorem dX3_bring_96 : decode cX3_bring 96 = .ok (.goto 7, 3) := by decide +kernel
theorem dX3_bring_99 : decode cX3_bring 99 = .ok (.aload_n 0, 1) := by decide +kernel
theorem dX3_bring_100 : decode cX3_bring 100 = .ok (.invokevirtual 206, 3) := by decide +kernel
theorem dX3_bring_103 : decode cX3_bring 103 = .ok (.iconst 1, 1) := by decide +kernel
theorem dX3_bring_104 : decode cX3_bring 104 = .ok (.ireturn, 1) := by decide +kernel
theorem dX3_hearResponse_0 : decode cX3_hearResponse 0 = .ok (.aload_n 0, 1) := by decide +kernel
theorem dX3_hearResponse_1 : decode cX3_hearResponse 1 = .ok (.getfield 15, 3) := by decide +kernel
theorem dX3_hearResponse_4 : decode cX3_hearResponse 4 = .ok (.aload_n 0, 1) := by decide +kernel
theorem dX3_hearResponse_5 : decode cX3_hearResponse 5 = .ok (.getfield 33, 3) := by decide +kernel
theorem dX3_hearResponse_8 : decode cX3_hearResponse 8 = .ok (.getfield 128, 3) := by decide +kernel
theorem dX3_hearResponse_11 : decode cX3_hearResponse 11 = .ok (.aaload, 1) := by decide +kernel
theorem dX3_hearResponse_12 : decode cX3_hearResponse 12 = .ok (.astore_n 1, 1) := by decide +kernel
theorem dX3_hearResponse_13 : decode cX3_hearResponse 13 = .ok (.aload_n 0, 1) := by decide +kernel
theorem dX3_hearResponse_14 : decode cX3_hearResponse 14 = .ok (.getfield 33, 3) := by decide +kernel
theorem dX3_hearResponse_17 : decode cX3_hearResponse 17 = .ok (.invokevirtual 209, 3) := by decide +kernel
theorem dX3_hearResponse_20 : decode cX3_hearResponse 20 = .ok (.istore_n 2, 1) := by decide +kernel
theorem dX3_hearResponse_21 : decode cX3_hearResponse 21 = .ok (.iconst 0, 1) := by decide +kernel
theorem dX3_hearResponse_22 : decode cX3_hearResponse 22 = .ok (.istore_n 3, 1) := by decide +kernel
theorem dX3_hearResponse_23 : decode cX3_hearResponse 23 = .ok (.iload_n 3, 1) := by decide +kernel
theorem dX3_hearResponse_24 : decode cX3_hearResponse 24 = .ok (.iload_n 2, 1) := by decide +kernel
theorem dX3_hearResponse_25 : decode cX3_hearResponse 25 = .ok (.if_icmp .ge 63, 3) := by decide +kernel
theorem dX3_hearResponse_28 : decode cX3_hearResponse 28 = .ok (.aload_n 0, 1) := by decide +kernel
theorem dX3_hearResponse_29 : decode cX3_hearResponse 29 = .ok (.getfield 33, 3) := by decide +kernel
theorem dX3_hearResponse_32 : decode cX3_hearResponse 32 = .ok (.iload_n 3, 1) := by decide +kernel
theorem dX3_hearResponse_33 : decode cX3_hearResponse 33 = .ok (.invokevirtual 213, 3) := by decide +kernel
theorem dX3_hearResponse_36 : decode cX3_hearResponse 36 = .ok (.ifCond .eq 46, 3) := by decide +kernel
theorem dX3_hearResponse_39 : decode cX3_hearResponse 39 = .ok (.aload_n 0, 1) := by decide +kernel
theorem dX3_hearResponse_40 : decode cX3_hearResponse 40 = .ok (.getfield 33, 3) := by decide +kernel
theorem dX3_hearResponse_43 : decode cX3_hearResponse 43 = .ok (.iload_n 3, 1) := by decide +kernel
theorem dX3_hearResponse_44 : decode cX3_hearResponse 44 = .ok (.invokevirtual 216, 3) := by decide +kernel
theorem dX3_hearResponse_47 : decode cX3_hearResponse 47 = .ok (.istore 4, 2) := by decide +kernel
theorem dX3_hearResponse_49 : decode cX3_hearResponse 49 = .ok (.iload 4, 2) := by decide +kernel
theorem dX3_hearResponse_51 : decode cX3_hearResponse 51 = .ok (.aload_n 0, 1) := by decide +kernel
theorem dX3_hearResponse_52 : decode cX3_hearResponse 52 = .ok (.getfield 33, 3) := by decide +kernel
theorem dX3_hearResponse_55 : decode cX3_hearResponse 55 = .ok (.getfield 128, 3) := by decide +kernel
theorem dX3_hearResponse_58 : decode cX3_hearResponse 58 = .ok (.if_icmp .eq 24, 3) := by decide +kernel
theorem dX3_hearResponse_61 : decode cX3_hearResponse 61 = .ok (.aload_n 1, 1) := by decide +kernel
theorem dX3_hearResponse_62 : decode cX3_hearResponse 62 = .ok (.iload 4, 2) := by decide +kernel
theorem dX3_hearResponse_64 : decode cX3_hearResponse 64 = .ok (.aload_n 0, 1) := by decide +kernel
theorem dX3_hearResponse_65 : decode cX3_hearResponse 65 = .ok (.getfield 33, 3) := by decide +kernel
theorem dX3_hearResponse_68 : decode cX3_hearResponse 68 = .ok (.iload_n 3, 1) := by decide +kernel
theorem dX3_hearResponse_69 : decode cX3_hearResponse 69 = .ok (.invokevirtual 219, 3) := by decide +kernel
theorem dX3_hearResponse_72 : decode cX3_hearResponse 72 = .ok (.aload_n 0, 1) := by decide +kernel
theorem dX3_hearResponse_73 : decode cX3_hearResponse 73 = .ok (.getfield 33, 3) := by decide +kernel
theorem dX3_hearResponse_76 : decode cX3_hearResponse 76 = .ok (.getfield 125, 3) := by decide +kernel
theorem dX3_hearResponse_79 : decode cX3_hearResponse 79 = .ok (.invokevirtual 222, 3) := by decide +kernel
theorem dX3_hearResponse_82 : decode cX3_hearResponse 82 = .ok (.iinc 3 1, 3) := by decide +kernel
theorem dX3_hearResponse_85 : decode cX3_hearResponse 85 = .ok (.goto (-62), 3) := by decide +kernel
theorem dX3_hearResponse_88 : decode cX3_hearResponse 88 = .ok (.return_, 1) := by decide +kernel
theorem dX3_answerRequest_0 : decode cX3_answerRequest 0 = .ok (.aload_n 0, 1) := by decide +kernel
theorem dX3_answerRequest_1 : decode cX3_answerRequest 1 = .ok (.getfield 33, 3) := by decide +kernel
theorem dX3_answerRequest_4 : decode cX3_answerRequest 4 = .ok (.getfield 128, 3) := by decide +kernel
theorem dX3_answerRequest_7 : decode cX3_answerRequest 7 = .ok (.istore_n 1, 1) := by decide +kernel
theorem dX3_answerRequest_8 : decode cX3_answerRequest 8 = .ok (.aload_n 0, 1) := by decide +kernel
theorem dX3_answerRequest_9 : decode cX3_answerRequest 9 = .ok (.getfield 33, 3) := by decide +kernel
theorem dX3_answerRequest_12 : decode cX3_answerRequest 12 = .ok (.invokevirtual 225, 3) := by decide +kernel
theorem dX3_answerRequest_15 : decode cX3_answerRequest 15 = .ok (.ifCond .eq 17, 3) := by decide +kernel
theorem dX3_answerRequest_18 : decode cX3_answerRequest 18 = .ok (.aload_n 0, 1) := by decide +kernel
theorem dX3_answerRequest_19 : decode cX3_answerRequest 19 = .ok (.iload_n 1, 1) := by decide +kernel
theorem dX3_answerRequest_20 : decode cX3_answerRequest 20 = .ok (.aload_n 0, 1) := by decide +kernel
theorem dX3_answerRequest_21 : decode cX3_answerRequest 21 = .ok (.getfield 33, 3) := by decide +kernel
theorem dX3_answerRequest_24 : decode cX3_answerRequest 24 = .ok (.getfield 125, 3) := by decide +kernel
theorem dX3_answerRequest_27 : decode cX3_answerRequest 27 = .ok (.iconst 1, 1) := by decide +kernel
theorem dX3_answerRequest_28 : decode cX3_answerRequest 28 = .ok (.invokevirtual 177, 3) := by decide +kernel
theorem dX3_answerRequest_31 : decode cX3_answerRequest 31 = .ok (.return_, 1) := by decide +kernel
theorem dX3_answerRequest_32 : decode cX3_answerRequest 32 = .ok (.aload_n 0, 1) := by decide +kernel
theorem dX3_answerRequest_33 : decode cX3_answerRequest 33 = .ok (.getfield 29, 3) := by decide +kernel
theorem dX3_answerRequest_36 : decode cX3_answerRequest 36 = .ok (.iload_n 1, 1) := by decide +kernel
theorem dX3_answerRequest_37 : decode cX3_answerRequest 37 = .ok (.aload_n 0, 1) := by decide +kernel
theorem dX3_answerRequest_38 : decode cX3_answerRequest 38 = .ok (.getfield 33, 3) := by decide +kernel
theorem dX3_answerRequest_41 : decode cX3_answerRequest 41 = .ok (.getfield 125, 3) := by decide +kernel
theorem dX3_answerRequest_44 : decode cX3_answerRequest 44 = .ok (.ldc 184, 2) := by decide +kernel
theorem dX3_answerRequest_46 : decode cX3_answerRequest 46 = .ok (.invokevirtual 68, 3) := by decide +kernel
theorem dX3_answerRequest_49 : decode cX3_answerRequest 49 = .ok (.aload_n 0, 1) := by decide +kernel
theorem dX3_answerRequest_50 : decode cX3_answerRequest 50 = .ok (.getfield 33, 3) := by decide +kernel
theorem dX3_answerRequest_53 : decode cX3_answerRequest 53 = .ok (.invokevirtual 209, 3) := by decide +kernel
theorem dX3_answerRequest_56 : decode cX3_answerRequest 56 = .ok (.istore_n 2, 1) := by decide +kernel
theorem dX3_answerRequest_57 : decode cX3_answerRequest 57 = .ok (.iconst 0, 1) := by decide +kernel
theorem dX3_answerRequest_58 : decode cX3_answerRequest 58 = .ok (.istore_n 3, 1) := by decide +kernel
theorem dX3_answerRequest_59 : decode cX3_answerRequest 59 = .ok (.iload_n 3, 1) := by decide +kernel
theorem dX3_answerRequest_60 : decode cX3_answerRequest 60 = .ok (.iload_n 2, 1) := by decide +kernel
theorem dX3_answerRequest_61 : decode cX3_answerRequest 61 = .ok (.if_icmp .ge 47, 3) := by decide +kernel
theorem dX3_answerRequest_64 : decode cX3_answerRequest 64 = .ok (.aload_n 0, 1) := by decide +kernel
theorem dX3_answerRequest_65 : decode cX3_answerRequest 65 = .ok (.getfield 33, 3) := by decide +kernel
theorem dX3_answerRequest_68 : decode cX3_answerRequest 68 = .ok (.iload_n 3, 1) := by decide +kernel
theorem dX3_answerRequest_69 : decode cX3_answerRequest 69 = .ok (.invokevirtual 213, 3) := by decide +kernel
theorem dX3_answerRequest_72 : decode cX3_answerRequest 72 = .ok (.ifCond .eq 30, 3) := by decide +kernel
theorem dX3_answerRequest_75 : decode cX3_answerRequest 75 = .ok (.aload_n 0, 1) := by decide +kernel
theorem dX3_answerRequest_76 : decode cX3_answerRequest 76 = .ok (.getfield 33, 3) := by decide +kernel
theorem dX3_answerRequest_79 : decode cX3_answerRequest 79 = .ok (.iload_n 3, 1) := by decide +kernel
theorem dX3_answerRequest_80 : decode cX3_answerRequest 80 = .ok (.invokevirtual 216, 3) := by decide +kernel
theorem dX3_answerRequest_83 : decode cX3_answerRequest 83 = .ok (.istore 4, 2) := by decide +kernel
theorem dX3_answerRequest_85 : decode cX3_answerRequest 85 = .ok (.aload_n 0, 1) := by decide +kernel
theorem dX3_answerRequest_86 : decode cX3_answerRequest 86 = .ok (.getfield 29, 3) := by decide +kernel
theorem dX3_answerRequest_89 : decode cX3_answerRequest 89 = .ok (.iconst 2, 1) := by decide +kernel
theorem dX3_answerRequest_90 : decode cX3_answerRequest 90 = .ok (.iload 4, 2) := by decide +kernel
theorem dX3_answerRequest_92 : decode cX3_answerRequest 92 = .ok (.aload_n 0, 1) := by decide +kernel
theorem dX3_answerRequest_93 : decode cX3_answerRequest 93 = .ok (.iload_n 1, 1) := by decide +kernel
theorem dX3_answerRequest_94 : decode cX3_answerRequest 94 = .ok (.iload 4, 2) := by decide +kernel
theorem dX3_answerRequest_96 : decode cX3_answerRequest 96 = .ok (.invokevirtual 228, 3) := by decide +kernel
theorem dX3_answerRequest_99 : decode cX3_answerRequest 99 = .ok (.invokevirtual 72, 3) := by decide +kernel
theorem dX3_answerRequest_102 : decode cX3_answerRequest 102 = .ok (.iinc 3 1, 3) := by decide +kernel
theorem dX3_answerRequest_105 : decode cX3_answerRequest 105 = .ok (.goto (-46), 3) := by decide +kernel
theorem dX3_answerRequest_108 : decode cX3_answerRequest 108 = .ok (.aload_n 0, 1) := by decide +kernel
theorem dX3_answerRequest_109 : decode cX3_answerRequest 109 = .ok (.getfield 29, 3) := by decide +kernel
theorem dX3_answerRequest_112 : decode cX3_answerRequest 112 = .ok (.invokevirtual 209, 3) := by decide +kernel
theorem dX3_answerRequest_115 : decode cX3_answerRequest 115 = .ok (.ifCond .le 14, 3) := by decide +kernel
theorem dX3_answerRequest_118 : decode cX3_answerRequest 118 = .ok (.aload_n 0, 1) := by decide +kernel
theorem dX3_answerRequest_119 : decode cX3_answerRequest 119 = .ok (.getfield 22, 3) := by decide +kernel
theorem dX3_answerRequest_122 : decode cX3_answerRequest 122 = .ok (.aload_n 0, 1) := by decide +kernel
theorem dX3_answerRequest_123 : decode cX3_answerRequest 123 = .ok (.getfield 29, 3) := by decide +kernel
theorem dX3_answerRequest_126 : decode cX3_answerRequest 126 = .ok (.invokevirtual 75, 3) := by decide +kernel
theorem dX3_answerRequest_129 : decode cX3_answerRequest 129 = .ok (.return_, 1) := by decide +kernel
theorem dX3_metricAnswered_0 : decode cX3_metricAnswered 0 = .ok (.iload_n 2, 1) := by decide +kernel
theorem dX3_metricAnswered_1 : decode cX3_metricAnswered 1 = .ok (.iload_n 1, 1) := by decide +kernel
theorem dX3_metricAnswered_2 : decode cX3_metricAnswered 2 = .ok (.if_icmp .ne 5, 3) := by decide +kernel
theorem dX3_metricAnswered_5 : decode cX3_metricAnswered 5 = .ok (.iconst 1, 1) := by decide +kernel
theorem dX3_metricAnswered_6 : decode cX3_metricAnswered 6 = .ok (.ireturn, 1) := by decide +kernel
theorem dX3_metricAnswered_7 : decode cX3_metricAnswered 7 = .ok (.aload_n 0, 1) := by decide +kernel
theorem dX3_metricAnswered_8 : decode cX3_metricAnswered 8 = .ok (.getfield 15, 3) := by decide +kernel
theorem dX3_metricAnswered_11 : decode cX3_metricAnswered 11 = .ok (.iload_n 1, 1) := by decide +kernel
theorem dX3_metricAnswered_12 : decode cX3_metricAnswered 12 = .ok (.aaload, 1) := by decide +kernel
theorem dX3_metricAnswered_13 : decode cX3_metricAnswered 13 = .ok (.iload_n 2, 1) := by decide +kernel
theorem dX3_metricAnswered_14 : decode cX3_metricAnswered 14 = .ok (.invokevirtual 185, 3) := by decide +kernel
theorem dX3_metricAnswered_17 : decode cX3_metricAnswered 17 = .ok (.ifCond .eq 17, 3) := by decide +kernel
theorem dX3_metricAnswered_20 : decode cX3_metricAnswered 20 = .ok (.aload_n 0, 1) := by decide +kernel
theorem dX3_metricAnswered_21 : decode cX3_metricAnswered 21 = .ok (.getfield 15, 3) := by decide +kernel
theorem dX3_metricAnswered_24 : decode cX3_metricAnswered 24 = .ok (.iload_n 1, 1) := by decide +kernel
theorem dX3_metricAnswered_25 : decode cX3_metricAnswered 25 = .ok (.aaload, 1) := by decide +kernel
theorem dX3_metricAnswered_26 : decode cX3_metricAnswered 26 = .ok (.getfield 231, 3) := by decide +kernel
theorem dX3_metricAnswered_29 : decode cX3_metricAnswered 29 = .ok (.iload_n 2, 1) := by decide +kernel
theorem dX3_metricAnswered_30 : decode cX3_metricAnswered 30 = .ok (.iaload, 1) := by decide +kernel
theorem dX3_metricAnswered_31 : decode cX3_metricAnswered 31 = .ok (.goto 5, 3) := by decide +kernel
theorem dX3_metricAnswered_34 : decode cX3_metricAnswered 34 = .ok (.bipush 16, 2) := by decide +kernel
theorem dX3_metricAnswered_36 : decode cX3_metricAnswered 36 = .ok (.ireturn, 1) := by decide +kernel
theorem dX4_init_0 : decode cX4_init 0 = .ok (.aload_n 0, 1) := by decide +kernel
theorem dX4_init_1 : decode cX4_init 1 = .ok (.invokespecial 1, 3) := by decide +kernel
theorem dX4_init_4 : decode cX4_init 4 = .ok (.aload_n 0, 1) := by decide +kernel
theorem dX4_init_5 : decode cX4_init 5 = .ok (.bipush 64, 2) := by decide +kernel
theorem dX4_init_7 : decode cX4_init 7 = .ok (.newarray .boolean, 2) := by decide +kernel
theorem dX4_init_9 : decode cX4_init 9 = .ok (.putfield 7, 3) := by decide +kernel
theorem dX4_init_12 : decode cX4_init 12 = .ok (.aload_n 0, 1) := by decide +kernel
theorem dX4_init_13 : decode cX4_init 13 = .ok (.bipush 64, 2) := by decide +kernel
theorem dX4_init_15 : decode cX4_init 15 = .ok (.newarray .int, 2) := by decide +kernel
theorem dX4_init_17 : decode cX4_init 17 = .ok (.putfield 13, 3) := by decide +kernel
theorem dX4_init_20 : decode cX4_init 20 = .ok (.aload_n 0, 1) := by decide +kernel
theorem dX4_init_21 : decode cX4_init 21 = .ok (.bipush 64, 2) := by decide +kernel
theorem dX4_init_23 : decode cX4_init 23 = .ok (.newarray .int, 2) := by decide +kernel
theorem dX4_init_25 : decode cX4_init 25 = .ok (.putfield 17, 3) := by decide +kernel
theorem dX4_init_28 : decode cX4_init 28 = .ok (.aload_n 0, 1) := by decide +kernel
theorem dX4_init_29 : decode cX4_init 29 = .ok (.bipush 64, 2) := by decide +kernel
theorem dX4_init_31 : decode cX4_init 31 = .ok (.newarray .int, 2) := by decide +kernel
theorem dX4_init_33 : decode cX4_init 33 = .ok (.putfield 20, 3) := by decide +kernel
theorem dX4_init_36 : decode cX4_init 36 = .ok (.aload_n 0, 1) := by decide +kernel
theorem dX4_init_37 : decode cX4_init 37 = .ok (.bipush 64, 2) := by decide +kernel
theorem dX4_init_39 : decode cX4_init 39 = .ok (.newarray .boolean, 2) := by decide +kernel
theorem dX4_init_41 : decode cX4_init 41 = .ok (.putfield 23, 3) := by decide +kernel
theorem dX4_init_44 : decode cX4_init 44 = .ok (.aload_n 0, 1) := by decide +kernel
theorem dX4_init_45 : decode cX4_init 45 = .ok (.bipush 64, 2) := by decide +kernel
theorem dX4_init_47 : decode cX4_init 47 = .ok (.newarray .int, 2) := by decide +kernel
theorem dX4_init_49 : decode cX4_init 49 = .ok (.putfield 26, 3) := by decide +kernel
theorem dX4_init_52 : decode cX4_init 52 = .ok (.aload_n 0, 1) := by decide +kernel
theorem dX4_init_53 : decode cX4_init 53 = .ok (.sipush 200, 3) := by decide +kernel
theorem dX4_init_56 : decode cX4_init 56 = .ok (.newarray .int, 2) := by decide +kernel
theorem dX4_init_58 : decode cX4_init 58 = .ok (.putfield 29, 3) := by decide +kernel
theorem dX4_init_61 : decode cX4_init 61 = .ok (.aload_n 0, 1) := by decide +kernel
theorem dX4_init_62 : decode cX4_init 62 = .ok (.sipush 200, 3) := by decide +kernel
theorem dX4_init_65 : decode cX4_init 65 = .ok (.newarray .int, 2) := by decide +kernel
theorem dX4_init_67 : decode cX4_init 67 = .ok (.putfield 32, 3) := by decide +kernel
theorem dX4_init_70 : decode cX4_init 70 = .ok (.aload_n 0, 1) := by decide +kernel
theorem dX4_init_71 : decode cX4_init 71 = .ok (.sipush 200, 3) := by decide +kernel
theorem dX4_init_74 : decode cX4_init 74 = .ok (.newarray .int, 2) := by decide +kernel
theorem dX4_init_76 : decode cX4_init 76 = .ok (.putfield 35, 3) := by decide +kernel
theorem dX4_init_79 : decode cX4_init 79 = .ok (.aload_n 0, 1) := by decide +kernel
theorem dX4_init_80 : decode cX4_init 80 = .ok (.ldc 38, 2) := by decide +kernel
theorem dX4_init_82 : decode cX4_init 82 = .ok (.newarray .int, 2) := by decide +kernel
theorem dX4_init_84 : decode cX4_init 84 = .ok (.putfield 39, 3) := by decide +kernel
theorem dX4_init_87 : decode cX4_init 87 = .ok (.aload_n 0, 1) := by decide +kernel
theorem dX4_init_88 : decode cX4_init 88 = .ok (.sipush 164, 3) := by decide +kernel
theorem dX4_init_91 : decode cX4_init 91 = .ok (.newarray .int, 2) := by decide +kernel
theorem dX4_init_93 : decode cX4_init 93 = .ok (.putfield 42, 3) := by decide +kernel
theorem dX4_init_96 : decode cX4_init 96 = .ok (.aload_n 0, 1) := by decide +kernel
theorem dX4_init_97 : decode cX4_init 97 = .ok (.sipush 164, 3) := by decide +kernel
theorem dX4_init_100 : decode cX4_init 100 = .ok (.newarray .int, 2) := by decide +kernel
theorem dX4_init_102 : decode cX4_init 102 = .ok (.putfield 45, 3) := by decide +kernel
theorem dX4_init_105 : decode cX4_init 105 = .ok (.return_, 1) := by decide +kernel
theorem dX4_thrown_0 : decode cX4_thrown 0 = .ok (.aload_n 0, 1) := by decide +kernel
theorem dX4_thrown_1 : decode cX4_thrown 1 = .ok (.getfield 48, 3) := by decide +kernel
theorem dX4_thrown_4 : decode cX4_thrown 4 = .ok (.ireturn, 1) := by decide +kernel
theorem dX4_in_0 : decode cX4_in 0 = .ok (.iload_n 0, 1) := by decide +kernel
theorem dX4_in_1 : decode cX4_in 1 = .ok (.iload_n 1, 1) := by decide +kernel
theorem dX4_in_2 : decode cX4_in 2 = .ok (.if_icmp .lt 12, 3) := by decide +kernel
theorem dX4_in_5 : decode cX4_in 5 = .ok (.iload_n 0, 1) := by decide +kernel
theorem dX4_in_6 : decode cX4_in 6 = .ok (.iload_n 2, 1) := by decide +kernel
theorem dX4_in_7 : decode cX4_in 7 = .ok (.if_icmp .gt 7, 3) := by decide +kernel
theorem dX4_in_10 : decode cX4_in 10 = .ok (.iconst 1, 1) := by decide +kernel
theorem dX4_in_11 : decode cX4_in 11 = .ok (.goto 4, 3) := by decide +kernel
theorem dX4_in_14 : decode cX4_in 14 = .ok (.iconst 0, 1) := by decide +kernel
theorem dX4_in_15 : decode cX4_in 15 = .ok (.ireturn, 1) := by decide +kernel
theorem dX4_isRouter_0 : decode cX4_isRouter 0 = .ok (.iload_n 0, 1) := by decide +kernel
theorem dX4_isRouter_1 : decode cX4_isRouter 1 = .ok (.iconst 0, 1) := by decide +kernel
theorem dX4_isRouter_2 : decode cX4_isRouter 2 = .ok (.bipush 7, 2) := by decide +kernel
theorem dX4_isRouter_4 : decode cX4_isRouter 4 = .ok (.invokestatic 52, 3) := by decide +kernel
theorem dX4_isRouter_7 : decode cX4_isRouter 7 = .ok (.ireturn, 1) := by decide +kernel
theorem dX4_refuses_0 : decode cX4_refuses 0 = .ok (.aload_n 0, 1) := by decide +kernel
theorem dX4_refuses_1 : decode cX4_refuses 1 = .ok (.getfield 48, 3) := by decide +kernel
theorem dX4_refuses_4 : decode cX4_refuses 4 = .ok (.ifCond .ne 12, 3) := by decide +kernel
theorem dX4_refuses_7 : decode cX4_refuses 7 = .ok (.iload_n 1, 1) := by decide +kernel
theorem dX4_refuses_8 : decode cX4_refuses 8 = .ok (.ifCond .eq 8, 3) := by decide +kernel
theorem dX4_refuses_11 : decode cX4_refuses 11 = .ok (.aload_n 0, 1) := by decide +kernel
theorem dX4_refuses_12 : decode cX4_refuses 12 = .ok (.iload_n 2, 1) := by decide +kernel
theorem dX4_refuses_13 : decode cX4_refuses 13 = .ok (.putfield 48, 3) := by decide +kernel
theorem dX4_refuses_16 : decode cX4_refuses 16 = .ok (.aload_n 0, 1) := by decide +kernel
theorem dX4_refuses_17 : decode cX4_refuses 17 = .ok (.getfield 48, 3) := by decide +kernel
theorem dX4_refuses_20 : decode cX4_refuses 20 = .ok (.ifCond .le 7, 3) := by decide +kernel
theorem dX4_refuses_23 : decode cX4_refuses 23 = .ok (.iconst 1, 1) := by decide +kernel
theorem dX4_refuses_24 : decode cX4_refuses 24 = .ok (.goto 4, 3) := by decide +kernel
theorem dX4_refuses_27 : decode cX4_refuses 27 = .ok (.iconst 0, 1) := by decide +kernel
theorem dX4_refuses_28 : decode cX4_refuses 28 = .ok (.ireturn, 1) := by decide +kernel
theorem dX4_begin_0 : decode cX4_begin 0 = .ok (.aload_n 0, 1) := by decide +kernel
theorem dX4_begin_1 : decode cX4_begin 1 = .ok (.iconst 0, 1) := by decide +kernel
theorem dX4_begin_2 : decode cX4_begin 2 = .ok (.putfield 56, 3) := by decide +kernel
theorem dX4_begin_5 : decode cX4_begin 5 = .ok (.aload_n 0, 1) := by decide +kernel
theorem dX4_begin_6 : decode cX4_begin 6 = .ok (.iload_n 1, 1) := by decide +kernel
theorem dX4_begin_7 : decode cX4_begin 7 = .ok (.invokevirtual 59, 3) := by decide +kernel
theorem dX4_begin_10 : decode cX4_begin 10 = .ok (.aload_n 0, 1) := by decide +kernel
theorem dX4_begin_11 : decode cX4_begin 11 = .ok (.iconst 2, 1) := by decide +kernel
theorem dX4_begin_12 : decode cX4_begin 12 = .ok (.invokevirtual 59, 3) := by decide +kernel
theorem dX4_begin_15 : decode cX4_begin 15 = .ok (.aload_n 0, 1) := by decide +kernel
theorem dX4_begin_16 : decode cX4_begin 16 = .ok (.iconst 0, 1) := by decide +kernel
theorem dX4_begin_17 : decode cX4_begin 17 = .ok (.invokevirtual 59, 3) := by decide +kernel
theorem dX4_begin_20 : decode cX4_begin 20 = .ok (.aload_n 0, 1) := by decide +kernel
theorem dX4_begin_21 : decode cX4_begin 21 = .ok (.iconst 0, 1) := by decide +kernel
theorem dX4_begin_22 : decode cX4_begin 22 = .ok (.invokevirtual 59, 3) := by decide +kernel
theorem dX4_begin_25 : decode cX4_begin 25 = .ok (.return_, 1) := by decide +kernel
theorem dX4_put_0 : decode cX4_put 0 = .ok (.aload_n 0, 1) := by decide +kernel
theorem dX4_put_1 : decode cX4_put 1 = .ok (.getfield 42, 3) := by decide +kernel
theorem dX4_put_4 : decode cX4_put 4 = .ok (.aload_n 0, 1) := by decide +kernel
theorem dX4_put_5 : decode cX4_put 5 = .ok (.getfield 56, 3) := by decide +kernel
theorem dX4_put_8 : decode cX4_put 8 = .ok (.iload_n 1, 1) := by decide +kernel
theorem dX4_put_9 : decode cX4_put 9 = .ok (.iastore, 1) := by decide +kernel
theorem dX4_put_10 : decode cX4_put 10 = .ok (.aload_n 0, 1) := by decide +kernel
theorem dX4_put_11 : decode cX4_put 11 = .ok (.dup, 1) := by decide +kernel
theorem dX4_put_12 : decode cX4_put 12 = .ok (.getfield 56, 3) := by decide +kernel
theorem dX4_put_15 : decode cX4_put 15 = .ok (.iconst 1, 1) := by decide +kernel
theorem dX4_put_16 : decode cX4_put 16 = .ok (.iadd, 1) := by decide +kernel
theorem dX4_put_17 : decode cX4_put 17 = .ok (.putfield 56, 3) := by decide +kernel
theorem dX4_put_20 : decode cX4_put 20 = .ok (.return_, 1) := by decide +kernel
theorem dX4_entry_0 : decode cX4_entry 0 = .ok (.aload_n 0, 1) := by decide +kernel
theorem dX4_entry_1 : decode cX4_entry 1 = .ok (.iconst 0, 1) := by decide +kernel
theorem dX4_entry_2 : decode cX4_entry 2 = .ok (.invokevirtual 59, 3) := by decide +kernel
theorem dX4_entry_5 : decode cX4_entry 5 = .ok (.aload_n 0, 1) := by decide +kernel
theorem dX4_entry_6 : decode cX4_entry 6 = .ok (.iload_n 1, 1) := by decide +kernel
theorem dX4_entry_7 : decode cX4_entry 7 = .ok (.invokevirtual 59, 3) := by decide +kernel
theorem dX4_entry_10 : decode cX4_entry 10 = .ok (.aload_n 0, 1) := by decide +kernel
theorem dX4_entry_11 : decode cX4_entry 11 = .ok (.iconst 0, 1) := by decide +kernel
theorem dX4_entry_12 : decode cX4_entry 12 = .ok (.invokevirtual 59, 3) := by decide +kernel
theorem dX4_entry_15 : decode cX4_entry 15 = .ok (.aload_n 0, 1) := by decide +kernel
theorem dX4_entry_16 : decode cX4_entry 16 = .ok (.iconst 0, 1) := by decide +kernel
theorem dX4_entry_17 : decode cX4_entry 17 = .ok (.invokevirtual 59, 3) := by decide +kernel
theorem dX4_entry_20 : decode cX4_entry 20 = .ok (.aload_n 0, 1) := by decide +kernel
theorem dX4_entry_21 : decode cX4_entry 21 = .ok (.bipush 10, 2) := by decide +kernel
theorem dX4_entry_23 : decode cX4_entry 23 = .ok (.invokevirtual 59, 3) := by decide +kernel
theorem dX4_entry_26 : decode cX4_entry 26 = .ok (.aload_n 0, 1) := by decide +kernel
theorem dX4_entry_27 : decode cX4_entry 27 = .ok (.iconst 0, 1) := by decide +kernel
theorem dX4_entry_28 : decode cX4_entry 28 = .ok (.invokevirtual 59, 3) := by decide +kernel
theorem dX4_entry_31 : decode cX4_entry 31 = .ok (.aload_n 0, 1) := by decide +kernel
theorem dX4_entry_32 : decode cX4_entry 32 = .ok (.iload_n 2, 1) := by decide +kernel
theorem dX4_entry_33 : decode cX4_entry 33 = .ok (.invokevirtual 59, 3) := by decide +kernel
theorem dX4_entry_36 : decode cX4_entry 36 = .ok (.aload_n 0, 1) := by decide +kernel
theorem dX4_entry_37 : decode cX4_entry 37 = .ok (.iconst 0, 1) := by decide +kernel
theorem dX4_entry_38 : decode cX4_entry 38 = .ok (.invokevirtual 59, 3) := by decide +kernel
theorem dX4_entry_41 : decode cX4_entry 41 = .ok (.aload_n 0, 1) := by decide +kernel
theorem dX4_entry_42 : decode cX4_entry 42 = .ok (.sipush 255, 3) := by decide +kernel
theorem dX4_entry_45 : decode cX4_entry 45 = .ok (.invokevirtual 59, 3) := by decide +kernel
theorem dX4_entry_48 : decode cX4_entry 48 = .ok (.aload_n 0, 1) := by decide +kernel
theorem dX4_entry_49 : decode cX4_entry 49 = .ok (.sipush 255, 3) := by decide +kernel
theorem dX4_entry_52 : decode cX4_entry 52 = .ok (.invokevirtual 59, 3) := by decide +kernel
theorem dX4_entry_55 : decode cX4_entry 55 = .ok (.aload_n 0, 1) := by decide +kernel
theorem dX4_entry_56 : decode cX4_entry 56 = .ok (.sipush 255, 3) := by decide +kernel
theorem dX4_entry_59 : decode cX4_entry 59 = .ok (.invokevirtual 59, 3) := by decide +kernel
theorem dX4_entry_62 : decode cX4_entry 62 = .ok (.iconst 0, 1) := by decide +kernel
theorem dX4_entry_63 : decode cX4_entry 63 = .ok (.istore 4, 2) := by decide +kernel
theorem dX4_entry_65 : decode cX4_entry 65 = .ok (.iload 4, 2) := by decide +kernel
theorem dX4_entry_67 : decode cX4_entry 67 = .ok (.bipush 8, 2) := by decide +kernel
theorem dX4_entry_69 : decode cX4_entry 69 = .ok (.if_icmp .ge 14, 3) := by decide +kernel
theorem dX4_entry_72 : decode cX4_entry 72 = .ok (.aload_n 0, 1) := by decide +kernel
theorem dX4_entry_73 : decode cX4_entry 73 = .ok (.iconst 0, 1) := by decide +kernel
theorem dX4_entry_74 : decode cX4_entry 74 = .ok (.invokevirtual 59, 3) := by decide +kernel
theorem dX4_entry_77 : decode cX4_entry 77 = .ok (.iinc 4 1, 3) := by decide +kernel
theorem dX4_entry_80 : decode cX4_entry 80 = .ok (.goto (-15), 3) := by decide +kernel
theorem dX4_entry_83 : decode cX4_entry 83 = .ok (.aload_n 0, 1) := by decide +kernel
theorem dX4_entry_84 : decode cX4_entry 84 = .ok (.iload_n 3, 1) := by decide +kernel
theorem dX4_entry_85 : decode cX4_entry 85 = .ok (.invokevirtual 59, 3) := by decide +kernel
theorem dX4_entry_88 : decode cX4_entry 88 = .ok (.return_, 1) := by decide +kernel
theorem dX4_post_0 : decode cX4_post 0 = .ok (.aload_n 0, 1) := by decide +kernel
theorem dX4_post_1 : decode cX4_post 1 = .ok (.dup, 1) := by decide +kernel
theorem dX4_post_2 : decode cX4_post 2 = .ok (.getfield 63, 3) := by decide +kernel
theorem dX4_post_5 : decode cX4_post 5 = .ok (.iconst 1, 1) := by decide +kernel
theorem dX4_post_6 : decode cX4_post 6 = .ok (.iadd, 1) := by decide +kernel
theorem dX4_post_7 : decode cX4_post 7 = .ok (.putfield 63, 3) := by decide +kernel
theorem dX4_post_10 : decode cX4_post 10 = .ok (.aload_n 0, 1) := by decide +kernel
theorem dX4_post_11 : decode cX4_post 11 = .ok (.getfield 66, 3) := by decide +kernel
theorem dX4_post_14 : decode cX4_post 14 = .ok (.sipush 200, 3) := by decide +kernel
theorem dX4_post_17 : decode cX4_post 17 = .ok (.if_icmp .ne 14, 3) := by decide +kernel
theorem dX4_post_20 : decode cX4_post 20 = .ok (.aload_n 0, 1) := by decide +kernel
theorem dX4_post_21 : decode cX4_post 21 = .ok (.dup, 1) := by decide +kernel
theorem dX4_post_22 : decode cX4_post 22 = .ok (.getfield 69, 3) := by decide +kernel
theorem dX4_post_25 : decode cX4_post 25 = .ok (.iconst 1, 1) := by decide +kernel
theorem dX4_post_26 : decode cX4_post 26 = .ok (.iadd, 1) := by decide +kernel
theorem dX4_post_27 : decode cX4_post 27 = .ok (.putfield 69, 3) := by decide +kernel
theorem dX4_post_30 : decode cX4_post 30 = .ok (.return_, 1) := by decide +kernel
theorem dX4_post_31 : decode cX4_post 31 = .ok (.aload_n 0, 1) := by decide +kernel
theorem dX4_post_32 : decode cX4_post 32 = .ok (.getfield 29, 3) := by decide +kernel
theorem dX4_post_35 : decode cX4_post 35 = .ok (.aload_n 0, 1) := by decide +kernel
theorem dX4_post_36 : decode cX4_post 36 = .ok (.getfield 66, 3) := by decide +kernel
theorem dX4_post_39 : decode cX4_post 39 = .ok (.iload_n 1, 1) := by decide +kernel
theorem dX4_post_40 : decode cX4_post 40 = .ok (.iastore, 1) := by decide +kernel
theorem dX4_post_41 : decode cX4_post 41 = .ok (.aload_n 0, 1) := by decide +kernel
theorem dX4_post_42 : decode cX4_post 42 = .ok (.getfield 32, 3) := by decide +kernel
theorem dX4_post_45 : decode cX4_post 45 = .ok (.aload_n 0, 1) := by decide +kernel
theorem dX4_post_46 : decode cX4_post 46 = .ok (.getfield 66, 3) := by decide +kernel
theorem dX4_post_49 : decode cX4_post 49 = .ok (.iload_n 2, 1) := by decide +kernel
theorem dX4_post_50 : decode cX4_post 50 = .ok (.iastore, 1) := by decide +kernel
theorem dX4_post_51 : decode cX4_post 51 = .ok (.aload_n 0, 1) := by decide +kernel
theorem dX4_post_52 : decode cX4_post 52 = .ok (.getfield 35, 3) := by decide +kernel
theorem dX4_post_55 : decode cX4_post 55 = .ok (.aload_n 0, 1) := by decide +kernel
theorem dX4_post_56 : decode cX4_post 56 = .ok (.getfield 66, 3) := by decide +kernel
theorem dX4_post_59 : decode cX4_post 59 = .ok (.aload_n 0, 1) := by decide +kernel
theorem dX4_post_60 : decode cX4_post 60 = .ok (.getfield 56, 3) := by decide +kernel
theorem dX4_post_63 : decode cX4_post 63 = .ok (.iastore, 1) := by decide +kernel
theorem dX4_post_64 : decode cX4_post 64 = .ok (.iconst 0, 1) := by decide +kernel
theorem dX4_post_65 : decode cX4_post 65 = .ok (.istore_n 3, 1) := by decide +kernel
theorem dX4_post_66 : decode cX4_post 66 = .ok (.iload_n 3, 1) := by decide +kernel
theorem dX4_post_67 : decode cX4_post 67 = .ok (.aload_n 0, 1) := by decide +kernel
theorem dX4_post_68 : decode cX4_post 68 = .ok (.getfield 56, 3) := by decide +kernel
theorem dX4_post_71 : decode cX4_post 71 = .ok (.if_icmp .ge 30, 3) := by decide +kernel
theorem dX4_post_74 : decode cX4_post 74 = .ok (.aload_n 0, 1) := by decide +kernel
theorem dX4_post_75 : decode cX4_post 75 = .ok (.getfield 39, 3) := by decide +kernel
theorem dX4_post_78 : decode cX4_post 78 = .ok (.sipush 164, 3) := by decide +kernel
theorem dX4_post_81 : decode cX4_post 81 = .ok (.aload_n 0, 1) := by decide +kernel
theorem dX4_post_82 : decode cX4_post 82 = .ok (.getfield 66, 3) := by decide +kernel
theorem dX4_post_85 : decode cX4_post 85 = .ok (.imul, 1) := by decide +kernel
theorem dX4_post_86 : decode cX4_post 86 = .ok (.iload_n 3, 1) := by decide +kernel
theorem dX4_post_87 : decode cX4_post 87 = .ok (.iadd, 1) := by decide +kernel
theorem dX4_post_88 : decode cX4_post 88 = .ok (.aload_n 0, 1) := by decide +kernel
theorem dX4_post_89 : decode cX4_post 89 = .ok (.getfield 42, 3) := by decide +kernel
theorem dX4_post_92 : decode cX4_post 92 = .ok (.iload_n 3, 1) := by decide +kernel
theorem dX4_post_93 : decode cX4_post 93 = .ok (.iaload, 1) := by decide +kernel
theorem dX4_post_94 : decode cX4_post 94 = .ok (.iastore, 1) := by decide +kernel
theorem dX4_post_95 : decode cX4_post 95 = .ok (.iinc 3 1, 3) := by decide +kernel
theorem dX4_post_98 : decode cX4_post 98 = .ok (.goto (-32), 3) := by decide +kernel
theorem dX4_post_101 : decode cX4_post 101 = .ok (.aload_n 0, 1) := by decide +kernel
theorem dX4_post_102 : decode cX4_post 102 = .ok (.dup, 1) := by decide +kernel
theorem dX4_post_103 : decode cX4_post 103 = .ok (.getfield 66, 3) := by decide +kernel
theorem dX4_post_106 : decode cX4_post 106 = .ok (.iconst 1, 1) := by decide +kernel
theorem dX4_post_107 : decode cX4_post 107 = .ok (.iadd, 1) := by decide +kernel
theorem dX4_post_108 : decode cX4_post 108 = .ok (.putfield 66, 3) := by decide +kernel
theorem dX4_post_111 : decode cX4_post 111 = .ok (.return_, 1) := by decide +kernel
theorem dX4_takeOut_0 : decode cX4_takeOut 0 = .ok (.aload_n 0, 1) := by decide +kernel
theorem dX4_takeOut_1 : decode cX4_takeOut 1 = .ok (.dup, 1) := by decide +kernel
theorem dX4_takeOut_2 : decode cX4_takeOut 2 = .ok (.getfield 66, 3) := by decide +kernel
theorem dX4_takeOut_5 : decode cX4_takeOut 5 = .ok (.iconst 1, 1) := by decide +kernel
theorem dX4_takeOut_6 : decode cX4_takeOut 6 = .ok (.isub, 1) := by decide +kernel
theorem dX4_takeOut_7 : decode cX4_takeOut 7 = .ok (.putfield 66, 3) := by decide +kernel
theorem dX4_takeOut_10 : decode cX4_takeOut 10 = .ok (.iload_n 1, 1) := by decide +kernel
theorem dX4_takeOut_11 : decode cX4_takeOut 11 = .ok (.istore_n 2, 1) := by decide +kernel
theorem dX4_takeOut_12 : decode cX4_takeOut 12 = .ok (.iload_n 2, 1) := by decide +kernel
theorem dX4_takeOut_13 : decode cX4_takeOut 13 = .ok (.aload_n 0, 1) := by decide +kernel
theorem dX4_takeOut_14 : decode cX4_takeOut 14 = .ok (.getfield 66, 3) := by decide +kernel
theorem dX4_takeOut_17 : decode cX4_takeOut 17 = .ok (.if_icmp .ge 92, 3) := by decide +kernel
theorem dX4_takeOut_20 : decode cX4_takeOut 20 = .ok (.aload_n 0, 1) := by decide +kernel
theorem dX4_takeOut_21 : decode cX4_takeOut 21 = .ok (.getfield 29, 3) := by decide +kernel
theorem dX4_takeOut_24 : decode cX4_takeOut 24 = .ok (.iload_n 2, 1) := by decide +kernel
theorem dX4_takeOut_25 : decode cX4_takeOut 25 = .ok (.aload_n 0, 1) := by decide +kernel
theorem dX4_takeOut_26 : decode cX4_takeOut 26 = .ok (.getfield 29, 3) := by decide +kernel
theorem dX4_takeOut_29 : decode cX4_takeOut 29 = .ok (.iload_n 2, 1) := by decide +kernel
theorem dX4_takeOut_30 : decode cX4_takeOut 30 = .ok (.iconst 1, 1) := by decide +kernel
theorem dX4_takeOut_31 : decode cX4_takeOut 31 = .ok (.iadd, 1) := by decide +kernel
theorem dX4_takeOut_32 : decode cX4_takeOut 32 = .ok (.iaload, 1) := by decide +kernel
theorem dX4_takeOut_33 : decode cX4_takeOut 33 = .ok (.iastore, 1) := by decide +kernel
theorem dX4_takeOut_34 : decode cX4_takeOut 34 = .ok (.aload_n 0, 1) := by decide +kernel
theorem dX4_takeOut_35 : decode cX4_takeOut 35 = .ok (.getfield 32, 3) := by decide +kernel
theorem dX4_takeOut_38 : decode cX4_takeOut 38 = .ok (.iload_n 2, 1) := by decide +kernel
theorem dX4_takeOut_39 : decode cX4_takeOut 39 = .ok (.aload_n 0, 1) := by decide +kernel
theorem dX4_takeOut_40 : decode cX4_takeOut 40 = .ok (.getfield 32, 3) := by decide +kernel
theorem dX4_takeOut_43 : decode cX4_takeOut 43 = .ok (.iload_n 2, 1) := by decide +kernel
theorem dX4_takeOut_44 : decode cX4_takeOut 44 = .ok (.iconst 1, 1) := by decide +kernel
theorem dX4_takeOut_45 : decode cX4_takeOut 45 = .ok (.iadd, 1) := by decide +kernel
theorem dX4_takeOut_46 : decode cX4_takeOut 46 = .ok (.iaload, 1) := by decide +kernel
theorem dX4_takeOut_47 : decode cX4_takeOut 47 = .ok (.iastore, 1) := by decide +kernel
theorem dX4_takeOut_48 : decode cX4_takeOut 48 = .ok (.aload_n 0, 1) := by decide +kernel
theorem dX4_takeOut_49 : decode cX4_takeOut 49 = .ok (.getfield 35, 3) := by decide +kernel
theorem dX4_takeOut_52 : decode cX4_takeOut 52 = .ok (.iload_n 2, 1) := by decide +kernel
theorem dX4_takeOut_53 : decode cX4_takeOut 53 = .ok (.aload_n 0, 1) := by decide +kernel
theorem dX4_takeOut_54 : decode cX4_takeOut 54 = .ok (.getfield 35, 3) := by decide +kernel
theorem dX4_takeOut_57 : decode cX4_takeOut 57 = .ok (.iload_n 2, 1) := by decide +kernel
theorem dX4_takeOut_58 : decode cX4_takeOut 58 = .ok (.iconst 1, 1) := by decide +kernel
theorem dX4_takeOut_59 : decode cX4_takeOut 59 = .ok (.iadd, 1) := by decide +kernel
theorem dX4_takeOut_60 : decode cX4_takeOut 60 = .ok (.iaload, 1) := by decide +kernel
theorem dX4_takeOut_61 : decode cX4_takeOut 61 = .ok (.iastore, 1) := by decide +kernel
theorem dX4_takeOut_62 : decode cX4_takeOut 62 = .ok (.iconst 0, 1) := by decide +kernel
theorem dX4_takeOut_63 : decode cX4_takeOut 63 = .ok (.istore_n 3, 1) := by decide +kernel
theorem dX4_takeOut_64 : decode cX4_takeOut 64 = .ok (.iload_n 3, 1) := by decide +kernel
theorem dX4_takeOut_65 : decode cX4_takeOut 65 = .ok (.sipush 164, 3) := by decide +kernel
theorem dX4_takeOut_68 : decode cX4_takeOut 68 = .ok (.if_icmp .ge 35, 3) := by decide +kernel
theorem dX4_takeOut_71 : decode cX4_takeOut 71 = .ok (.aload_n 0, 1) := by decide +kernel
theorem dX4_takeOut_72 : decode cX4_takeOut 72 = .ok (.getfield 39, 3) := by decide +kernel
theorem dX4_takeOut_75 : decode cX4_takeOut 75 = .ok (.sipush 164, 3) := by decide +kernel
theorem dX4_takeOut_78 : decode cX4_takeOut 78 = .ok (.iload_n 2, 1) := by decide +kernel
theorem dX4_takeOut_79 : decode cX4_takeOut 79 = .ok (.imul, 1) := by decide +kernel
theorem dX4_takeOut_80 : decode cX4_takeOut 80 = .ok (.iload_n 3, 1) := by decide +kernel
theorem dX4_takeOut_81 : decode cX4_takeOut 81 = .ok (.iadd, 1) := by decide +kernel
theorem dX4_takeOut_82 : decode cX4_takeOut 82 = .ok (.aload_n 0, 1) := by decide +kernel
theorem dX4_takeOut_83 : decode cX4_takeOut 83 = .ok (.getfield 39, 3) := by decide +kernel
theorem dX4_takeOut_86 : decode cX4_takeOut 86 = .ok (.sipush 164, 3) := by decide +kernel
theorem dX4_takeOut_89 : decode cX4_takeOut 89 = .ok (.iload_n 2, 1) := by decide +kernel
theorem dX4_takeOut_90 : decode cX4_takeOut 90 = .ok (.iconst 1, 1) := by decide +kernel
theorem dX4_takeOut_91 : decode cX4_takeOut 91 = .ok (.iadd, 1) := by decide +kernel
theorem dX4_takeOut_92 : decode cX4_takeOut 92 = .ok (.imul, 1) := by decide +kernel
theorem dX4_takeOut_93 : decode cX4_takeOut 93 = .ok (.iload_n 3, 1) := by decide +kernel
theorem dX4_takeOut_94 : decode cX4_takeOut 94 = .ok (.iadd, 1) := by decide +kernel
theorem dX4_takeOut_95 : decode cX4_takeOut 95 = .ok (.iaload, 1) := by decide +kernel
theorem dX4_takeOut_96 : decode cX4_takeOut 96 = .ok (.iastore, 1) := by decide +kernel
theorem dX4_takeOut_97 : decode cX4_takeOut 97 = .ok (.iinc 3 1, 3) := by decide +kernel
theorem dX4_takeOut_100 : decode cX4_takeOut 100 = .ok (.goto (-36), 3) := by decide +kernel
theorem dX4_takeOut_103 : decode cX4_takeOut 103 = .ok (.iinc 2 1, 3) := by decide +kernel
theorem dX4_takeOut_106 : decode cX4_takeOut 106 = .ok (.goto (-94), 3) := by decide +kernel
theorem dX4_takeOut_109 : decode cX4_takeOut 109 = .ok (.return_, 1) := by decide +kernel
theorem dX4_tell_0 : decode cX4_tell 0 = .ok (.aload_n 0, 1) := by decide +kernel
theorem dX4_tell_1 : decode cX4_tell 1 = .ok (.iconst 2, 1) := by decide +kernel
theorem dX4_tell_2 : decode cX4_tell 2 = .ok (.invokevirtual 72, 3) := by decide +kernel
theorem dX4_tell_5 : decode cX4_tell 5 = .ok (.iload 4, 2) := by decide +kernel
theorem dX4_tell_7 : decode cX4_tell 7 = .ok (.ifCond .eq 10, 3) := by decide +kernel
theorem dX4_tell_10 : decode cX4_tell 10 = .ok (.aload_n 0, 1) := by decide +kernel
theorem dX4_tell_11 : decode cX4_tell 11 = .ok (.iconst 2, 1) := by decide +kernel
theorem dX4_tell_12 : decode cX4_tell 12 = .ok (.iload_n 1, 1) := by decide +kernel
theorem dX4_tell_13 : decode cX4_tell 13 = .ok (.iconst 1, 1) := by decide +kernel
theorem dX4_tell_14 : decode cX4_tell 14 = .ok (.invokevirtual 75, 3) := by decide +kernel
theorem dX4_tell_17 : decode cX4_tell 17 = .ok (.iconst 0, 1) := by decide +kernel
theorem dX4_tell_18 : decode cX4_tell 18 = .ok (.istore 5, 2) := by decide +kernel
theorem dX4_tell_20 : decode cX4_tell 20 = .ok (.iload 5, 2) := by decide +kernel
theorem dX4_tell_22 : decode cX4_tell 22 = .ok (.bipush 8, 2) := by decide +kernel
theorem dX4_tell_24 : decode cX4_tell 24 = .ok (.if_icmp .ge 95, 3) := by decide +kernel
theorem dX4_tell_27 : decode cX4_tell 27 = .ok (.bipush 8, 2) := by decide +kernel
theorem dX4_tell_29 : decode cX4_tell 29 = .ok (.iload_n 1, 1) := by decide +kernel
theorem dX4_tell_30 : decode cX4_tell 30 = .ok (.imul, 1) := by decide +kernel
theorem dX4_tell_31 : decode cX4_tell 31 = .ok (.iload 5, 2) := by decide +kernel
theorem dX4_tell_33 : decode cX4_tell 33 = .ok (.iadd, 1) := by decide +kernel
theorem dX4_tell_34 : decode cX4_tell 34 = .ok (.istore 6, 2) := by decide +kernel
theorem dX4_tell_36 : decode cX4_tell 36 = .ok (.iload 5, 2) := by decide +kernel
theorem dX4_tell_38 : decode cX4_tell 38 = .ok (.iload_n 1, 1) := by decide +kernel
theorem dX4_tell_39 : decode cX4_tell 39 = .ok (.if_icmp .eq 74, 3) := by decide +kernel
theorem dX4_tell_42 : decode cX4_tell 42 = .ok (.aload_n 0, 1) := by decide +kernel
theorem dX4_tell_43 : decode cX4_tell 43 = .ok (.getfield 13, 3) := by decide +kernel
theorem dX4_tell_46 : decode cX4_tell 46 = .ok (.iload 6, 2) := by decide +kernel
theorem dX4_tell_48 : decode cX4_tell 48 = .ok (.iaload, 1) := by decide +kernel
theorem dX4_tell_49 : decode cX4_tell 49 = .ok (.ifCond .le 64, 3) := by decide +kernel
theorem dX4_tell_52 : decode cX4_tell 52 = .ok (.iload_n 3, 1) := by decide +kernel
theorem dX4_tell_53 : decode cX4_tell 53 = .ok (.ifCond .ne 13, 3) := by decide +kernel
theorem dX4_tell_56 : decode cX4_tell 56 = .ok (.aload_n 0, 1) := by decide +kernel
theorem dX4_tell_57 : decode cX4_tell 57 = .ok (.getfield 23, 3) := by decide +kernel
theorem dX4_tell_60 : decode cX4_tell 60 = .ok (.iload 6, 2) := by decide +kernel
theorem dX4_tell_62 : decode cX4_tell 62 = .ok (.baload, 1) := by decide +kernel
theorem dX4_tell_63 : decode cX4_tell 63 = .ok (.ifCond .eq 50, 3) := by decide +kernel
theorem dX4_tell_66 : decode cX4_tell 66 = .ok (.aload_n 0, 1) := by decide +kernel
theorem dX4_tell_67 : decode cX4_tell 67 = .ok (.getfield 13, 3) := by decide +kernel
theorem dX4_tell_70 : decode cX4_tell 70 = .ok (.iload 6, 2) := by decide +kernel
theorem dX4_tell_72 : decode cX4_tell 72 = .ok (.iaload, 1) := by decide +kernel
theorem dX4_tell_73 : decode cX4_tell 73 = .ok (.iconst 1, 1) := by decide +kernel
theorem dX4_tell_74 : decode cX4_tell 74 = .ok (.iadd, 1) := by decide +kernel
theorem dX4_tell_75 : decode cX4_tell 75 = .ok (.istore 7, 2) := by decide +kernel
theorem dX4_tell_77 : decode cX4_tell 77 = .ok (.iload 7, 2) := by decide +kernel
theorem dX4_tell_79 : decode cX4_tell 79 = .ok (.bipush 16, 2) := by decide +kernel
theorem dX4_tell_81 : decode cX4_tell 81 = .ok (.if_icmp .gt 14, 3) := by decide +kernel
theorem dX4_tell_84 : decode cX4_tell 84 = .ok (.aload_n 0, 1) := by decide +kernel
theorem dX4_tell_85 : decode cX4_tell 85 = .ok (.getfield 17, 3) := by decide +kernel
theorem dX4_tell_88 : decode cX4_tell 88 = .ok (.iload 6, 2) := by decide +kernel
theorem dX4_tell_90 : decode cX4_tell 90 = .ok (.iaload, 1) := by decide +kernel
theorem dX4_tell_91 : decode cX4_tell 91 = .ok (.iload_n 2, 1) := by decide +kernel
theorem dX4_tell_92 : decode cX4_tell 92 = .ok (.if_icmp .ne 8, 3) := by decide +kernel
theorem dX4_tell_95 : decode cX4_tell 95 = .ok (.bipush 16, 2) := by decide +kernel
theorem dX4_tell_97 : decode cX4_tell 97 = .ok (.goto 5, 3) := by decide +kernel
theorem dX4_tell_100 : decode cX4_tell 100 = .ok (.iload 7, 2) := by decide +kernel
theorem dX4_tell_102 : decode cX4_tell 102 = .ok (.istore 7, 2) := by decide +kernel
theorem dX4_tell_104 : decode cX4_tell 104 = .ok (.aload_n 0, 1) := by decide +kernel
theorem dX4_tell_105 : decode cX4_tell 105 = .ok (.iconst 2, 1) := by decide +kernel
theorem dX4_tell_106 : decode cX4_tell 106 = .ok (.iload 5, 2) := by decide +kernel
theorem dX4_tell_108 : decode cX4_tell 108 = .ok (.iload 7, 2) := by decide +kernel
theorem dX4_tell_110 : decode cX4_tell 110 = .ok (.invokevirtual 75, 3) := by decide +kernel
theorem dX4_tell_113 : decode cX4_tell 113 = .ok (.iinc 5 1, 3) := by decide +kernel
theorem dX4_tell_116 : decode cX4_tell 116 = .ok (.goto (-96), 3) := by decide +kernel
theorem dX4_tell_119 : decode cX4_tell 119 = .ok (.aload_n 0, 1) := by decide +kernel
theorem dX4_tell_120 : decode cX4_tell 120 = .ok (.getfield 56, 3) := by decide +kernel
theorem dX4_tell_123 : decode cX4_tell 123 = .ok (.iconst 4, 1) := by decide +kernel
theorem dX4_tell_124 : decode cX4_tell 124 = .ok (.if_icmp .le 9, 3) := by decide +kernel
theorem dX4_tell_127 : decode cX4_tell 127 = .ok (.aload_n 0, 1) := by decide +kernel
theorem dX4_tell_128 : decode cX4_tell 128 = .ok (.iload_n 1, 1) := by decide +kernel
theorem dX4_tell_129 : decode cX4_tell 129 = .ok (.iload_n 2, 1) := by decide +kernel
theorem dX4_tell_130 : decode cX4_tell 130 = .ok (.invokevirtual 79, 3) := by decide +kernel
theorem dX4_tell_133 : decode cX4_tell 133 = .ok (.return_, 1) := by decide +kernel
theorem dX4_isFilled_0 : decode cX4_isFilled 0 = .ok (.aload_n 0, 1) := by decide +kernel
theorem dX4_isFilled_1 : decode cX4_isFilled 1 = .ok (.getfield 45, 3) := by decide +kernel
theorem dX4_isFilled_4 : decode cX4_isFilled 4 = .ok (.iload_n 1, 1) := by decide +kernel
theorem dX4_isFilled_5 : decode cX4_isFilled 5 = .ok (.iaload, 1) := by decide +kernel
theorem dX4_isFilled_6 : decode cX4_isFilled 6 = .ok (.ifCond .ne 41, 3) := by decide +kernel
theorem dX4_isFilled_9 : decode cX4_isFilled 9 = .ok (.aload_n 0, 1) := by decide +kernel
theorem dX4_isFilled_10 : decode cX4_isFilled 10 = .ok (.getfield 45, 3) := by decide +kernel
theorem dX4_isFilled_13 : decode cX4_isFilled 13 = .ok (.iload_n 1, 1) := by decide +kernel
theorem dX4_isFilled_14 : decode cX4_isFilled 14 = .ok (.iconst 1, 1) := by decide +kernel
theorem dX4_isFilled_15 : decode cX4_isFilled 15 = .ok (.iadd, 1) := by decide +kernel
theorem dX4_isFilled_16 : decode cX4_isFilled 16 = .ok (.iaload, 1) := by decide +kernel
theorem dX4_isFilled_17 : decode cX4_isFilled 17 = .ok (.iload_n 2, 1) := by decide +kernel
theorem dX4_isFilled_18 : decode cX4_isFilled 18 = .ok (.if_icmp .ne 29, 3) := by decide +kernel
theorem dX4_isFilled_21 : decode cX4_isFilled 21 = .ok (.aload_n 0, 1) := by decide +kernel
theorem dX4_isFilled_22 : decode cX4_isFilled 22 = .ok (.getfield 45, 3) := by decide +kernel
theorem dX4_isFilled_25 : decode cX4_isFilled 25 = .ok (.iload_n 1, 1) := by decide +kernel
theorem dX4_isFilled_26 : decode cX4_isFilled 26 = .ok (.iconst 2, 1) := by decide +kernel
theorem dX4_isFilled_27 : decode cX4_isFilled 27 = .ok (.iadd, 1) := by decide +kernel
theorem dX4_isFilled_28 : decode cX4_isFilled 28 = .ok (.iaload, 1) := by decide +kernel
theorem dX4_isFilled_29 : decode cX4_isFilled 29 = .ok (.ifCond .ne 18, 3) := by decide +kernel
theorem dX4_isFilled_32 : decode cX4_isFilled 32 = .ok (.aload_n 0, 1) := by decide +kernel
theorem dX4_isFilled_33 : decode cX4_isFilled 33 = .ok (.getfield 45, 3) := by decide +kernel
theorem dX4_isFilled_36 : decode cX4_isFilled 36 = .ok (.iload_n 1, 1) := by decide +kernel
theorem dX4_isFilled_37 : decode cX4_isFilled 37 = .ok (.iconst 3, 1) := by decide +kernel
theorem dX4_isFilled_38 : decode cX4_isFilled 38 = .ok (.iadd, 1) := by decide +kernel
theorem dX4_isFilled_39 : decode cX4_isFilled 39 = .ok (.iaload, 1) := by decide +kernel
theorem dX4_isFilled_40 : decode cX4_isFilled 40 = .ok (.ifCond .ne 7, 3) := by decide +kernel
theorem dX4_isFilled_43 : decode cX4_isFilled 43 = .ok (.iconst 1, 1) := by decide +kernel
theorem dX4_isFilled_44 : decode cX4_isFilled 44 = .ok (.goto 4, 3) := by decide +kernel
theorem dX4_isFilled_47 : decode cX4_isFilled 47 = .ok (.iconst 0, 1) := by decide +kernel
theorem dX4_isFilled_48 : decode cX4_isFilled 48 = .ok (.istore_n 3, 1) := by decide +kernel
theorem dX4_isFilled_49 : decode cX4_isFilled 49 = .ok (.iload_n 3, 1) := by decide +kernel
theorem dX4_isFilled_50 : decode cX4_isFilled 50 = .ok (.ifCond .eq 43, 3) := by decide +kernel
theorem dX4_isFilled_53 : decode cX4_isFilled 53 = .ok (.aload_n 0, 1) := by decide +kernel
theorem dX4_isFilled_54 : decode cX4_isFilled 54 = .ok (.getfield 45, 3) := by decide +kernel
theorem dX4_isFilled_57 : decode cX4_isFilled 57 = .ok (.iload_n 1, 1) := by decide +kernel
theorem dX4_isFilled_58 : decode cX4_isFilled 58 = .ok (.iconst 4, 1) := by decide +kernel
theorem dX4_isFilled_59 : decode cX4_isFilled 59 = .ok (.iadd, 1) := by decide +kernel
theorem dX4_isFilled_60 : decode cX4_isFilled 60 = .ok (.iaload, 1) := by decide +kernel
theorem dX4_isFilled_61 : decode cX4_isFilled 61 = .ok (.bipush 10, 2) := by decide +kernel
theorem dX4_isFilled_63 : decode cX4_isFilled 63 = .ok (.if_icmp .ne 30, 3) := by decide +kernel
theorem dX4_isFilled_66 : decode cX4_isFilled 66 = .ok (.aload_n 0, 1) := by decide +kernel
theorem dX4_isFilled_67 : decode cX4_isFilled 67 = .ok (.getfield 45, 3) := by decide +kernel
theorem dX4_isFilled_70 : decode cX4_isFilled 70 = .ok (.iload_n 1, 1) := by decide +kernel
theorem dX4_isFilled_71 : decode cX4_isFilled 71 = .ok (.iconst 5, 1) := by decide +kernel
theorem dX4_isFilled_72 : decode cX4_isFilled 72 = .ok (.iadd, 1) := by decide +kernel
theorem dX4_isFilled_73 : decode cX4_isFilled 73 = .ok (.iaload, 1) := by decide +kernel
theorem dX4_isFilled_74 : decode cX4_isFilled 74 = .ok (.ifCond .ne 19, 3) := by decide +kernel
theorem dX4_isFilled_77 : decode cX4_isFilled 77 = .ok (.aload_n 0, 1) := by decide +kernel
theorem dX4_isFilled_78 : decode cX4_isFilled 78 = .ok (.getfield 45, 3) := by decide +kernel
theorem dX4_isFilled_81 : decode cX4_isFilled 81 = .ok (.iload_n 1, 1) := by decide +kernel
theorem dX4_isFilled_82 : decode cX4_isFilled 82 = .ok (.bipush 7, 2) := by decide +kernel
theorem dX4_isFilled_84 : decode cX4_isFilled 84 = .ok (.iadd, 1) := by decide +kernel
theorem dX4_isFilled_85 : decode cX4_isFilled 85 = .ok (.iaload, 1) := by decide +kernel
theorem dX4_isFilled_86 : decode cX4_isFilled 86 = .ok (.ifCond .ne 7, 3) := by decide +kernel
theorem dX4_isFilled_89 : decode cX4_isFilled 89 = .ok (.iconst 1, 1) := by decide +kernel
theorem dX4_isFilled_90 : decode cX4_isFilled 90 = .ok (.goto 4, 3) := by decide +kernel
theorem dX4_isFilled_93 : decode cX4_isFilled 93 = .ok (.iconst 0, 1) := by decide +kernel
theorem dX4_isFilled_94 : decode cX4_isFilled 94 = .ok (.istore_n 3, 1) := by decide +kernel
theorem dX4_isFilled_95 : decode cX4_isFilled 95 = .ok (.bipush 8, 2) := by decide +kernel
theorem dX4_isFilled_97 : decode cX4_isFilled 97 = .ok (.istore 4, 2) := by decide +kernel
theorem dX4_isFilled_99 : decode cX4_isFilled 99 = .ok (.iload 4, 2) := by decide +kernel
theorem dX4_isFilled_101 : decode cX4_isFilled 101 = .ok (.bipush 19, 2) := by decide +kernel
theorem dX4_isFilled_103 : decode cX4_isFilled 103 = .ok (.if_icmp .ge 45, 3) := by decide +kernel
theorem dX4_isFilled_106 : decode cX4_isFilled 106 = .ok (.iload_n 3, 1) := by decide +kernel
theorem dX4_isFilled_107 : decode cX4_isFilled 107 = .ok (.ifCond .eq 33, 3) := by decide +kernel
theorem dX4_isFilled_110 : decode cX4_isFilled 110 = .ok (.aload_n 0, 1) := by decide +kernel
theorem dX4_isFilled_111 : decode cX4_isFilled 111 = .ok (.getfield 45, 3) := by decide +kernel
theorem dX4_isFilled_114 : decode cX4_isFilled 114 = .ok (.iload_n 1, 1) := by decide +kernel
theorem dX4_isFilled_115 : decode cX4_isFilled 115 = .ok (.iload 4, 2) := by decide +kernel
theorem dX4_isFilled_117 : decode cX4_isFilled 117 = .ok (.iadd, 1) := by decide +kernel
theorem dX4_isFilled_118 : decode cX4_isFilled 118 = .ok (.iaload, 1) := by decide +kernel
theorem dX4_isFilled_119 : decode cX4_isFilled 119 = .ok (.iload 4, 2) := by decide +kernel
theorem dX4_isFilled_121 : decode cX4_isFilled 121 = .ok (.bipush 11, 2) := by decide +kernel
theorem dX4_isFilled_123 : decode cX4_isFilled 123 = .ok (.if_icmp .ge 9, 3) := by decide +kernel
theorem dX4_isFilled_126 : decode cX4_isFilled 126 = .ok (.sipush 255, 3) := by decide +kernel
theorem dX4_isFilled_129 : decode cX4_isFilled 129 = .ok (.goto 4, 3) := by decide +kernel
theorem dX4_isFilled_132 : decode cX4_isFilled 132 = .ok (.iconst 0, 1) := by decide +kernel
theorem dX4_isFilled_133 : decode cX4_isFilled 133 = .ok (.if_icmp .ne 7, 3) := by decide +kernel
theorem dX4_isFilled_136 : decode cX4_isFilled 136 = .ok (.iconst 1, 1) := by decide +kernel
theorem dX4_isFilled_137 : decode cX4_isFilled 137 = .ok (.goto 4, 3) := by decide +kernel
theorem dX4_isFilled_140 : decode cX4_isFilled 140 = .ok (.iconst 0, 1) := by decide +kernel
theorem dX4_isFilled_141 : decode cX4_isFilled 141 = .ok (.istore_n 3, 1) := by decide +kernel
theorem dX4_isFilled_142 : decode cX4_isFilled 142 = .ok (.iinc 4 1, 3) := by decide +kernel
theorem dX4_isFilled_145 : decode cX4_isFilled 145 = .ok (.goto (-46), 3) := by decide +kernel
theorem dX4_isFilled_148 : decode cX4_isFilled 148 = .ok (.iload_n 3, 1) := by decide +kernel
theorem dX4_isFilled_149 : decode cX4_isFilled 149 = .ok (.ireturn, 1) := by decide +kernel
theorem dX4_isSound_0 : decode cX4_isSound 0 = .ok (.aload_n 0, 1) := by decide +kernel
theorem dX4_isSound_1 : decode cX4_isSound 1 = .ok (.iload_n 1, 1) := by decide +kernel
theorem dX4_isSound_2 : decode cX4_isSound 2 = .ok (.iconst 2, 1) := by decide +kernel
theorem dX4_isSound_3 : decode cX4_isSound 3 = .ok (.invokevirtual 83, 3) := by decide +kernel
theorem dX4_isSound_6 : decode cX4_isSound 6 = .ok (.ifCond .eq 43, 3) := by decide +kernel
theorem dX4_isSound_9 : decode cX4_isSound 9 = .ok (.aload_n 0, 1) := by decide +kernel
theorem dX4_isSound_10 : decode cX4_isSound 10 = .ok (.getfield 45, 3) := by decide +kernel
theorem dX4_isSound_13 : decode cX4_isSound 13 = .ok (.iload_n 1, 1) := by decide +kernel
theorem dX4_isSound_14 : decode cX4_isSound 14 = .ok (.bipush 6, 2) := by decide +kernel
theorem dX4_isSound_16 : decode cX4_isSound 16 = .ok (.iadd, 1) := by decide +kernel
theorem dX4_isSound_17 : decode cX4_isSound 17 = .ok (.iaload, 1) := by decide +kernel
theorem dX4_isSound_18 : decode cX4_isSound 18 = .ok (.iconst 0, 1) := by decide +kernel
theorem dX4_isSound_19 : decode cX4_isSound 19 = .ok (.bipush 7, 2) := by decide +kernel
theorem dX4_isSound_21 : decode cX4_isSound 21 = .ok (.invokestatic 52, 3) := by decide +kernel
theorem dX4_isSound_24 : decode cX4_isSound 24 = .ok (.ifCond .eq 25, 3) := by decide +kernel
theorem dX4_isSound_27 : decode cX4_isSound 27 = .ok (.aload_n 0, 1) := by decide +kernel
theorem dX4_isSound_28 : decode cX4_isSound 28 = .ok (.getfield 45, 3) := by decide +kernel
theorem dX4_isSound_31 : decode cX4_isSound 31 = .ok (.iload_n 1, 1) := by decide +kernel
theorem dX4_isSound_32 : decode cX4_isSound 32 = .ok (.bipush 19, 2) := by decide +kernel
theorem dX4_isSound_34 : decode cX4_isSound 34 = .ok (.iadd, 1) := by decide +kernel
theorem dX4_isSound_35 : decode cX4_isSound 35 = .ok (.iaload, 1) := by decide +kernel
theorem dX4_isSound_36 : decode cX4_isSound 36 = .ok (.iconst 1, 1) := by decide +kernel
theorem dX4_isSound_37 : decode cX4_isSound 37 = .ok (.bipush 16, 2) := by decide +kernel
theorem dX4_isSound_39 : decode cX4_isSound 39 = .ok (.invokestatic 52, 3) := by decide +kernel
theorem dX4_isSound_42 : decode cX4_isSound 42 = .ok (.ifCond .eq 7, 3) := by decide +kernel
theorem dX4_isSound_45 : decode cX4_isSound 45 = .ok (.iconst 1, 1) := by decide +kernel
theorem dX4_isSound_46 : decode cX4_isSound 46 = .ok (.goto 4, 3) := by decide +kernel
theorem dX4_isSound_49 : decode cX4_isSound 49 = .ok (.iconst 0, 1) := by decide +kernel
theorem dX4_isSound_50 : decode cX4_isSound 50 = .ok (.ireturn, 1) := by decide +kernel
theorem dX4_gone_0 : decode cX4_gone 0 = .ok (.aload_n 0, 1) := by decide +kernel
theorem dX4_gone_1 : decode cX4_gone 1 = .ok (.getfield 13, 3) := by decide +kernel
theorem dX4_gone_4 : decode cX4_gone 4 = .ok (.iload_n 1, 1) := by decide +kernel
theorem dX4_gone_5 : decode cX4_gone 5 = .ok (.bipush 16, 2) := by decide +kernel
theorem dX4_gone_7 : decode cX4_gone 7 = .ok (.iastore, 1) := by decide +kernel
theorem dX4_gone_8 : decode cX4_gone 8 = .ok (.aload_n 0, 1) := by decide +kernel
theorem dX4_gone_9 : decode cX4_gone 9 = .ok (.getfield 20, 3) := by decide +kernel
theorem dX4_gone_12 : decode cX4_gone 12 = .ok (.iload_n 1, 1) := by decide +kernel
theorem dX4_gone_13 : decode cX4_gone 13 = .ok (.iconst 0, 1) := by decide +kernel
theorem dX4_gone_14 : decode cX4_gone 14 = .ok (.iastore, 1) := by decide +kernel
theorem dX4_gone_15 : decode cX4_gone 15 = .ok (.aload_n 0, 1) := by decide +kernel
theorem dX4_gone_16 : decode cX4_gone 16 = .ok (.getfield 23, 3) := by decide +kernel
theorem dX4_gone_19 : decode cX4_gone 19 = .ok (.iload_n 1, 1) := by decide +kernel
theorem dX4_gone_20 : decode cX4_gone 20 = .ok (.iconst 1, 1) := by decide +kernel
theorem dX4_gone_21 : decode cX4_gone 21 = .ok (.bastore, 1) := by decide +kernel
theorem dX4_gone_22 : decode cX4_gone 22 = .ok (.aload_n 0, 1) := by decide +kernel
theorem dX4_gone_23 : decode cX4_gone 23 = .ok (.getfield 26, 3) := by decide +kernel
theorem dX4_gone_26 : decode cX4_gone 26 = .ok (.iload_n 1, 1) := by decide +kernel
theorem dX4_gone_27 : decode cX4_gone 27 = .ok (.bipush 20, 2) := by decide +kernel
theorem dX4_gone_29 : decode cX4_gone 29 = .ok (.iastore, 1) := by decide +kernel
theorem dX4_gone_30 : decode cX4_gone 30 = .ok (.return_, 1) := by decide +kernel
theorem dX4_hear_0 : decode cX4_hear 0 = .ok (.bipush 8, 2) := by decide +kernel
theorem dX4_hear_2 : decode cX4_hear 2 = .ok (.iload_n 1, 1) := by decide +kernel
theorem dX4_hear_3 : decode cX4_hear 3 = .ok (.imul, 1) := by decide +kernel
theorem dX4_hear_4 : decode cX4_hear 4 = .ok (.iload_n 3, 1) := by decide +kernel
theorem dX4_hear_5 : decode cX4_hear 5 = .ok (.iadd, 1) := by decide +kernel
theorem dX4_hear_6 : decode cX4_hear 6 = .ok (.istore 5, 2) := by decide +kernel
theorem dX4_hear_8 : decode cX4_hear 8 = .ok (.aload_n 0, 1) := by decide +kernel
theorem dX4_hear_9 : decode cX4_hear 9 = .ok (.getfield 13, 3) := by decide +kernel
theorem dX4_hear_12 : decode cX4_hear 12 = .ok (.iload 5, 2) := by decide +kernel
theorem dX4_hear_14 : decode cX4_hear 14 = .ok (.iaload, 1) := by decide +kernel
theorem dX4_hear_15 : decode cX4_hear 15 = .ok (.ifCond .ne 52, 3) := by decide +kernel
theorem dX4_hear_18 : decode cX4_hear 18 = .ok (.iload 4, 2) := by decide +kernel
theorem dX4_hear_20 : decode cX4_hear 20 = .ok (.bipush 16, 2) := by decide +kernel
theorem dX4_hear_22 : decode cX4_hear 22 = .ok (.if_icmp .ge 44, 3) := by decide +kernel
theorem dX4_hear_25 : decode cX4_hear 25 = .ok (.aload_n 0, 1) := by decide +kernel
theorem dX4_hear_26 : decode cX4_hear 26 = .ok (.getfield 13, 3) := by decide +kernel
theorem dX4_hear_29 : decode cX4_hear 29 = .ok (.iload 5, 2) := by decide +kernel
theorem dX4_hear_31 : decode cX4_hear 31 = .ok (.iload 4, 2) := by decide +kernel
theorem dX4_hear_33 : decode cX4_hear 33 = .ok (.iastore, 1) := by decide +kernel
theorem dX4_hear_34 : decode cX4_hear 34 = .ok (.aload_n 0, 1) := by decide +kernel
theorem dX4_hear_35 : decode cX4_hear 35 = .ok (.getfield 17, 3) := by decide +kernel
theorem dX4_hear_38 : decode cX4_hear 38 = .ok (.iload 5, 2) := by decide +kernel
theorem dX4_hear_40 : decode cX4_hear 40 = .ok (.iload_n 2, 1) := by decide +kernel
theorem dX4_hear_41 : decode cX4_hear 41 = .ok (.iastore, 1) := by decide +kernel
theorem dX4_hear_42 : decode cX4_hear 42 = .ok (.aload_n 0, 1) := by decide +kernel
theorem dX4_hear_43 : decode cX4_hear 43 = .ok (.getfield 20, 3) := by decide +kernel
theorem dX4_hear_46 : decode cX4_hear 46 = .ok (.iload 5, 2) := by decide +kernel
theorem dX4_hear_48 : decode cX4_hear 48 = .ok (.iconst 0, 1) := by decide +kernel
theorem dX4_hear_49 : decode cX4_hear 49 = .ok (.iastore, 1) := by decide +kernel
theorem dX4_hear_50 : decode cX4_hear 50 = .ok (.aload_n 0, 1) := by decide +kernel
theorem dX4_hear_51 : decode cX4_hear 51 = .ok (.getfield 23, 3) := by decide +kernel
theorem dX4_hear_54 : decode cX4_hear 54 = .ok (.iload 5, 2) := by decide +kernel
theorem dX4_hear_56 : decode cX4_hear 56 = .ok (.iconst 1, 1) := by decide +kernel
theorem dX4_hear_57 : decode cX4_hear 57 = .ok (.bastore, 1) := by decide +kernel
theorem dX4_hear_58 : decode cX4_hear 58 = .ok (.aload_n 0, 1) := by decide +kernel
theorem dX4_hear_59 : decode cX4_hear 59 = .ok (.getfield 26, 3) := by decide +kernel
theorem dX4_hear_62 : decode cX4_hear 62 = .ok (.iload 5, 2) := by decide +kernel
theorem dX4_hear_64 : decode cX4_hear 64 = .ok (.iconst 0, 1) := by decide +kernel
theorem dX4_hear_65 : decode cX4_hear 65 = .ok (.iastore, 1) := by decide +kernel
theorem dX4_hear_66 : decode cX4_hear 66 = .ok (.return_, 1) := by decide +kernel
theorem dX4_hear_67 : decode cX4_hear 67 = .ok (.aload_n 0, 1) := by decide +kernel
theorem dX4_hear_68 : decode cX4_hear 68 = .ok (.getfield 26, 3) := by decide +kernel
theorem dX4_hear_71 : decode cX4_hear 71 = .ok (.iload 5, 2) := by decide +kernel
theorem dX4_hear_73 : decode cX4_hear 73 = .ok (.iaload, 1) := by decide +kernel
theorem dX4_hear_74 : decode cX4_hear 74 = .ok (.ifCond .le 4, 3) := by decide +kernel
theorem dX4_hear_77 : decode cX4_hear 77 = .ok (.return_, 1) := by decide +kernel
theorem dX4_hear_78 : decode cX4_hear 78 = .ok (.aload_n 0, 1) := by decide +kernel
theorem dX4_hear_79 : decode cX4_hear 79 = .ok (.getfield 17, 3) := by decide +kernel
theorem dX4_hear_82 : decode cX4_hear 82 = .ok (.iload 5, 2) := by decide +kernel
theorem dX4_hear_84 : decode cX4_hear 84 = .ok (.iaload, 1) := by decide +kernel
theorem dX4_hear_85 : decode cX4_hear 85 = .ok (.iload_n 2, 1) := by decide +kernel
theorem dX4_hear_86 : decode cX4_hear 86 = .ok (.if_icmp .ne 73, 3) := by decide +kernel
theorem dX4_hear_89 : decode cX4_hear 89 = .ok (.aload_n 0, 1) := by decide +kernel
theorem dX4_hear_90 : decode cX4_hear 90 = .ok (.getfield 20, 3) := by decide +kernel
theorem dX4_hear_93 : decode cX4_hear 93 = .ok (.iload 5, 2) := by decide +kernel
theorem dX4_hear_95 : decode cX4_hear 95 = .ok (.iload 4, 2) := by decide +kernel
theorem dX4_hear_97 : decode cX4_hear 97 = .ok (.bipush 16, 2) := by decide +kernel
theorem dX4_hear_99 : decode cX4_hear 99 = .ok (.if_icmp .ge 7, 3) := by decide +kernel
theorem dX4_hear_102 : decode cX4_hear 102 = .ok (.iconst 0, 1) := by decide +kernel
theorem dX4_hear_103 : decode cX4_hear 103 = .ok (.goto 10, 3) := by decide +kernel
theorem dX4_hear_106 : decode cX4_hear 106 = .ok (.aload_n 0, 1) := by decide +kernel
theorem dX4_hear_107 : decode cX4_hear 107 = .ok (.getfield 20, 3) := by decide +kernel
theorem dX4_hear_110 : decode cX4_hear 110 = .ok (.iload 5, 2) := by decide +kernel
theorem dX4_hear_112 : decode cX4_hear 112 = .ok (.iaload, 1) := by decide +kernel
theorem dX4_hear_113 : decode cX4_hear 113 = .ok (.iastore, 1) := by decide +kernel
theorem dX4_hear_114 : decode cX4_hear 114 = .ok (.iload 4, 2) := by decide +kernel
theorem dX4_hear_116 : decode cX4_hear 116 = .ok (.aload_n 0, 1) := by decide +kernel
theorem dX4_hear_117 : decode cX4_hear 117 = .ok (.getfield 13, 3) := by decide +kernel
theorem dX4_hear_120 : decode cX4_hear 120 = .ok (.iload 5, 2) := by decide +kernel
theorem dX4_hear_122 : decode cX4_hear 122 = .ok (.iaload, 1) := by decide +kernel
theorem dX4_hear_123 : decode cX4_hear 123 = .ok (.if_icmp .eq 81, 3) := by decide +kernel
theorem dX4_hear_126 : decode cX4_hear 126 = .ok (.aload_n 0, 1) := by decide +kernel
theorem dX4_hear_127 : decode cX4_hear 127 = .ok (.getfield 13, 3) := by decide +kernel
theorem dX4_hear_130 : decode cX4_hear 130 = .ok (.iload 5, 2) := by decide +kernel
theorem dX4_hear_132 : decode cX4_hear 132 = .ok (.iload 4, 2) := by decide +kernel
theorem dX4_hear_134 : decode cX4_hear 134 = .ok (.iastore, 1) := by decide +kernel
theorem dX4_hear_135 : decode cX4_hear 135 = .ok (.aload_n 0, 1) := by decide +kernel
theorem dX4_hear_136 : decode cX4_hear 136 = .ok (.getfield 23, 3) := by decide +kernel
theorem dX4_hear_139 : decode cX4_hear 139 = .ok (.iload 5, 2) := by decide +kernel
theorem dX4_hear_141 : decode cX4_hear 141 = .ok (.iconst 1, 1) := by decide +kernel
theorem dX4_hear_142 : decode cX4_hear 142 = .ok (.bastore, 1) := by decide +kernel
theorem dX4_hear_143 : decode cX4_hear 143 = .ok (.iload 4, 2) := by decide +kernel
theorem dX4_hear_145 : decode cX4_hear 145 = .ok (.bipush 16, 2) := by decide +kernel
theorem dX4_hear_147 : decode cX4_hear 147 = .ok (.if_icmp .ne 57, 3) := by decide +kernel
theorem dX4_hear_150 : decode cX4_hear 150 = .ok (.aload_n 0, 1) := by decide +kernel
theorem dX4_hear_151 : decode cX4_hear 151 = .ok (.iload 5, 2) := by decide +kernel
theorem dX4_hear_153 : decode cX4_hear 153 = .ok (.invokevirtual 87, 3) := by decide +kernel
theorem dX4_hear_156 : decode cX4_hear 156 = .ok (.goto 48, 3) := by decide +kernel
theorem dX4_hear_159 : decode cX4_hear 159 = .ok (.iload 4, 2) := by decide +kernel
theorem dX4_hear_161 : decode cX4_hear 161 = .ok (.aload_n 0, 1) := by decide +kernel
theorem dX4_hear_162 : decode cX4_hear 162 = .ok (.getfield 13, 3) := by decide +kernel
theorem dX4_hear_165 : decode cX4_hear 165 = .ok (.iload 5, 2) := by decide +kernel
theorem dX4_hear_167 : decode cX4_hear 167 = .ok (.iaload, 1) := by decide +kernel
theorem dX4_hear_168 : decode cX4_hear 168 = .ok (.if_icmp .ge 36, 3) := by decide +kernel
theorem dX4_hear_171 : decode cX4_hear 171 = .ok (.aload_n 0, 1) := by decide +kernel
theorem dX4_hear_172 : decode cX4_hear 172 = .ok (.getfield 13, 3) := by decide +kernel
theorem dX4_hear_175 : decode cX4_hear 175 = .ok (.iload 5, 2) := by decide +kernel
theorem dX4_hear_177 : decode cX4_hear 177 = .ok (.iload 4, 2) := by decide +kernel
theorem dX4_hear_179 : decode cX4_hear 179 = .ok (.iastore, 1) := by decide +kernel
theorem dX4_hear_180 : decode cX4_hear 180 = .ok (.aload_n 0, 1) := by decide +kernel
theorem dX4_hear_181 : decode cX4_hear 181 = .ok (.getfield 17, 3) := by decide +kernel
theorem dX4_hear_184 : decode cX4_hear 184 = .ok (.iload 5, 2) := by decide +kernel
theorem dX4_hear_186 : decode cX4_hear 186 = .ok (.iload_n 2, 1) := by decide +kernel
theorem dX4_hear_187 : decode cX4_hear 187 = .ok (.iastore, 1) := by decide +kernel
theorem dX4_hear_188 : decode cX4_hear 188 = .ok (.aload_n 0, 1) := by decide +kernel
theorem dX4_hear_189 : decode cX4_hear 189 = .ok (.getfield 20, 3) := by decide +kernel
theorem dX4_hear_192 : decode cX4_hear 192 = .ok (.iload 5, 2) := by decide +kernel
theorem dX4_hear_194 : decode cX4_hear 194 = .ok (.iconst 0, 1) := by decide +kernel
theorem dX4_hear_195 : decode cX4_hear 195 = .ok (.iastore, 1) := by decide +kernel
theorem dX4_hear_196 : decode cX4_hear 196 = .ok (.aload_n 0, 1) := by decide +kernel
theorem dX4_hear_197 : decode cX4_hear 197 = .ok (.getfield 23, 3) := by decide +kernel
theorem dX4_hear_200 : decode cX4_hear 200 = .ok (.iload 5, 2) := by decide +kernel
theorem dX4_hear_202 : decode cX4_hear 202 = .ok (.iconst 1, 1) := by decide +kernel
theorem dX4_hear_203 : decode cX4_hear 203 = .ok (.bastore, 1) := by decide +kernel
theorem dX4_hear_204 : decode cX4_hear 204 = .ok (.return_, 1) := by decide +kernel
theorem dX4_answer_0 : decode cX4_answer 0 = .ok (.aload_n 0, 1) := by decide +kernel
theorem dX4_answer_1 : decode cX4_answer 1 = .ok (.getfield 90, 3) := by decide +kernel
theorem dX4_answer_4 : decode cX4_answer 4 = .ok (.bipush 24, 2) := by decide +kernel
theorem dX4_answer_6 : decode cX4_answer 6 = .ok (.if_icmp .ne 33, 3) := by decide +kernel
theorem dX4_answer_9 : decode cX4_answer 9 = .ok (.aload_n 0, 1) := by decide +kernel
theorem dX4_answer_10 : decode cX4_answer 10 = .ok (.iconst 4, 1) := by decide +kernel
theorem dX4_answer_11 : decode cX4_answer 11 = .ok (.iconst 0, 1) := by decide +kernel
theorem dX4_answer_12 : decode cX4_answer 12 = .ok (.invokevirtual 83, 3) := by decide +kernel
theorem dX4_answer_15 : decode cX4_answer 15 = .ok (.ifCond .eq 24, 3) := by decide +kernel
theorem dX4_answer_18 : decode cX4_answer 18 = .ok (.aload_n 0, 1) := by decide +kernel
theorem dX4_answer_19 : decode cX4_answer 19 = .ok (.getfield 45, 3) := by decide +kernel
theorem dX4_answer_22 : decode cX4_answer 22 = .ok (.bipush 23, 2) := by decide +kernel
theorem dX4_answer_24 : decode cX4_answer 24 = .ok (.iaload, 1) := by decide +kernel
theorem dX4_answer_25 : decode cX4_answer 25 = .ok (.bipush 16, 2) := by decide +kernel
theorem dX4_answer_27 : decode cX4_answer 27 = .ok (.if_icmp .ne 12, 3) := by decide +kernel
theorem dX4_answer_30 : decode cX4_answer 30 = .ok (.aload_n 0, 1) := by decide +kernel
theorem dX4_answer_31 : decode cX4_answer 31 = .ok (.iload_n 1, 1) := by decide +kernel
theorem dX4_answer_32 : decode cX4_answer 32 = .ok (.iload_n 2, 1) := by decide +kernel
theorem dX4_answer_33 : decode cX4_answer 33 = .ok (.iconst 1, 1) := by decide +kernel
theorem dX4_answer_34 : decode cX4_answer 34 = .ok (.iconst 1, 1) := by decide +kernel
theorem dX4_answer_35 : decode cX4_answer 35 = .ok (.invokevirtual 93, 3) := by decide +kernel
theorem dX4_answer_38 : decode cX4_answer 38 = .ok (.return_, 1) := by decide +kernel
theorem dX4_answer_39 : decode cX4_answer 39 = .ok (.aload_n 0, 1) := by decide +kernel
theorem dX4_answer_40 : decode cX4_answer 40 = .ok (.iconst 2, 1) := by decide +kernel
theorem dX4_answer_41 : decode cX4_answer 41 = .ok (.invokevirtual 72, 3) := by decide +kernel
theorem dX4_answer_44 : decode cX4_answer 44 = .ok (.iconst 4, 1) := by decide +kernel
theorem dX4_answer_45 : decode cX4_answer 45 = .ok (.istore_n 3, 1) := by decide +kernel
theorem dX4_answer_46 : decode cX4_answer 46 = .ok (.iload_n 3, 1) := by decide +kernel
theorem dX4_answer_47 : decode cX4_answer 47 = .ok (.aload_n 0, 1) := by decide +kernel
theorem dX4_answer_48 : decode cX4_answer 48 = .ok (.getfield 90, 3) := by decide +kernel
theorem dX4_answer_51 : decode cX4_answer 51 = .ok (.if_icmp .ge 81, 3) := by decide +kernel
theorem dX4_answer_54 : decode cX4_answer 54 = .ok (.aload_n 0, 1) := by decide +kernel
theorem dX4_answer_55 : decode cX4_answer 55 = .ok (.iload_n 3, 1) := by decide +kernel
theorem dX4_answer_56 : decode cX4_answer 56 = .ok (.invokevirtual 97, 3) := by decide +kernel
theorem dX4_answer_59 : decode cX4_answer 59 = .ok (.ifCond .eq 67, 3) := by decide +kernel
theorem dX4_answer_62 : decode cX4_answer 62 = .ok (.aload_n 0, 1) := by decide +kernel
theorem dX4_answer_63 : decode cX4_answer 63 = .ok (.getfield 45, 3) := by decide +kernel
theorem dX4_answer_66 : decode cX4_answer 66 = .ok (.iload_n 3, 1) := by decide +kernel
theorem dX4_answer_67 : decode cX4_answer 67 = .ok (.bipush 6, 2) := by decide +kernel
theorem dX4_answer_69 : decode cX4_answer 69 = .ok (.iadd, 1) := by decide +kernel
theorem dX4_answer_70 : decode cX4_answer 70 = .ok (.iaload, 1) := by decide +kernel
theorem dX4_answer_71 : decode cX4_answer 71 = .ok (.istore 4, 2) := by decide +kernel
theorem dX4_answer_73 : decode cX4_answer 73 = .ok (.iload 4, 2) := by decide +kernel
theorem dX4_answer_75 : decode cX4_answer 75 = .ok (.iload_n 1, 1) := by decide +kernel
theorem dX4_answer_76 : decode cX4_answer 76 = .ok (.if_icmp .ne 7, 3) := by decide +kernel
theorem dX4_answer_79 : decode cX4_answer 79 = .ok (.iconst 1, 1) := by decide +kernel
theorem dX4_answer_80 : decode cX4_answer 80 = .ok (.goto 35, 3) := by decide +kernel
theorem dX4_answer_83 : decode cX4_answer 83 = .ok (.aload_n 0, 1) := by decide +kernel
theorem dX4_answer_84 : decode cX4_answer 84 = .ok (.getfield 13, 3) := by decide +kernel
theorem dX4_answer_87 : decode cX4_answer 87 = .ok (.bipush 8, 2) := by decide +kernel
theorem dX4_answer_89 : decode cX4_answer 89 = .ok (.iload_n 1, 1) := by decide +kernel
theorem dX4_answer_90 : decode cX4_answer 90 = .ok (.imul, 1) := by decide +kernel
theorem dX4_answer_91 : decode cX4_answer 91 = .ok (.iload 4, 2) := by decide +kernel
theorem dX4_answer_93 : decode cX4_answer 93 = .ok (.iadd, 1) := by decide +kernel
theorem dX4_answer_94 : decode cX4_answer 94 = .ok (.iaload, 1) := by decide +kernel
theorem dX4_answer_95 : decode cX4_answer 95 = .ok (.ifCond .ne 8, 3) := by decide +kernel
theorem dX4_answer_98 : decode cX4_answer 98 = .ok (.bipush 16, 2) := by decide +kernel
theorem dX4_answer_100 : decode cX4_answer 100 = .ok (.goto 15, 3) := by decide +kernel
theorem dX4_answer_103 : decode cX4_answer 103 = .ok (.aload_n 0, 1) := by decide +kernel
theorem dX4_answer_104 : decode cX4_answer 104 = .ok (.getfield 13, 3) := by decide +kernel
theorem dX4_answer_107 : decode cX4_answer 107 = .ok (.bipush 8, 2) := by decide +kernel
theorem dX4_answer_109 : decode cX4_answer 109 = .ok (.iload_n 1, 1) := by decide +kernel
theorem dX4_answer_110 : decode cX4_answer 110 = .ok (.imul, 1) := by decide +kernel
theorem dX4_answer_111 : decode cX4_answer 111 = .ok (.iload 4, 2) := by decide +kernel
theorem dX4_answer_113 : decode cX4_answer 113 = .ok (.iadd, 1) := by decide +kernel
theorem dX4_answer_114 : decode cX4_answer 114 = .ok (.iaload, 1) := by decide +kernel
theorem dX4_answer_115 : decode cX4_answer 115 = .ok (.istore 5, 2) := by decide +kernel
theorem dX4_answer_117 : decode cX4_answer 117 = .ok (.aload_n 0, 1) := by decide +kernel
theorem dX4_answer_118 : decode cX4_answer 118 = .ok (.iconst 2, 1) := by decide +kernel
theorem dX4_answer_119 : decode cX4_answer 119 = .ok (.iload 4, 2) := by decide +kernel
theorem dX4_answer_121 : decode cX4_answer 121 = .ok (.iload 5, 2) := by decide +kernel
theorem dX4_answer_123 : decode cX4_answer 123 = .ok (.invokevirtual 75, 3) := by decide +kernel
theorem dX4_answer_126 : decode cX4_answer 126 = .ok (.iinc 3 20, 3) := by decide +kernel
theorem dX4_answer_129 : decode cX4_answer 129 = .ok (.goto (-83), 3) := by decide +kernel
theorem dX4_answer_132 : decode cX4_answer 132 = .ok (.aload_n 0, 1) := by decide +kernel
theorem dX4_answer_133 : decode cX4_answer 133 = .ok (.getfield 56, 3) := by decide +kernel
theorem dX4_answer_136 : decode cX4_answer 136 = .ok (.iconst 4, 1) := by decide +kernel
theorem dX4_answer_137 : decode cX4_answer 137 = .ok (.if_icmp .le 9, 3) := by decide +kernel
theorem dX4_answer_140 : decode cX4_answer 140 = .ok (.aload_n 0, 1) := by decide +kernel
theorem dX4_answer_141 : decode cX4_answer 141 = .ok (.iload_n 1, 1) := by decide +kernel
theorem dX4_answer_142 : decode cX4_answer 142 = .ok (.iload_n 2, 1) := by decide +kernel
theorem dX4_answer_143 : decode cX4_answer 143 = .ok (.invokevirtual 79, 3) := by decide +kernel
theorem dX4_answer_146 : decode cX4_answer 146 = .ok (.return_, 1) := by decide +kernel
theorem dX4_arrive_0 : decode cX4_arrive 0 = .ok (.aload_n 0, 1) := by decide +kernel
theorem dX4_arrive_1 : decode cX4_arrive 1 = .ok (.getfield 29, 3) := by decide +kernel
theorem dX4_arrive_4 : decode cX4_arrive 4 = .ok (.iload_n 1, 1) := by decide +kernel
theorem dX4_arrive_5 : decode cX4_arrive 5 = .ok (.iaload, 1) := by decide +kernel
theorem dX4_arrive_6 : decode cX4_arrive 6 = .ok (.istore_n 2, 1) := by decide +kernel
theorem dX4_arrive_7 : decode cX4_arrive 7 = .ok (.aload_n 0, 1) := by decide +kernel
theorem dX4_arrive_8 : decode cX4_arrive 8 = .ok (.getfield 32, 3) := by decide +kernel
theorem dX4_arrive_11 : decode cX4_arrive 11 = .ok (.iload_n 1, 1) := by decide +kernel
theorem dX4_arrive_12 : decode cX4_arrive 12 = .ok (.iaload, 1) := by decide +kernel
theorem dX4_arrive_13 : decode cX4_arrive 13 = .ok (.istore_n 3, 1) := by decide +kernel
theorem dX4_arrive_14 : decode cX4_arrive 14 = .ok (.aload_n 0, 1) := by decide +kernel
theorem dX4_arrive_15 : decode cX4_arrive 15 = .ok (.aload_n 0, 1) := by decide +kernel
theorem dX4_arrive_16 : decode cX4_arrive 16 = .ok (.getfield 35, 3) := by decide +kernel
theorem dX4_arrive_19 : decode cX4_arrive 19 = .ok (.iload_n 1, 1) := by decide +kernel
theorem dX4_arrive_20 : decode cX4_arrive 20 = .ok (.iaload, 1) := by decide +kernel
theorem dX4_arrive_21 : decode cX4_arrive 21 = .ok (.putfield 90, 3) := by decide +kernel
theorem dX4_arrive_24 : decode cX4_arrive 24 = .ok (.iconst 0, 1) := by decide +kernel
theorem dX4_arrive_25 : decode cX4_arrive 25 = .ok (.istore 4, 2) := by decide +kernel
theorem dX4_arrive_27 : decode cX4_arrive 27 = .ok (.iload 4, 2) := by decide +kernel
theorem dX4_arrive_29 : decode cX4_arrive 29 = .ok (.aload_n 0, 1) := by decide +kernel
theorem dX4_arrive_30 : decode cX4_arrive 30 = .ok (.getfield 90, 3) := by decide +kernel
theorem dX4_arrive_33 : decode cX4_arrive 33 = .ok (.if_icmp .ge 29, 3) := by decide +kernel
theorem dX4_arrive_36 : decode cX4_arrive 36 = .ok (.aload_n 0, 1) := by decide +kernel
theorem dX4_arrive_37 : decode cX4_arrive 37 = .ok (.getfield 45, 3) := by decide +kernel
theorem dX4_arrive_40 : decode cX4_arrive 40 = .ok (.iload 4, 2) := by decide +kernel
theorem dX4_arrive_42 : decode cX4_arrive 42 = .ok (.aload_n 0, 1) := by decide +kernel
theorem dX4_arrive_43 : decode cX4_arrive 43 = .ok (.getfield 39, 3) := by decide +kernel
theorem dX4_arrive_46 : decode cX4_arrive 46 = .ok (.sipush 164, 3) := by decide +kernel
theorem dX4_arrive_49 : decode cX4_arrive 49 = .ok (.iload_n 1, 1) := by decide +kernel
theorem dX4_arrive_50 : decode cX4_arrive 50 = .ok (.imul, 1) := by decide +kernel
theorem dX4_arrive_51 : decode cX4_arrive 51 = .ok (.iload 4, 2) := by decide +kernel
theorem dX4_arrive_53 : decode cX4_arrive 53 = .ok (.iadd, 1) := by decide +kernel
theorem dX4_arrive_54 : decode cX4_arrive 54 = .ok (.iaload, 1) := by decide +kernel
theorem dX4_arrive_55 : decode cX4_arrive 55 = .ok (.iastore, 1) := by decide +kernel
theorem dX4_arrive_56 : decode cX4_arrive 56 = .ok (.iinc 4 1, 3) := by decide +kernel
theorem dX4_arrive_59 : decode cX4_arrive 59 = .ok (.goto (-32), 3) := by decide +kernel
theorem dX4_arrive_62 : decode cX4_arrive 62 = .ok (.aload_n 0, 1) := by decide +kernel
theorem dX4_arrive_63 : decode cX4_arrive 63 = .ok (.iload_n 1, 1) := by decide +kernel
theorem dX4_arrive_64 : decode cX4_arrive 64 = .ok (.invokevirtual 101, 3) := by decide +kernel
theorem dX4_arrive_67 : decode cX4_arrive 67 = .ok (.aload_n 0, 1) := by decide +kernel
theorem dX4_arrive_68 : decode cX4_arrive 68 = .ok (.getfield 7, 3) := by decide +kernel
theorem dX4_arrive_71 : decode cX4_arrive 71 = .ok (.bipush 8, 2) := by decide +kernel
theorem dX4_arrive_73 : decode cX4_arrive 73 = .ok (.iload_n 2, 1) := by decide +kernel
theorem dX4_arrive_74 : decode cX4_arrive 74 = .ok (.imul, 1) := by decide +kernel
theorem dX4_arrive_75 : decode cX4_arrive 75 = .ok (.iload_n 3, 1) := by decide +kernel
theorem dX4_arrive_76 : decode cX4_arrive 76 = .ok (.iadd, 1) := by decide +kernel
theorem dX4_arrive_77 : decode cX4_arrive 77 = .ok (.baload, 1) := by decide +kernel
theorem dX4_arrive_78 : decode cX4_arrive 78 = .ok (.ifCond .ne 15, 3) := by decide +kernel
theorem dX4_arrive_81 : decode cX4_arrive 81 = .ok (.aload_n 0, 1) := by decide +kernel
theorem dX4_arrive_82 : decode cX4_arrive 82 = .ok (.dup, 1) := by decide +kernel
theorem dX4_arrive_83 : decode cX4_arrive 83 = .ok (.getfield 69, 3) := by decide +kernel
theorem dX4_arrive_86 : decode cX4_arrive 86 = .ok (.iconst 1, 1) := by decide +kernel
theorem dX4_arrive_87 : decode cX4_arrive 87 = .ok (.iadd, 1) := by decide +kernel
theorem dX4_arrive_88 : decode cX4_arrive 88 = .ok (.putfield 69, 3) := by decide +kernel
theorem dX4_arrive_91 : decode cX4_arrive 91 = .ok (.iconst 0, 1) := by decide +kernel
theorem dX4_arrive_92 : decode cX4_arrive 92 = .ok (.ireturn, 1) := by decide +kernel
theorem dX4_arrive_93 : decode cX4_arrive 93 = .ok (.aload_n 0, 1) := by decide +kernel
theorem dX4_arrive_94 : decode cX4_arrive 94 = .ok (.getfield 90, 3) := by decide +kernel
theorem dX4_arrive_97 : decode cX4_arrive 97 = .ok (.bipush 24, 2) := by decide +kernel
theorem dX4_arrive_99 : decode cX4_arrive 99 = .ok (.if_icmp .lt 61, 3) := by decide +kernel
theorem dX4_arrive_102 : decode cX4_arrive 102 = .ok (.aload_n 0, 1) := by decide +kernel
theorem dX4_arrive_103 : decode cX4_arrive 103 = .ok (.getfield 90, 3) := by decide +kernel
theorem dX4_arrive_106 : decode cX4_arrive 106 = .ok (.iconst 4, 1) := by decide +kernel
theorem dX4_arrive_107 : decode cX4_arrive 107 = .ok (.isub, 1) := by decide +kernel
theorem dX4_arrive_108 : decode cX4_arrive 108 = .ok (.bipush 20, 2) := by decide +kernel
theorem dX4_arrive_110 : decode cX4_arrive 110 = .ok (.irem, 1) := by decide +kernel
theorem dX4_arrive_111 : decode cX4_arrive 111 = .ok (.ifCond .ne 49, 3) := by decide +kernel
theorem dX4_arrive_114 : decode cX4_arrive 114 = .ok (.aload_n 0, 1) := by decide +kernel
theorem dX4_arrive_115 : decode cX4_arrive 115 = .ok (.getfield 45, 3) := by decide +kernel
theorem dX4_arrive_118 : decode cX4_arrive 118 = .ok (.iconst 0, 1) := by decide +kernel
theorem dX4_arrive_119 : decode cX4_arrive 119 = .ok (.iaload, 1) := by decide +kernel
theorem dX4_arrive_120 : decode cX4_arrive 120 = .ok (.iconst 1, 1) := by decide +kernel
theorem dX4_arrive_121 : decode cX4_arrive 121 = .ok (.iconst 2, 1) := by decide +kernel
theorem dX4_arrive_122 : decode cX4_arrive 122 = .ok (.invokestatic 52, 3) := by decide +kernel
theorem dX4_arrive_125 : decode cX4_arrive 125 = .ok (.ifCond .eq 35, 3) := by decide +kernel
theorem dX4_arrive_128 : decode cX4_arrive 128 = .ok (.aload_n 0, 1) := by decide +kernel
theorem dX4_arrive_129 : decode cX4_arrive 129 = .ok (.getfield 45, 3) := by decide +kernel
theorem dX4_arrive_132 : decode cX4_arrive 132 = .ok (.iconst 1, 1) := by decide +kernel
theorem dX4_arrive_133 : decode cX4_arrive 133 = .ok (.iaload, 1) := by decide +kernel
theorem dX4_arrive_134 : decode cX4_arrive 134 = .ok (.iconst 2, 1) := by decide +kernel
theorem dX4_arrive_135 : decode cX4_arrive 135 = .ok (.if_icmp .ne 25, 3) := by decide +kernel
theorem dX4_arrive_138 : decode cX4_arrive 138 = .ok (.aload_n 0, 1) := by decide +kernel
theorem dX4_arrive_139 : decode cX4_arrive 139 = .ok (.getfield 45, 3) := by decide +kernel
theorem dX4_arrive_142 : decode cX4_arrive 142 = .ok (.iconst 2, 1) := by decide +kernel
theorem dX4_arrive_143 : decode cX4_arrive 143 = .ok (.iaload, 1) := by decide +kernel
theorem dX4_arrive_144 : decode cX4_arrive 144 = .ok (.ifCond .ne 16, 3) := by decide +kernel
theorem dX4_arrive_147 : decode cX4_arrive 147 = .ok (.aload_n 0, 1) := by decide +kernel
theorem dX4_arrive_148 : decode cX4_arrive 148 = .ok (.getfield 45, 3) := by decide +kernel
theorem dX4_arrive_151 : decode cX4_arrive 151 = .ok (.iconst 3, 1) := by decide +kernel
theorem dX4_arrive_152 : decode cX4_arrive 152 = .ok (.iaload, 1) := by decide +kernel
theorem dX4_arrive_153 : decode cX4_arrive 153 = .ok (.ifCond .ne 7, 3) := by decide +kernel
theorem dX4_arrive_156 : decode cX4_arrive 156 = .ok (.iconst 1, 1) := by decide +kernel
theorem dX4_arrive_157 : decode cX4_arrive 157 = .ok (.goto 4, 3) := by decide +kernel
theorem dX4_arrive_160 : decode cX4_arrive 160 = .ok (.iconst 0, 1) := by decide +kernel
theorem dX4_arrive_161 : decode cX4_arrive 161 = .ok (.istore 4, 2) := by decide +kernel
theorem dX4_arrive_163 : decode cX4_arrive 163 = .ok (.iload 4, 2) := by decide +kernel
theorem dX4_arrive_165 : decode cX4_arrive 165 = .ok (.ifCond .ne 15, 3) := by decide +kernel
theorem dX4_arrive_168 : decode cX4_arrive 168 = .ok (.aload_n 0, 1) := by decide +kernel
theorem dX4_arrive_169 : decode cX4_arrive 169 = .ok (.dup, 1) := by decide +kernel
theorem dX4_arrive_170 : decode cX4_arrive 170 = .ok (.getfield 104, 3) := by decide +kernel
theorem dX4_arrive_173 : decode cX4_arrive 173 = .ok (.iconst 1, 1) := by decide +kernel
theorem dX4_arrive_174 : decode cX4_arrive 174 = .ok (.iadd, 1) := by decide +kernel
theorem dX4_arrive_175 : decode cX4_arrive 175 = .ok (.putfield 104, 3) := by decide +kernel
theorem dX4_arrive_178 : decode cX4_arrive 178 = .ok (.iconst 1, 1) := by decide +kernel
theorem dX4_arrive_179 : decode cX4_arrive 179 = .ok (.ireturn, 1) := by decide +kernel
theorem dX4_arrive_180 : decode cX4_arrive 180 = .ok (.aload_n 0, 1) := by decide +kernel
theorem dX4_arrive_181 : decode cX4_arrive 181 = .ok (.getfield 45, 3) := by decide +kernel
theorem dX4_arrive_184 : decode cX4_arrive 184 = .ok (.iconst 0, 1) := by decide +kernel
theorem dX4_arrive_185 : decode cX4_arrive 185 = .ok (.iaload, 1) := by decide +kernel
theorem dX4_arrive_186 : decode cX4_arrive 186 = .ok (.iconst 1, 1) := by decide +kernel
theorem dX4_arrive_187 : decode cX4_arrive 187 = .ok (.if_icmp .ne 11, 3) := by decide +kernel
theorem dX4_arrive_190 : decode cX4_arrive 190 = .ok (.aload_n 0, 1) := by decide +kernel
theorem dX4_arrive_191 : decode cX4_arrive 191 = .ok (.iload_n 3, 1) := by decide +kernel
theorem dX4_arrive_192 : decode cX4_arrive 192 = .ok (.iload_n 2, 1) := by decide +kernel
theorem dX4_arrive_193 : decode cX4_arrive 193 = .ok (.invokevirtual 107, 3) := by decide +kernel
theorem dX4_arrive_196 : decode cX4_arrive 196 = .ok (.iconst 1, 1) := by decide +kernel
theorem dX4_arrive_197 : decode cX4_arrive 197 = .ok (.ireturn, 1) := by decide +kernel
theorem dX4_arrive_198 : decode cX4_arrive 198 = .ok (.iconst 4, 1) := by decide +kernel
theorem dX4_arrive_199 : decode cX4_arrive 199 = .ok (.istore 5, 2) := by decide +kernel
theorem dX4_arrive_201 : decode cX4_arrive 201 = .ok (.iload 5, 2) := by decide +kernel
theorem dX4_arrive_203 : decode cX4_arrive 203 = .ok (.aload_n 0, 1) := by decide +kernel
theorem dX4_arrive_204 : decode cX4_arrive 204 = .ok (.getfield 90, 3) := by decide +kernel
theorem dX4_arrive_207 : decode cX4_arrive 207 = .ok (.if_icmp .ge 58, 3) := by decide +kernel
theorem dX4_arrive_210 : decode cX4_arrive 210 = .ok (.aload_n 0, 1) := by decide +kernel
theorem dX4_arrive_211 : decode cX4_arrive 211 = .ok (.iload 5, 2) := by decide +kernel
theorem dX4_arrive_213 : decode cX4_arrive 213 = .ok (.invokevirtual 97, 3) := by decide +kernel
theorem dX4_arrive_216 : decode cX4_arrive 216 = .ok (.ifCond .eq 43, 3) := by decide +kernel
theorem dX4_arrive_219 : decode cX4_arrive 219 = .ok (.aload_n 0, 1) := by decide +kernel
theorem dX4_arrive_220 : decode cX4_arrive 220 = .ok (.getfield 45, 3) := by decide +kernel
theorem dX4_arrive_223 : decode cX4_arrive 223 = .ok (.iload 5, 2) := by decide +kernel
theorem dX4_arrive_225 : decode cX4_arrive 225 = .ok (.bipush 6, 2) := by decide +kernel
theorem dX4_arrive_227 : decode cX4_arrive 227 = .ok (.iadd, 1) := by decide +kernel
theorem dX4_arrive_228 : decode cX4_arrive 228 = .ok (.iaload, 1) := by decide +kernel
theorem dX4_arrive_229 : decode cX4_arrive 229 = .ok (.iload_n 3, 1) := by decide +kernel
theorem dX4_arrive_230 : decode cX4_arrive 230 = .ok (.if_icmp .eq 29, 3) := by decide +kernel
theorem dX4_arrive_233 : decode cX4_arrive 233 = .ok (.aload_n 0, 1) := by decide +kernel
theorem dX4_arrive_234 : decode cX4_arrive 234 = .ok (.iload_n 3, 1) := by decide +kernel
theorem dX4_arrive_235 : decode cX4_arrive 235 = .ok (.iload_n 2, 1) := by decide +kernel
theorem dX4_arrive_236 : decode cX4_arrive 236 = .ok (.aload_n 0, 1) := by decide +kernel
theorem dX4_arrive_237 : decode cX4_arrive 237 = .ok (.getfield 45, 3) := by decide +kernel
theorem dX4_arrive_240 : decode cX4_arrive 240 = .ok (.iload 5, 2) := by decide +kernel
theorem dX4_arrive_242 : decode cX4_arrive 242 = .ok (.bipush 6, 2) := by decide +kernel
theorem dX4_arrive_244 : decode cX4_arrive 244 = .ok (.iadd, 1) := by decide +kernel
theorem dX4_arrive_245 : decode cX4_arrive 245 = .ok (.iaload, 1) := by decide +kernel
theorem dX4_arrive_246 : decode cX4_arrive 246 = .ok (.aload_n 0, 1) := by decide +kernel
theorem dX4_arrive_247 : decode cX4_arrive 247 = .ok (.getfield 45, 3) := by decide +kernel
theorem dX4_arrive_250 : decode cX4_arrive 250 = .ok (.iload 5, 2) := by decide +kernel
theorem dX4_arrive_252 : decode cX4_arrive 252 = .ok (.bipush 19, 2) := by decide +kernel
theorem dX4_arrive_254 : decode cX4_arrive 254 = .ok (.iadd, 1) := by decide +kernel
theorem dX4_arrive_255 : decode cX4_arrive 255 = .ok (.iaload, 1) := by decide +kernel
theorem dX4_arrive_256 : decode cX4_arrive 256 = .ok (.invokevirtual 110, 3) := by decide +kernel
theorem dX4_arrive_259 : decode cX4_arrive 259 = .ok (.iinc 5 20, 3) := by decide +kernel
theorem dX4_arrive_262 : decode cX4_arrive 262 = .ok (.goto (-61), 3) := by decide +kernel
theorem dX4_arrive_265 : decode cX4_arrive 265 = .ok (.iconst 1, 1) := by decide +kernel
theorem dX4_arrive_266 : decode cX4_arrive 266 = .ok (.ireturn, 1) := by decide +kernel
theorem dX4_turn_0 : decode cX4_turn 0 = .ok (.aload_n 0, 1) := by decide +kernel
theorem dX4_turn_1 : decode cX4_turn 1 = .ok (.dup, 1) := by decide +kernel
theorem dX4_turn_2 : decode cX4_turn 2 = .ok (.getfield 114, 3) := by decide +kernel
theorem dX4_turn_5 : decode cX4_turn 5 = .ok (.iconst 1, 1) := by decide +kernel
theorem dX4_turn_6 : decode cX4_turn 6 = .ok (.iadd, 1) := by decide +kernel
theorem dX4_turn_7 : decode cX4_turn 7 = .ok (.putfield 114, 3) := by decide +kernel
theorem dX4_turn_10 : decode cX4_turn 10 = .ok (.iconst 0, 1) := by decide +kernel
theorem dX4_turn_11 : decode cX4_turn 11 = .ok (.istore_n 1, 1) := by decide +kernel
theorem dX4_turn_12 : decode cX4_turn 12 = .ok (.iload_n 1, 1) := by decide +kernel
theorem dX4_turn_13 : decode cX4_turn 13 = .ok (.bipush 64, 2) := by decide +kernel
theorem dX4_turn_15 : decode cX4_turn 15 = .ok (.if_icmp .ge 120, 3) := by decide +kernel
theorem dX4_turn_18 : decode cX4_turn 18 = .ok (.aload_n 0, 1) := by decide +kernel
theorem dX4_turn_19 : decode cX4_turn 19 = .ok (.getfield 13, 3) := by decide +kernel
theorem dX4_turn_22 : decode cX4_turn 22 = .ok (.iload_n 1, 1) := by decide +kernel
theorem dX4_turn_23 : decode cX4_turn 23 = .ok (.iaload, 1) := by decide +kernel
theorem dX4_turn_24 : decode cX4_turn 24 = .ok (.ifCond .ne 6, 3) := by decide +kernel
theorem dX4_turn_27 : decode cX4_turn 27 = .ok (.goto 102, 3) := by decide +kernel
theorem dX4_turn_30 : decode cX4_turn 30 = .ok (.aload_n 0, 1) := by decide +kernel
theorem dX4_turn_31 : decode cX4_turn 31 = .ok (.getfield 20, 3) := by decide +kernel
theorem dX4_turn_34 : decode cX4_turn 34 = .ok (.iload_n 1, 1) := by decide +kernel
theorem dX4_turn_35 : decode cX4_turn 35 = .ok (.dup2, 1) := by decide +kernel
theorem dX4_turn_36 : decode cX4_turn 36 = .ok (.iaload, 1) := by decide +kernel
theorem dX4_turn_37 : decode cX4_turn 37 = .ok (.iconst 1, 1) := by decide +kernel
theorem dX4_turn_38 : decode cX4_turn 38 = .ok (.iadd, 1) := by decide +kernel
theorem dX4_turn_39 : decode cX4_turn 39 = .ok (.iastore, 1) := by decide +kernel
theorem dX4_turn_40 : decode cX4_turn 40 = .ok (.aload_n 0, 1) := by decide +kernel
theorem dX4_turn_41 : decode cX4_turn 41 = .ok (.getfield 26, 3) := by decide +kernel
theorem dX4_turn_44 : decode cX4_turn 44 = .ok (.iload_n 1, 1) := by decide +kernel
theorem dX4_turn_45 : decode cX4_turn 45 = .ok (.dup2, 1) := by decide +kernel
theorem dX4_turn_46 : decode cX4_turn 46 = .ok (.iaload, 1) := by decide +kernel
theorem dX4_turn_47 : decode cX4_turn 47 = .ok (.aload_n 0, 1) := by decide +kernel
theorem dX4_turn_48 : decode cX4_turn 48 = .ok (.getfield 26, 3) := by decide +kernel
theorem dX4_turn_51 : decode cX4_turn 51 = .ok (.iload_n 1, 1) := by decide +kernel
theorem dX4_turn_52 : decode cX4_turn 52 = .ok (.iaload, 1) := by decide +kernel
theorem dX4_turn_53 : decode cX4_turn 53 = .ok (.ifCond .le 7, 3) := by decide +kernel
theorem dX4_turn_56 : decode cX4_turn 56 = .ok (.iconst 1, 1) := by decide +kernel
theorem dX4_turn_57 : decode cX4_turn 57 = .ok (.goto 4, 3) := by decide +kernel
theorem dX4_turn_60 : decode cX4_turn 60 = .ok (.iconst 0, 1) := by decide +kernel
theorem dX4_turn_61 : decode cX4_turn 61 = .ok (.isub, 1) := by decide +kernel
theorem dX4_turn_62 : decode cX4_turn 62 = .ok (.iastore, 1) := by decide +kernel
theorem dX4_turn_63 : decode cX4_turn 63 = .ok (.aload_n 0, 1) := by decide +kernel
theorem dX4_turn_64 : decode cX4_turn 64 = .ok (.getfield 13, 3) := by decide +kernel
theorem dX4_turn_67 : decode cX4_turn 67 = .ok (.iload_n 1, 1) := by decide +kernel
theorem dX4_turn_68 : decode cX4_turn 68 = .ok (.iaload, 1) := by decide +kernel
theorem dX4_turn_69 : decode cX4_turn 69 = .ok (.bipush 16, 2) := by decide +kernel
theorem dX4_turn_71 : decode cX4_turn 71 = .ok (.if_icmp .ge 22, 3) := by decide +kernel
theorem dX4_turn_74 : decode cX4_turn 74 = .ok (.aload_n 0, 1) := by decide +kernel
theorem dX4_turn_75 : decode cX4_turn 75 = .ok (.getfield 20, 3) := by decide +kernel
theorem dX4_turn_78 : decode cX4_turn 78 = .ok (.iload_n 1, 1) := by decide +kernel
theorem dX4_turn_79 : decode cX4_turn 79 = .ok (.iaload, 1) := by decide +kernel
theorem dX4_turn_80 : decode cX4_turn 80 = .ok (.bipush 60, 2) := by decide +kernel
theorem dX4_turn_82 : decode cX4_turn 82 = .ok (.if_icmp .ne 11, 3) := by decide +kernel
theorem dX4_turn_85 : decode cX4_turn 85 = .ok (.aload_n 0, 1) := by decide +kernel
theorem dX4_turn_86 : decode cX4_turn 86 = .ok (.iload_n 1, 1) := by decide +kernel
theorem dX4_turn_87 : decode cX4_turn 87 = .ok (.invokevirtual 87, 3) := by decide +kernel
theorem dX4_turn_90 : decode cX4_turn 90 = .ok (.goto 39, 3) := by decide +kernel
theorem dX4_turn_93 : decode cX4_turn 93 = .ok (.aload_n 0, 1) := by decide +kernel
theorem dX4_turn_94 : decode cX4_turn 94 = .ok (.getfield 13, 3) := by decide +kernel
theorem dX4_turn_97 : decode cX4_turn 97 = .ok (.iload_n 1, 1) := by decide +kernel
theorem dX4_turn_98 : decode cX4_turn 98 = .ok (.iaload, 1) := by decide +kernel
theorem dX4_turn_99 : decode cX4_turn 99 = .ok (.bipush 16, 2) := by decide +kernel
theorem dX4_turn_101 : decode cX4_turn 101 = .ok (.if_icmp .ne 28, 3) := by decide +kernel
theorem dX4_turn_104 : decode cX4_turn 104 = .ok (.aload_n 0, 1) := by decide +kernel
theorem dX4_turn_105 : decode cX4_turn 105 = .ok (.getfield 20, 3) := by decide +kernel
theorem dX4_turn_108 : decode cX4_turn 108 = .ok (.iload_n 1, 1) := by decide +kernel
theorem dX4_turn_109 : decode cX4_turn 109 = .ok (.iaload, 1) := by decide +kernel
theorem dX4_turn_110 : decode cX4_turn 110 = .ok (.bipush 50, 2) := by decide +kernel
theorem dX4_turn_112 : decode cX4_turn 112 = .ok (.if_icmp .ne 17, 3) := by decide +kernel
theorem dX4_turn_115 : decode cX4_turn 115 = .ok (.aload_n 0, 1) := by decide +kernel
theorem dX4_turn_116 : decode cX4_turn 116 = .ok (.getfield 13, 3) := by decide +kernel
theorem dX4_turn_119 : decode cX4_turn 119 = .ok (.iload_n 1, 1) := by decide +kernel
theorem dX4_turn_120 : decode cX4_turn 120 = .ok (.iconst 0, 1) := by decide +kernel
theorem dX4_turn_121 : decode cX4_turn 121 = .ok (.iastore, 1) := by decide +kernel
theorem dX4_turn_122 : decode cX4_turn 122 = .ok (.aload_n 0, 1) := by decide +kernel
theorem dX4_turn_123 : decode cX4_turn 123 = .ok (.getfield 23, 3) := by decide +kernel
theorem dX4_turn_126 : decode cX4_turn 126 = .ok (.iload_n 1, 1) := by decide +kernel
theorem dX4_turn_127 : decode cX4_turn 127 = .ok (.iconst 0, 1) := by decide +kernel
theorem dX4_turn_128 : decode cX4_turn 128 = .ok (.bastore, 1) := by decide +kernel
theorem dX4_turn_129 : decode cX4_turn 129 = .ok (.iinc 1 1, 3) := by decide +kernel
theorem dX4_turn_132 : decode cX4_turn 132 = .ok (.goto (-120), 3) := by decide +kernel
theorem dX4_turn_135 : decode cX4_turn 135 = .ok (.iconst 0, 1) := by decide +kernel
theorem dX4_turn_136 : decode cX4_turn 136 = .ok (.istore_n 1, 1) := by decide +kernel
theorem dX4_turn_137 : decode cX4_turn 137 = .ok (.iload_n 1, 1) := by decide +kernel
theorem dX4_turn_138 : decode cX4_turn 138 = .ok (.bipush 8, 2) := by decide +kernel
theorem dX4_turn_140 : decode cX4_turn 140 = .ok (.if_icmp .ge 14, 3) := by decide +kernel
theorem dX4_turn_143 : decode cX4_turn 143 = .ok (.aload_n 0, 1) := by decide +kernel
theorem dX4_turn_144 : decode cX4_turn 144 = .ok (.iload_n 1, 1) := by decide +kernel
theorem dX4_turn_145 : decode cX4_turn 145 = .ok (.invokevirtual 117, 3) := by decide +kernel
theorem dX4_turn_148 : decode cX4_turn 148 = .ok (.iinc 1 1, 3) := by decide +kernel
theorem dX4_turn_151 : decode cX4_turn 151 = .ok (.goto (-14), 3) := by decide +kernel
theorem dX4_turn_154 : decode cX4_turn 154 = .ok (.return_, 1) := by decide +kernel
theorem dX4_turnRouter_0 : decode cX4_turnRouter 0 = .ok (.iconst 0, 1) := by decide +kernel
theorem dX4_turnRouter_1 : decode cX4_turnRouter 1 = .ok (.istore_n 2, 1) := by decide +kernel
theorem dX4_turnRouter_2 : decode cX4_turnRouter 2 = .ok (.iconst 0, 1) := by decide +kernel
theorem dX4_turnRouter_3 : decode cX4_turnRouter 3 = .ok (.istore_n 3, 1) := by decide +kernel
theorem dX4_turnRouter_4 : decode cX4_turnRouter 4 = .ok (.iload_n 3, 1) := by decide +kernel
theorem dX4_turnRouter_5 : decode cX4_turnRouter 5 = .ok (.bipush 8, 2) := by decide +kernel
theorem dX4_turnRouter_7 : decode cX4_turnRouter 7 = .ok (.if_icmp .ge 47, 3) := by decide +kernel
theorem dX4_turnRouter_10 : decode cX4_turnRouter 10 = .ok (.iload_n 2, 1) := by decide +kernel
theorem dX4_turnRouter_11 : decode cX4_turnRouter 11 = .ok (.ifCond .ne 31, 3) := by decide +kernel
theorem dX4_turnRouter_14 : decode cX4_turnRouter 14 = .ok (.aload_n 0, 1) := by decide +kernel
theorem dX4_turnRouter_15 : decode cX4_turnRouter 15 = .ok (.getfield 13, 3) := by decide +kernel
theorem dX4_turnRouter_18 : decode cX4_turnRouter 18 = .ok (.bipush 8, 2) := by decide +kernel
theorem dX4_turnRouter_20 : decode cX4_turnRouter 20 = .ok (.iload_n 1, 1) := by decide +kernel
theorem dX4_turnRouter_21 : decode cX4_turnRouter 21 = .ok (.imul, 1) := by decide +kernel
theorem dX4_turnRouter_22 : decode cX4_turnRouter 22 = .ok (.iload_n 3, 1) := by decide +kernel
theorem dX4_turnRouter_23 : decode cX4_turnRouter 23 = .ok (.iadd, 1) := by decide +kernel
theorem dX4_turnRouter_24 : decode cX4_turnRouter 24 = .ok (.iaload, 1) := by decide +kernel
theorem dX4_turnRouter_25 : decode cX4_turnRouter 25 = .ok (.ifCond .le 21, 3) := by decide +kernel
theorem dX4_turnRouter_28 : decode cX4_turnRouter 28 = .ok (.aload_n 0, 1) := by decide +kernel
theorem dX4_turnRouter_29 : decode cX4_turnRouter 29 = .ok (.getfield 23, 3) := by decide +kernel
theorem dX4_turnRouter_32 : decode cX4_turnRouter 32 = .ok (.bipush 8, 2) := by decide +kernel
theorem dX4_turnRouter_34 : decode cX4_turnRouter 34 = .ok (.iload_n 1, 1) := by decide +kernel
theorem dX4_turnRouter_35 : decode cX4_turnRouter 35 = .ok (.imul, 1) := by decide +kernel
theorem dX4_turnRouter_36 : decode cX4_turnRouter 36 = .ok (.iload_n 3, 1) := by decide +kernel
theorem dX4_turnRouter_37 : decode cX4_turnRouter 37 = .ok (.iadd, 1) := by decide +kernel
theorem dX4_turnRouter_38 : decode cX4_turnRouter 38 = .ok (.baload, 1) := by decide +kernel
theorem dX4_turnRouter_39 : decode cX4_turnRouter 39 = .ok (.ifCond .eq 7, 3) := by decide +kernel
theorem dX4_turnRouter_42 : decode cX4_turnRouter 42 = .ok (.iconst 1, 1) := by decide +kernel
theorem dX4_turnRouter_43 : decode cX4_turnRouter 43 = .ok (.goto 4, 3) := by decide +kernel
theorem dX4_turnRouter_46 : decode cX4_turnRouter 46 = .ok (.iconst 0, 1) := by decide +kernel
theorem dX4_turnRouter_47 : decode cX4_turnRouter 47 = .ok (.istore_n 2, 1) := by decide +kernel
theorem dX4_turnRouter_48 : decode cX4_turnRouter 48 = .ok (.iinc 3 1, 3) := by decide +kernel
theorem dX4_turnRouter_51 : decode cX4_turnRouter 51 = .ok (.goto (-47), 3) := by decide +kernel
theorem dX4_turnRouter_54 : decode cX4_turnRouter 54 = .ok (.aload_n 0, 1) := by decide +kernel
theorem dX4_turnRouter_55 : decode cX4_turnRouter 55 = .ok (.getfield 114, 3) := by decide +kernel
theorem dX4_turnRouter_58 : decode cX4_turnRouter 58 = .ok (.iload_n 1, 1) := by decide +kernel
theorem dX4_turnRouter_59 : decode cX4_turnRouter 59 = .ok (.iadd, 1) := by decide +kernel
theorem dX4_turnRouter_60 : decode cX4_turnRouter 60 = .ok (.bipush 10, 2) := by decide +kernel
theorem dX4_turnRouter_62 : decode cX4_turnRouter 62 = .ok (.irem, 1) := by decide +kernel
theorem dX4_turnRouter_63 : decode cX4_turnRouter 63 = .ok (.ifCond .ne 7, 3) := by decide +kernel
theorem dX4_turnRouter_66 : decode cX4_turnRouter 66 = .ok (.iconst 1, 1) := by decide +kernel
theorem dX4_turnRouter_67 : decode cX4_turnRouter 67 = .ok (.goto 4, 3) := by decide +kernel
theorem dX4_turnRouter_70 : decode cX4_turnRouter 70 = .ok (.iconst 0, 1) := by decide +kernel
theorem dX4_turnRouter_71 : decode cX4_turnRouter 71 = .ok (.istore_n 3, 1) := by decide +kernel
theorem dX4_turnRouter_72 : decode cX4_turnRouter 72 = .ok (.iconst 0, 1) := by decide +kernel
theorem dX4_turnRouter_73 : decode cX4_turnRouter 73 = .ok (.istore 4, 2) := by decide +kernel
theorem dX4_turnRouter_75 : decode cX4_turnRouter 75 = .ok (.iload 4, 2) := by decide +kernel
theorem dX4_turnRouter_77 : decode cX4_turnRouter 77 = .ok (.bipush 8, 2) := by decide +kernel
theorem dX4_turnRouter_79 : decode cX4_turnRouter 79 = .ok (.if_icmp .ge 41, 3) := by decide +kernel
theorem dX4_turnRouter_82 : decode cX4_turnRouter 82 = .ok (.iload_n 3, 1) := by decide +kernel
theorem dX4_turnRouter_83 : decode cX4_turnRouter 83 = .ok (.ifCond .ne 7, 3) := by decide +kernel
theorem dX4_turnRouter_86 : decode cX4_turnRouter 86 = .ok (.iload_n 2, 1) := by decide +kernel
theorem dX4_turnRouter_87 : decode cX4_turnRouter 87 = .ok (.ifCond .eq 33, 3) := by decide +kernel
theorem dX4_turnRouter_90 : decode cX4_turnRouter 90 = .ok (.aload_n 0, 1) := by decide +kernel
theorem dX4_turnRouter_91 : decode cX4_turnRouter 91 = .ok (.getfield 7, 3) := by decide +kernel
theorem dX4_turnRouter_94 : decode cX4_turnRouter 94 = .ok (.bipush 8, 2) := by decide +kernel
theorem dX4_turnRouter_96 : decode cX4_turnRouter 96 = .ok (.iload_n 1, 1) := by decide +kernel
theorem dX4_turnRouter_97 : decode cX4_turnRouter 97 = .ok (.imul, 1) := by decide +kernel
theorem dX4_turnRouter_98 : decode cX4_turnRouter 98 = .ok (.iload 4, 2) := by decide +kernel
theorem dX4_turnRouter_100 : decode cX4_turnRouter 100 = .ok (.iadd, 1) := by decide +kernel
theorem dX4_turnRouter_101 : decode cX4_turnRouter 101 = .ok (.baload, 1) := by decide +kernel
theorem dX4_turnRouter_102 : decode cX4_turnRouter 102 = .ok (.ifCond .eq 12, 3) := by decide +kernel
theorem dX4_turnRouter_105 : decode cX4_turnRouter 105 = .ok (.aload_n 0, 1) := by decide +kernel
theorem dX4_turnRouter_106 : decode cX4_turnRouter 106 = .ok (.iload_n 1, 1) := by decide +kernel
theorem dX4_turnRouter_107 : decode cX4_turnRouter 107 = .ok (.iload 4, 2) := by decide +kernel
theorem dX4_turnRouter_109 : decode cX4_turnRouter 109 = .ok (.iload_n 3, 1) := by decide +kernel
theorem dX4_turnRouter_110 : decode cX4_turnRouter 110 = .ok (.iload_n 3, 1) := by decide +kernel
theorem dX4_turnRouter_111 : decode cX4_turnRouter 111 = .ok (.invokevirtual 93, 3) := by decide +kernel
theorem dX4_turnRouter_114 : decode cX4_turnRouter 114 = .ok (.iinc 4 1, 3) := by decide +kernel
theorem dX4_turnRouter_117 : decode cX4_turnRouter 117 = .ok (.goto (-42), 3) := by decide +kernel
theorem dX4_turnRouter_120 : decode cX4_turnRouter 120 = .ok (.iconst 0, 1) := by decide +kernel
theorem dX4_turnRouter_121 : decode cX4_turnRouter 121 = .ok (.istore 4, 2) := by decide +kernel
theorem dX4_turnRouter_123 : decode cX4_turnRouter 123 = .ok (.iload 4, 2) := by decide +kernel
theorem dX4_turnRouter_125 : decode cX4_turnRouter 125 = .ok (.bipush 8, 2) := by decide +kernel
theorem dX4_turnRouter_127 : decode cX4_turnRouter 127 = .ok (.if_icmp .ge 22, 3) := by decide +kernel
theorem dX4_turnRouter_130 : decode cX4_turnRouter 130 = .ok (.aload_n 0, 1) := by decide +kernel
theorem dX4_turnRouter_131 : decode cX4_turnRouter 131 = .ok (.getfield 23, 3) := by decide +kernel
theorem dX4_turnRouter_134 : decode cX4_turnRouter 134 = .ok (.bipush 8, 2) := by decide +kernel
theorem dX4_turnRouter_136 : decode cX4_turnRouter 136 = .ok (.iload_n 1, 1) := by decide +kernel
theorem dX4_turnRouter_137 : decode cX4_turnRouter 137 = .ok (.imul, 1) := by decide +kernel
theorem dX4_turnRouter_138 : decode cX4_turnRouter 138 = .ok (.iload 4, 2) := by decide +kernel
theorem dX4_turnRouter_140 : decode cX4_turnRouter 140 = .ok (.iadd, 1) := by decide +kernel
theorem dX4_turnRouter_141 : decode cX4_turnRouter 141 = .ok (.iconst 0, 1) := by decide +kernel
theorem dX4_turnRouter_142 : decode cX4_turnRouter 142 = .ok (.bastore, 1) := by decide +kernel
theorem dX4_turnRouter_143 : decode cX4_turnRouter 143 = .ok (.iinc 4 1, 3) := by decide +kernel
theorem dX4_turnRouter_146 : decode cX4_turnRouter 146 = .ok (.goto (-23), 3) := by decide +kernel
theorem dX4_turnRouter_149 : decode cX4_turnRouter 149 = .ok (.return_, 1) := by decide +kernel
theorem dX4_link_0 : decode cX4_link 0 = .ok (.aload_n 0, 1) := by decide +kernel
theorem dX4_link_1 : decode cX4_link 1 = .ok (.iconst 0, 1) := by decide +kernel
theorem dX4_link_2 : decode cX4_link 2 = .ok (.putfield 48, 3) := by decide +kernel
theorem dX4_link_5 : decode cX4_link 5 = .ok (.aload_n 0, 1) := by decide +kernel
theorem dX4_link_6 : decode cX4_link 6 = .ok (.iload_n 1, 1) := by decide +kernel
theorem dX4_link_7 : decode cX4_link 7 = .ok (.invokestatic 120, 3) := by decide +kernel
theorem dX4_link_10 : decode cX4_link 10 = .ok (.ifCond .eq 10, 3) := by decide +kernel
theorem dX4_link_13 : decode cX4_link 13 = .ok (.iload_n 2, 1) := by decide +kernel
theorem dX4_link_14 : decode cX4_link 14 = .ok (.invokestatic 120, 3) := by decide +kernel
theorem dX4_link_17 : decode cX4_link 17 = .ok (.ifCond .ne 7, 3) := by decide +kernel
theorem dX4_link_20 : decode cX4_link 20 = .ok (.iconst 1, 1) := by decide +kernel
theorem dX4_link_21 : decode cX4_link 21 = .ok (.goto 4, 3) := by decide +kernel
theorem dX4_link_24 : decode cX4_link 24 = .ok (.iconst 0, 1) := by decide +kernel
theorem dX4_link_25 : decode cX4_link 25 = .ok (.iconst 1, 1) := by decide +kernel
theorem dX4_link_26 : decode cX4_link 26 = .ok (.invokevirtual 123, 3) := by decide +kernel
theorem dX4_link_29 : decode cX4_link 29 = .ok (.ifCond .ne 21, 3) := by decide +kernel
theorem dX4_link_32 : decode cX4_link 32 = .ok (.aload_n 0, 1) := by decide +kernel
theorem dX4_link_33 : decode cX4_link 33 = .ok (.iload_n 1, 1) := by decide +kernel
theorem dX4_link_34 : decode cX4_link 34 = .ok (.iload_n 2, 1) := by decide +kernel
theorem dX4_link_35 : decode cX4_link 35 = .ok (.if_icmp .ne 7, 3) := by decide +kernel
theorem dX4_link_38 : decode cX4_link 38 = .ok (.iconst 1, 1) := by decide +kernel
theorem dX4_link_39 : decode cX4_link 39 = .ok (.goto 4, 3) := by decide +kernel
theorem dX4_link_42 : decode cX4_link 42 = .ok (.iconst 0, 1) := by decide +kernel
theorem dX4_link_43 : decode cX4_link 43 = .ok (.iconst 2, 1) := by decide +kernel
theorem dX4_link_44 : decode cX4_link 44 = .ok (.invokevirtual 123, 3) := by decide +kernel
theorem dX4_link_47 : decode cX4_link 47 = .ok (.ifCond .eq 5, 3) := by decide +kernel
theorem dX4_link_50 : decode cX4_link 50 = .ok (.iconst 0, 1) := by decide +kernel
theorem dX4_link_51 : decode cX4_link 51 = .ok (.ireturn, 1) := by decide +kernel
theorem dX4_link_52 : decode cX4_link 52 = .ok (.aload_n 0, 1) := by decide +kernel
theorem dX4_link_53 : decode cX4_link 53 = .ok (.getfield 7, 3) := by decide +kernel
theorem dX4_link_56 : decode cX4_link 56 = .ok (.bipush 8, 2) := by decide +kernel
theorem dX4_link_58 : decode cX4_link 58 = .ok (.iload_n 1, 1) := by decide +kernel
theorem dX4_link_59 : decode cX4_link 59 = .ok (.imul, 1) := by decide +kernel
theorem dX4_link_60 : decode cX4_link 60 = .ok (.iload_n 2, 1) := by decide +kernel
theorem dX4_link_61 : decode cX4_link 61 = .ok (.iadd, 1) := by decide +kernel
theorem dX4_link_62 : decode cX4_link 62 = .ok (.baload, 1) := by decide +kernel
theorem dX4_link_63 : decode cX4_link 63 = .ok (.iload_n 3, 1) := by decide +kernel
theorem dX4_link_64 : decode cX4_link 64 = .ok (.if_icmp .eq 7, 3) := by decide +kernel
theorem dX4_link_67 : decode cX4_link 67 = .ok (.iconst 1, 1) := by decide +kernel
theorem dX4_link_68 : decode cX4_link 68 = .ok (.goto 4, 3) := by decide +kernel
theorem dX4_link_71 : decode cX4_link 71 = .ok (.iconst 0, 1) := by decide +kernel
theorem dX4_link_72 : decode cX4_link 72 = .ok (.istore 4, 2) := by decide +kernel
theorem dX4_link_74 : decode cX4_link 74 = .ok (.aload_n 0, 1) := by decide +kernel
theorem dX4_link_75 : decode cX4_link 75 = .ok (.getfield 7, 3) := by decide +kernel
theorem dX4_link_78 : decode cX4_link 78 = .ok (.bipush 8, 2) := by decide +kernel
theorem dX4_link_80 : decode cX4_link 80 = .ok (.iload_n 1, 1) := by decide +kernel
theorem dX4_link_81 : decode cX4_link 81 = .ok (.imul, 1) := by decide +kernel
theorem dX4_link_82 : decode cX4_link 82 = .ok (.iload_n 2, 1) := by decide +kernel
theorem dX4_link_83 : decode cX4_link 83 = .ok (.iadd, 1) := by decide +kernel
theorem dX4_link_84 : decode cX4_link 84 = .ok (.iload_n 3, 1) := by decide +kernel
theorem dX4_link_85 : decode cX4_link 85 = .ok (.bastore, 1) := by decide +kernel
theorem dX4_link_86 : decode cX4_link 86 = .ok (.aload_n 0, 1) := by decide +kernel
theorem dX4_link_87 : decode cX4_link 87 = .ok (.getfield 7, 3) := by decide +kernel
theorem dX4_link_90 : decode cX4_link 90 = .ok (.bipush 8, 2) := by decide +kernel
theorem dX4_link_92 : decode cX4_link 92 = .ok (.iload_n 2, 1) := by decide +kernel
theorem dX4_link_93 : decode cX4_link 93 = .ok (.imul, 1) := by decide +kernel
theorem dX4_link_94 : decode cX4_link 94 = .ok (.iload_n 1, 1) := by decide +kernel
theorem dX4_link_95 : decode cX4_link 95 = .ok (.iadd, 1) := by decide +kernel
theorem dX4_link_96 : decode cX4_link 96 = .ok (.iload_n 3, 1) := by decide +kernel
theorem dX4_link_97 : decode cX4_link 97 = .ok (.bastore, 1) := by decide +kernel
theorem dX4_link_98 : decode cX4_link 98 = .ok (.iload 4, 2) := by decide +kernel
theorem dX4_link_100 : decode cX4_link 100 = .ok (.ireturn, 1) := by decide +kernel
theorem dX4_sees_0 : decode cX4_sees 0 = .ok (.aload_n 0, 1) := by decide +kernel
theorem dX4_sees_1 : decode cX4_sees 1 = .ok (.iconst 0, 1) := by decide +kernel
theorem dX4_sees_2 : decode cX4_sees 2 = .ok (.putfield 48, 3) := by decide +kernel
theorem dX4_sees_5 : decode cX4_sees 5 = .ok (.aload_n 0, 1) := by decide +kernel
theorem dX4_sees_6 : decode cX4_sees 6 = .ok (.iload_n 1, 1) := by decide +kernel
theorem dX4_sees_7 : decode cX4_sees 7 = .ok (.invokestatic 120, 3) := by decide +kernel
theorem dX4_sees_10 : decode cX4_sees 10 = .ok (.ifCond .eq 10, 3) := by decide +kernel
theorem dX4_sees_13 : decode cX4_sees 13 = .ok (.iload_n 2, 1) := by decide +kernel
theorem dX4_sees_14 : decode cX4_sees 14 = .ok (.invokestatic 120, 3) := by decide +kernel
theorem dX4_sees_17 : decode cX4_sees 17 = .ok (.ifCond .ne 7, 3) := by decide +kernel
theorem dX4_sees_20 : decode cX4_sees 20 = .ok (.iconst 1, 1) := by decide +kernel
theorem dX4_sees_21 : decode cX4_sees 21 = .ok (.goto 4, 3) := by decide +kernel
theorem dX4_sees_24 : decode cX4_sees 24 = .ok (.iconst 0, 1) := by decide +kernel
theorem dX4_sees_25 : decode cX4_sees 25 = .ok (.iconst 1, 1) := by decide +kernel
theorem dX4_sees_26 : decode cX4_sees 26 = .ok (.invokevirtual 123, 3) := by decide +kernel
theorem dX4_sees_29 : decode cX4_sees 29 = .ok (.ifCond .ne 40, 3) := by decide +kernel
theorem dX4_sees_32 : decode cX4_sees 32 = .ok (.aload_n 0, 1) := by decide +kernel
theorem dX4_sees_33 : decode cX4_sees 33 = .ok (.iload_n 1, 1) := by decide +kernel
theorem dX4_sees_34 : decode cX4_sees 34 = .ok (.iload_n 2, 1) := by decide +kernel
theorem dX4_sees_35 : decode cX4_sees 35 = .ok (.if_icmp .ne 7, 3) := by decide +kernel
theorem dX4_sees_38 : decode cX4_sees 38 = .ok (.iconst 1, 1) := by decide +kernel
theorem dX4_sees_39 : decode cX4_sees 39 = .ok (.goto 4, 3) := by decide +kernel
theorem dX4_sees_42 : decode cX4_sees 42 = .ok (.iconst 0, 1) := by decide +kernel
theorem dX4_sees_43 : decode cX4_sees 43 = .ok (.iconst 2, 1) := by decide +kernel
theorem dX4_sees_44 : decode cX4_sees 44 = .ok (.invokevirtual 123, 3) := by decide +kernel
theorem dX4_sees_47 : decode cX4_sees 47 = .ok (.ifCond .ne 22, 3) := by decide +kernel
theorem dX4_sees_50 : decode cX4_sees 50 = .ok (.aload_n 0, 1) := by decide +kernel
theorem dX4_sees_51 : decode cX4_sees 51 = .ok (.aload_n 0, 1) := by decide +kernel
theorem dX4_sees_52 : decode cX4_sees 52 = .ok (.getfield 7, 3) := by decide +kernel
theorem dX4_sees_55 : decode cX4_sees 55 = .ok (.bipush 8, 2) := by decide +kernel
theorem dX4_sees_57 : decode cX4_sees 57 = .ok (.iload_n 1, 1) := by decide +kernel
theorem dX4_sees_58 : decode cX4_sees 58 = .ok (.imul, 1) := by decide +kernel
theorem dX4_sees_59 : decode cX4_sees 59 = .ok (.iload_n 2, 1) := by decide +kernel
theorem dX4_sees_60 : decode cX4_sees 60 = .ok (.iadd, 1) := by decide +kernel
theorem dX4_sees_61 : decode cX4_sees 61 = .ok (.baload, 1) := by decide +kernel
theorem dX4_sees_62 : decode cX4_sees 62 = .ok (.iconst 3, 1) := by decide +kernel
theorem dX4_sees_63 : decode cX4_sees 63 = .ok (.invokevirtual 123, 3) := by decide +kernel
theorem dX4_sees_66 : decode cX4_sees 66 = .ok (.ifCond .eq 5, 3) := by decide +kernel
theorem dX4_sees_69 : decode cX4_sees 69 = .ok (.iconst 0, 1) := by decide +kernel
theorem dX4_sees_70 : decode cX4_sees 70 = .ok (.ireturn, 1) := by decide +kernel
theorem dX4_sees_71 : decode cX4_sees 71 = .ok (.iconst 0, 1) := by decide +kernel
theorem dX4_sees_72 : decode cX4_sees 72 = .ok (.istore_n 3, 1) := by decide +kernel
theorem dX4_sees_73 : decode cX4_sees 73 = .ok (.bipush 8, 2) := by decide +kernel
theorem dX4_sees_75 : decode cX4_sees 75 = .ok (.iload_n 1, 1) := by decide +kernel
theorem dX4_sees_76 : decode cX4_sees 76 = .ok (.imul, 1) := by decide +kernel
theorem dX4_sees_77 : decode cX4_sees 77 = .ok (.istore 4, 2) := by decide +kernel
theorem dX4_sees_79 : decode cX4_sees 79 = .ok (.iload 4, 2) := by decide +kernel
theorem dX4_sees_81 : decode cX4_sees 81 = .ok (.bipush 8, 2) := by decide +kernel
theorem dX4_sees_83 : decode cX4_sees 83 = .ok (.iload_n 1, 1) := by decide +kernel
theorem dX4_sees_84 : decode cX4_sees 84 = .ok (.imul, 1) := by decide +kernel
theorem dX4_sees_85 : decode cX4_sees 85 = .ok (.bipush 8, 2) := by decide +kernel
theorem dX4_sees_87 : decode cX4_sees 87 = .ok (.iadd, 1) := by decide +kernel
theorem dX4_sees_88 : decode cX4_sees 88 = .ok (.if_icmp .ge 55, 3) := by decide +kernel
theorem dX4_sees_91 : decode cX4_sees 91 = .ok (.aload_n 0, 1) := by decide +kernel
theorem dX4_sees_92 : decode cX4_sees 92 = .ok (.getfield 13, 3) := by decide +kernel
theorem dX4_sees_95 : decode cX4_sees 95 = .ok (.iload 4, 2) := by decide +kernel
theorem dX4_sees_97 : decode cX4_sees 97 = .ok (.iaload, 1) := by decide +kernel
theorem dX4_sees_98 : decode cX4_sees 98 = .ok (.iconst 1, 1) := by decide +kernel
theorem dX4_sees_99 : decode cX4_sees 99 = .ok (.bipush 15, 2) := by decide +kernel
theorem dX4_sees_101 : decode cX4_sees 101 = .ok (.invokestatic 52, 3) := by decide +kernel
theorem dX4_sees_104 : decode cX4_sees 104 = .ok (.ifCond .eq 33, 3) := by decide +kernel
theorem dX4_sees_107 : decode cX4_sees 107 = .ok (.aload_n 0, 1) := by decide +kernel
theorem dX4_sees_108 : decode cX4_sees 108 = .ok (.getfield 17, 3) := by decide +kernel
theorem dX4_sees_111 : decode cX4_sees 111 = .ok (.iload 4, 2) := by decide +kernel
theorem dX4_sees_113 : decode cX4_sees 113 = .ok (.iaload, 1) := by decide +kernel
theorem dX4_sees_114 : decode cX4_sees 114 = .ok (.iload_n 2, 1) := by decide +kernel
theorem dX4_sees_115 : decode cX4_sees 115 = .ok (.if_icmp .ne 22, 3) := by decide +kernel
theorem dX4_sees_118 : decode cX4_sees 118 = .ok (.aload_n 0, 1) := by decide +kernel
theorem dX4_sees_119 : decode cX4_sees 119 = .ok (.getfield 26, 3) := by decide +kernel
theorem dX4_sees_122 : decode cX4_sees 122 = .ok (.iload 4, 2) := by decide +kernel
theorem dX4_sees_124 : decode cX4_sees 124 = .ok (.iaload, 1) := by decide +kernel
theorem dX4_sees_125 : decode cX4_sees 125 = .ok (.ifCond .ne 12, 3) := by decide +kernel
theorem dX4_sees_128 : decode cX4_sees 128 = .ok (.aload_n 0, 1) := by decide +kernel
theorem dX4_sees_129 : decode cX4_sees 129 = .ok (.iload 4, 2) := by decide +kernel
theorem dX4_sees_131 : decode cX4_sees 131 = .ok (.invokevirtual 87, 3) := by decide +kernel
theorem dX4_sees_134 : decode cX4_sees 134 = .ok (.iinc 3 1, 3) := by decide +kernel
theorem dX4_sees_137 : decode cX4_sees 137 = .ok (.iinc 4 1, 3) := by decide +kernel
theorem dX4_sees_140 : decode cX4_sees 140 = .ok (.goto (-61), 3) := by decide +kernel
theorem dX4_sees_143 : decode cX4_sees 143 = .ok (.iload_n 3, 1) := by decide +kernel
theorem dX4_sees_144 : decode cX4_sees 144 = .ok (.ireturn, 1) := by decide +kernel
theorem dX4_restart_0 : decode cX4_restart 0 = .ok (.aload_n 0, 1) := by decide +kernel
theorem dX4_restart_1 : decode cX4_restart 1 = .ok (.iconst 0, 1) := by decide +kernel
theorem dX4_restart_2 : decode cX4_restart 2 = .ok (.putfield 48, 3) := by decide +kernel
theorem dX4_restart_5 : decode cX4_restart 5 = .ok (.aload_n 0, 1) := by decide +kernel
theorem dX4_restart_6 : decode cX4_restart 6 = .ok (.iload_n 1, 1) := by decide +kernel
theorem dX4_restart_7 : decode cX4_restart 7 = .ok (.invokestatic 120, 3) := by decide +kernel
theorem dX4_restart_10 : decode cX4_restart 10 = .ok (.ifCond .ne 7, 3) := by decide +kernel
theorem dX4_restart_13 : decode cX4_restart 13 = .ok (.iconst 1, 1) := by decide +kernel
theorem dX4_restart_14 : decode cX4_restart 14 = .ok (.goto 4, 3) := by decide +kernel
theorem dX4_restart_17 : decode cX4_restart 17 = .ok (.iconst 0, 1) := by decide +kernel
theorem dX4_restart_18 : decode cX4_restart 18 = .ok (.iconst 1, 1) := by decide +kernel
theorem dX4_restart_19 : decode cX4_restart 19 = .ok (.invokevirtual 123, 3) := by decide +kernel
theorem dX4_restart_22 : decode cX4_restart 22 = .ok (.ifCond .eq 5, 3) := by decide +kernel
theorem dX4_restart_25 : decode cX4_restart 25 = .ok (.iconst 0, 1) := by decide +kernel
theorem dX4_restart_26 : decode cX4_restart 26 = .ok (.ireturn, 1) := by decide +kernel
theorem dX4_restart_27 : decode cX4_restart 27 = .ok (.bipush 8, 2) := by decide +kernel
theorem dX4_restart_29 : decode cX4_restart 29 = .ok (.iload_n 1, 1) := by decide +kernel
theorem dX4_restart_30 : decode cX4_restart 30 = .ok (.imul, 1) := by decide +kernel
theorem dX4_restart_31 : decode cX4_restart 31 = .ok (.istore_n 2, 1) := by decide +kernel
theorem dX4_restart_32 : decode cX4_restart 32 = .ok (.iload_n 2, 1) := by decide +kernel
theorem dX4_restart_33 : decode cX4_restart 33 = .ok (.bipush 8, 2) := by decide +kernel
theorem dX4_restart_35 : decode cX4_restart 35 = .ok (.iload_n 1, 1) := by decide +kernel
theorem dX4_restart_36 : decode cX4_restart 36 = .ok (.imul, 1) := by decide +kernel
theorem dX4_restart_37 : decode cX4_restart 37 = .ok (.bipush 8, 2) := by decide +kernel
theorem dX4_restart_39 : decode cX4_restart 39 = .ok (.iadd, 1) := by decide +kernel
theorem dX4_restart_40 : decode cX4_restart 40 = .ok (.if_icmp .ge 30, 3) := by decide +kernel
theorem dX4_restart_43 : decode cX4_restart 43 = .ok (.aload_n 0, 1) := by decide +kernel
theorem dX4_restart_44 : decode cX4_restart 44 = .ok (.getfield 13, 3) := by decide +kernel
theorem dX4_restart_47 : decode cX4_restart 47 = .ok (.iload_n 2, 1) := by decide +kernel
theorem dX4_restart_48 : decode cX4_restart 48 = .ok (.iconst 0, 1) := by decide +kernel
theorem dX4_restart_49 : decode cX4_restart 49 = .ok (.iastore, 1) := by decide +kernel
theorem dX4_restart_50 : decode cX4_restart 50 = .ok (.aload_n 0, 1) := by decide +kernel
theorem dX4_restart_51 : decode cX4_restart 51 = .ok (.getfield 23, 3) := by decide +kernel
theorem dX4_restart_54 : decode cX4_restart 54 = .ok (.iload_n 2, 1) := by decide +kernel
theorem dX4_restart_55 : decode cX4_restart 55 = .ok (.iconst 0, 1) := by decide +kernel
theorem dX4_restart_56 : decode cX4_restart 56 = .ok (.bastore, 1) := by decide +kernel
theorem dX4_restart_57 : decode cX4_restart 57 = .ok (.aload_n 0, 1) := by decide +kernel
theorem dX4_restart_58 : decode cX4_restart 58 = .ok (.getfield 26, 3) := by decide +kernel
theorem dX4_restart_61 : decode cX4_restart 61 = .ok (.iload_n 2, 1) := by decide +kernel
theorem dX4_restart_62 : decode cX4_restart 62 = .ok (.iconst 0, 1) := by decide +kernel
theorem dX4_restart_63 : decode cX4_restart 63 = .ok (.iastore, 1) := by decide +kernel
theorem dX4_restart_64 : decode cX4_restart 64 = .ok (.iinc 2 1, 3) := by decide +kernel
theorem dX4_restart_67 : decode cX4_restart 67 = .ok (.goto (-35), 3) := by decide +kernel
theorem dX4_restart_70 : decode cX4_restart 70 = .ok (.iconst 0, 1) := by decide +kernel
theorem dX4_restart_71 : decode cX4_restart 71 = .ok (.istore_n 2, 1) := by decide +kernel
theorem dX4_restart_72 : decode cX4_restart 72 = .ok (.iload_n 2, 1) := by decide +kernel
theorem dX4_restart_73 : decode cX4_restart 73 = .ok (.bipush 8, 2) := by decide +kernel
theorem dX4_restart_75 : decode cX4_restart 75 = .ok (.if_icmp .ge 42, 3) := by decide +kernel
theorem dX4_restart_78 : decode cX4_restart 78 = .ok (.aload_n 0, 1) := by decide +kernel
theorem dX4_restart_79 : decode cX4_restart 79 = .ok (.getfield 7, 3) := by decide +kernel
theorem dX4_restart_82 : decode cX4_restart 82 = .ok (.bipush 8, 2) := by decide +kernel
theorem dX4_restart_84 : decode cX4_restart 84 = .ok (.iload_n 1, 1) := by decide +kernel
theorem dX4_restart_85 : decode cX4_restart 85 = .ok (.imul, 1) := by decide +kernel
theorem dX4_restart_86 : decode cX4_restart 86 = .ok (.iload_n 2, 1) := by decide +kernel
theorem dX4_restart_87 : decode cX4_restart 87 = .ok (.iadd, 1) := by decide +kernel
theorem dX4_restart_88 : decode cX4_restart 88 = .ok (.baload, 1) := by decide +kernel
theorem dX4_restart_89 : decode cX4_restart 89 = .ok (.ifCond .eq 22, 3) := by decide +kernel
theorem dX4_restart_92 : decode cX4_restart 92 = .ok (.aload_n 0, 1) := by decide +kernel
theorem dX4_restart_93 : decode cX4_restart 93 = .ok (.iconst 1, 1) := by decide +kernel
theorem dX4_restart_94 : decode cX4_restart 94 = .ok (.invokevirtual 72, 3) := by decide +kernel
theorem dX4_restart_97 : decode cX4_restart 97 = .ok (.aload_n 0, 1) := by decide +kernel
theorem dX4_restart_98 : decode cX4_restart 98 = .ok (.iconst 0, 1) := by decide +kernel
theorem dX4_restart_99 : decode cX4_restart 99 = .ok (.iconst 0, 1) := by decide +kernel
theorem dX4_restart_100 : decode cX4_restart 100 = .ok (.bipush 16, 2) := by decide +kernel
theorem dX4_restart_102 : decode cX4_restart 102 = .ok (.invokevirtual 75, 3) := by decide +kernel
theorem dX4_restart_105 : decode cX4_restart 105 = .ok (.aload_n 0, 1) := by decide +kernel
theorem dX4_restart_106 : decode cX4_restart 106 = .ok (.iload_n 1, 1) := by decide +kernel
theorem dX4_restart_107 : decode cX4_restart 107 = .ok (.iload_n 2, 1) := by decide +kernel
theorem dX4_restart_108 : decode cX4_restart 108 = .ok (.invokevirtual 79, 3) := by decide +kernel
theorem dX4_restart_111 : decode cX4_restart 111 = .ok (.iinc 2 1, 3) := by decide +kernel
theorem dX4_restart_114 : decode cX4_restart 114 = .ok (.goto (-42), 3) := by decide +kernel
theorem dX4_restart_117 : decode cX4_restart 117 = .ok (.aload_n 0, 1) := by decide +kernel
theorem dX4_restart_118 : decode cX4_restart 118 = .ok (.getfield 66, 3) := by decide +kernel
theorem dX4_restart_121 : decode cX4_restart 121 = .ok (.ireturn, 1) := by decide +kernel
theorem dX4_ask_0 : decode cX4_ask 0 = .ok (.aload_n 0, 1) := by decide +kernel
theorem dX4_ask_1 : decode cX4_ask 1 = .ok (.iconst 0, 1) := by decide +kernel
theorem dX4_ask_2 : decode cX4_ask 2 = .ok (.putfield 48, 3) := by decide +kernel
theorem dX4_ask_5 : decode cX4_ask 5 = .ok (.aload_n 0, 1) := by decide +kernel
theorem dX4_ask_6 : decode cX4_ask 6 = .ok (.iload_n 1, 1) := by decide +kernel
theorem dX4_ask_7 : decode cX4_ask 7 = .ok (.invokestatic 120, 3) := by decide +kernel
theorem dX4_ask_10 : decode cX4_ask 10 = .ok (.ifCond .eq 10, 3) := by decide +kernel
theorem dX4_ask_13 : decode cX4_ask 13 = .ok (.iload_n 2, 1) := by decide +kernel
theorem dX4_ask_14 : decode cX4_ask 14 = .ok (.invokestatic 120, 3) := by decide +kernel
theorem dX4_ask_17 : decode cX4_ask 17 = .ok (.ifCond .ne 7, 3) := by decide +kernel
theorem dX4_ask_20 : decode cX4_ask 20 = .ok (.iconst 1, 1) := by decide +kernel
theorem dX4_ask_21 : decode cX4_ask 21 = .ok (.goto 4, 3) := by decide +kernel
theorem dX4_ask_24 : decode cX4_ask 24 = .ok (.iconst 0, 1) := by decide +kernel
theorem dX4_ask_25 : decode cX4_ask 25 = .ok (.iconst 1, 1) := by decide +kernel
theorem dX4_ask_26 : decode cX4_ask 26 = .ok (.invokevirtual 123, 3) := by decide +kernel
theorem dX4_ask_29 : decode cX4_ask 29 = .ok (.ifCond .ne 59, 3) := by decide +kernel
theorem dX4_ask_32 : decode cX4_ask 32 = .ok (.aload_n 0, 1) := by decide +kernel
theorem dX4_ask_33 : decode cX4_ask 33 = .ok (.iload_n 1, 1) := by decide +kernel
theorem dX4_ask_34 : decode cX4_ask 34 = .ok (.iload_n 2, 1) := by decide +kernel
theorem dX4_ask_35 : decode cX4_ask 35 = .ok (.if_icmp .eq 14, 3) := by decide +kernel
theorem dX4_ask_38 : decode cX4_ask 38 = .ok (.iload_n 3, 1) := by decide +kernel
theorem dX4_ask_39 : decode cX4_ask 39 = .ok (.iconst 1, 1) := by decide +kernel
theorem dX4_ask_40 : decode cX4_ask 40 = .ok (.sipush 255, 3) := by decide +kernel
theorem dX4_ask_43 : decode cX4_ask 43 = .ok (.invokestatic 52, 3) := by decide +kernel
theorem dX4_ask_46 : decode cX4_ask 46 = .ok (.ifCond .ne 7, 3) := by decide +kernel
theorem dX4_ask_49 : decode cX4_ask 49 = .ok (.iconst 1, 1) := by decide +kernel
theorem dX4_ask_50 : decode cX4_ask 50 = .ok (.goto 4, 3) := by decide +kernel
theorem dX4_ask_53 : decode cX4_ask 53 = .ok (.iconst 0, 1) := by decide +kernel
theorem dX4_ask_54 : decode cX4_ask 54 = .ok (.iconst 2, 1) := by decide +kernel
theorem dX4_ask_55 : decode cX4_ask 55 = .ok (.invokevirtual 123, 3) := by decide +kernel
theorem dX4_ask_58 : decode cX4_ask 58 = .ok (.ifCond .ne 30, 3) := by decide +kernel
theorem dX4_ask_61 : decode cX4_ask 61 = .ok (.aload_n 0, 1) := by decide +kernel
theorem dX4_ask_62 : decode cX4_ask 62 = .ok (.aload_n 0, 1) := by decide +kernel
theorem dX4_ask_63 : decode cX4_ask 63 = .ok (.getfield 7, 3) := by decide +kernel
theorem dX4_ask_66 : decode cX4_ask 66 = .ok (.bipush 8, 2) := by decide +kernel
theorem dX4_ask_68 : decode cX4_ask 68 = .ok (.iload_n 1, 1) := by decide +kernel
theorem dX4_ask_69 : decode cX4_ask 69 = .ok (.imul, 1) := by decide +kernel
theorem dX4_ask_70 : decode cX4_ask 70 = .ok (.iload_n 2, 1) := by decide +kernel
theorem dX4_ask_71 : decode cX4_ask 71 = .ok (.iadd, 1) := by decide +kernel
theorem dX4_ask_72 : decode cX4_ask 72 = .ok (.baload, 1) := by decide +kernel
theorem dX4_ask_73 : decode cX4_ask 73 = .ok (.ifCond .ne 7, 3) := by decide +kernel
theorem dX4_ask_76 : decode cX4_ask 76 = .ok (.iconst 1, 1) := by decide +kernel
theorem dX4_ask_77 : decode cX4_ask 77 = .ok (.goto 4, 3) := by decide +kernel
theorem dX4_ask_80 : decode cX4_ask 80 = .ok (.iconst 0, 1) := by decide +kernel
theorem dX4_ask_81 : decode cX4_ask 81 = .ok (.iconst 3, 1) := by decide +kernel
theorem dX4_ask_82 : decode cX4_ask 82 = .ok (.invokevirtual 123, 3) := by decide +kernel
theorem dX4_ask_85 : decode cX4_ask 85 = .ok (.ifCond .eq 5, 3) := by decide +kernel
theorem dX4_ask_88 : decode cX4_ask 88 = .ok (.iconst 0, 1) := by decide +kernel
theorem dX4_ask_89 : decode cX4_ask 89 = .ok (.ireturn, 1) := by decide +kernel
theorem dX4_ask_90 : decode cX4_ask 90 = .ok (.aload_n 0, 1) := by decide +kernel
theorem dX4_ask_91 : decode cX4_ask 91 = .ok (.iconst 1, 1) := by decide +kernel
theorem dX4_ask_92 : decode cX4_ask 92 = .ok (.invokevirtual 72, 3) := by decide +kernel
theorem dX4_ask_95 : decode cX4_ask 95 = .ok (.iconst 0, 1) := by decide +kernel
theorem dX4_ask_96 : decode cX4_ask 96 = .ok (.istore 4, 2) := by decide +kernel
theorem dX4_ask_98 : decode cX4_ask 98 = .ok (.iload 4, 2) := by decide +kernel
theorem dX4_ask_100 : decode cX4_ask 100 = .ok (.bipush 8, 2) := by decide +kernel
theorem dX4_ask_102 : decode cX4_ask 102 = .ok (.if_icmp .ge 28, 3) := by decide +kernel
theorem dX4_ask_105 : decode cX4_ask 105 = .ok (.iload_n 3, 1) := by decide +kernel
theorem dX4_ask_106 : decode cX4_ask 106 = .ok (.iload 4, 2) := by decide +kernel
theorem dX4_ask_108 : decode cX4_ask 108 = .ok (.ishr, 1) := by decide +kernel
theorem dX4_ask_109 : decode cX4_ask 109 = .ok (.iconst 1, 1) := by decide +kernel
theorem dX4_ask_110 : decode cX4_ask 110 = .ok (.iand, 1) := by decide +kernel
theorem dX4_ask_111 : decode cX4_ask 111 = .ok (.iconst 1, 1) := by decide +kernel
theorem dX4_ask_112 : decode cX4_ask 112 = .ok (.if_icmp .ne 12, 3) := by decide +kernel
theorem dX4_ask_115 : decode cX4_ask 115 = .ok (.aload_n 0, 1) := by decide +kernel
theorem dX4_ask_116 : decode cX4_ask 116 = .ok (.iconst 2, 1) := by decide +kernel
theorem dX4_ask_117 : decode cX4_ask 117 = .ok (.iload 4, 2) := by decide +kernel
theorem dX4_ask_119 : decode cX4_ask 119 = .ok (.bipush 16, 2) := by decide +kernel
theorem dX4_ask_121 : decode cX4_ask 121 = .ok (.invokevirtual 75, 3) := by decide +kernel
theorem dX4_ask_124 : decode cX4_ask 124 = .ok (.iinc 4 1, 3) := by decide +kernel
theorem dX4_ask_127 : decode cX4_ask 127 = .ok (.goto (-29), 3) := by decide +kernel
theorem dX4_ask_130 : decode cX4_ask 130 = .ok (.aload_n 0, 1) := by decide +kernel
theorem dX4_ask_131 : decode cX4_ask 131 = .ok (.iload_n 1, 1) := by decide +kernel
theorem dX4_ask_132 : decode cX4_ask 132 = .ok (.iload_n 2, 1) := by decide +kernel
theorem dX4_ask_133 : decode cX4_ask 133 = .ok (.invokevirtual 79, 3) := by decide +kernel
theorem dX4_ask_136 : decode cX4_ask 136 = .ok (.aload_n 0, 1) := by decide +kernel
theorem dX4_ask_137 : decode cX4_ask 137 = .ok (.getfield 66, 3) := by decide +kernel
theorem dX4_ask_140 : decode cX4_ask 140 = .ok (.ireturn, 1) := by decide +kernel
theorem dX4_tick_0 : decode cX4_tick 0 = .ok (.aload_n 0, 1) := by decide +kernel
theorem dX4_tick_1 : decode cX4_tick 1 = .ok (.iconst 0, 1) := by decide +kernel
theorem dX4_tick_2 : decode cX4_tick 2 = .ok (.putfield 48, 3) := by decide +kernel
theorem dX4_tick_5 : decode cX4_tick 5 = .ok (.aload_n 0, 1) := by decide +kernel
theorem dX4_tick_6 : decode cX4_tick 6 = .ok (.iload_n 1, 1) := by decide +kernel
theorem dX4_tick_7 : decode cX4_tick 7 = .ok (.iconst 0, 1) := by decide +kernel
theorem dX4_tick_8 : decode cX4_tick 8 = .ok (.sipush 1000, 3) := by decide +kernel
theorem dX4_tick_11 : decode cX4_tick 11 = .ok (.invokestatic 52, 3) := by decide +kernel
theorem dX4_tick_14 : decode cX4_tick 14 = .ok (.ifCond .ne 7, 3) := by decide +kernel
theorem dX4_tick_17 : decode cX4_tick 17 = .ok (.iconst 1, 1) := by decide +kernel
theorem dX4_tick_18 : decode cX4_tick 18 = .ok (.goto 4, 3) := by decide +kernel
theorem dX4_tick_21 : decode cX4_tick 21 = .ok (.iconst 0, 1) := by decide +kernel
theorem dX4_tick_22 : decode cX4_tick 22 = .ok (.iconst 1, 1) := by decide +kernel
theorem dX4_tick_23 : decode cX4_tick 23 = .ok (.invokevirtual 123, 3) := by decide +kernel
theorem dX4_tick_26 : decode cX4_tick 26 = .ok (.ifCond .eq 5, 3) := by decide +kernel
theorem dX4_tick_29 : decode cX4_tick 29 = .ok (.iconst 0, 1) := by decide +kernel
theorem dX4_tick_30 : decode cX4_tick 30 = .ok (.ireturn, 1) := by decide +kernel
theorem dX4_tick_31 : decode cX4_tick 31 = .ok (.iconst 0, 1) := by decide +kernel
theorem dX4_tick_32 : decode cX4_tick 32 = .ok (.istore_n 3, 1) := by decide +kernel
theorem dX4_tick_33 : decode cX4_tick 33 = .ok (.iload_n 3, 1) := by decide +kernel
theorem dX4_tick_34 : decode cX4_tick 34 = .ok (.iload_n 1, 1) := by decide +kernel
theorem dX4_tick_35 : decode cX4_tick 35 = .ok (.if_icmp .ge 48, 3) := by decide +kernel
theorem dX4_tick_38 : decode cX4_tick 38 = .ok (.aload_n 0, 1) := by decide +kernel
theorem dX4_tick_39 : decode cX4_tick 39 = .ok (.invokevirtual 127, 3) := by decide +kernel
theorem dX4_tick_42 : decode cX4_tick 42 = .ok (.iconst 0, 1) := by decide +kernel
theorem dX4_tick_43 : decode cX4_tick 43 = .ok (.istore 4, 2) := by decide +kernel
theorem dX4_tick_45 : decode cX4_tick 45 = .ok (.iload 4, 2) := by decide +kernel
theorem dX4_tick_47 : decode cX4_tick 47 = .ok (.sipush 1000, 3) := by decide +kernel
theorem dX4_tick_50 : decode cX4_tick 50 = .ok (.if_icmp .ge 27, 3) := by decide +kernel
theorem dX4_tick_53 : decode cX4_tick 53 = .ok (.iload_n 2, 1) := by decide +kernel
theorem dX4_tick_54 : decode cX4_tick 54 = .ok (.ifCond .eq 23, 3) := by decide +kernel
theorem dX4_tick_57 : decode cX4_tick 57 = .ok (.aload_n 0, 1) := by decide +kernel
theorem dX4_tick_58 : decode cX4_tick 58 = .ok (.getfield 66, 3) := by decide +kernel
theorem dX4_tick_61 : decode cX4_tick 61 = .ok (.ifCond .le 16, 3) := by decide +kernel
theorem dX4_tick_64 : decode cX4_tick 64 = .ok (.aload_n 0, 1) := by decide +kernel
theorem dX4_tick_65 : decode cX4_tick 65 = .ok (.iconst 0, 1) := by decide +kernel
theorem dX4_tick_66 : decode cX4_tick 66 = .ok (.invokevirtual 130, 3) := by decide +kernel
theorem dX4_tick_69 : decode cX4_tick 69 = .ok (.istore 5, 2) := by decide +kernel
theorem dX4_tick_71 : decode cX4_tick 71 = .ok (.iinc 4 1, 3) := by decide +kernel
theorem dX4_tick_74 : decode cX4_tick 74 = .ok (.goto (-29), 3) := by decide +kernel
theorem dX4_tick_77 : decode cX4_tick 77 = .ok (.iinc 3 1, 3) := by decide +kernel
theorem dX4_tick_80 : decode cX4_tick 80 = .ok (.goto (-47), 3) := by decide +kernel
theorem dX4_tick_83 : decode cX4_tick 83 = .ok (.aload_n 0, 1) := by decide +kernel
theorem dX4_tick_84 : decode cX4_tick 84 = .ok (.getfield 66, 3) := by decide +kernel
theorem dX4_tick_87 : decode cX4_tick 87 = .ok (.ireturn, 1) := by decide +kernel
theorem dX4_lacks_0 : decode cX4_lacks 0 = .ok (.aload_n 0, 1) := by decide +kernel
theorem dX4_lacks_1 : decode cX4_lacks 1 = .ok (.iload_n 1, 1) := by decide +kernel
theorem dX4_lacks_2 : decode cX4_lacks 2 = .ok (.iconst 0, 1) := by decide +kernel
theorem dX4_lacks_3 : decode cX4_lacks 3 = .ok (.aload_n 0, 1) := by decide +kernel
theorem dX4_lacks_4 : decode cX4_lacks 4 = .ok (.getfield 66, 3) := by decide +kernel
theorem dX4_lacks_7 : decode cX4_lacks 7 = .ok (.iconst 1, 1) := by decide +kernel
theorem dX4_lacks_8 : decode cX4_lacks 8 = .ok (.isub, 1) := by decide +kernel
theorem dX4_lacks_9 : decode cX4_lacks 9 = .ok (.invokestatic 52, 3) := by decide +kernel
theorem dX4_lacks_12 : decode cX4_lacks 12 = .ok (.ifCond .ne 7, 3) := by decide +kernel
theorem dX4_lacks_15 : decode cX4_lacks 15 = .ok (.iconst 1, 1) := by decide +kernel
theorem dX4_lacks_16 : decode cX4_lacks 16 = .ok (.goto 4, 3) := by decide +kernel
theorem dX4_lacks_19 : decode cX4_lacks 19 = .ok (.iconst 0, 1) := by decide +kernel
theorem dX4_lacks_20 : decode cX4_lacks 20 = .ok (.iconst 1, 1) := by decide +kernel
theorem dX4_lacks_21 : decode cX4_lacks 21 = .ok (.invokevirtual 123, 3) := by decide +kernel
theorem dX4_lacks_24 : decode cX4_lacks 24 = .ok (.ireturn, 1) := by decide +kernel
theorem dX4_deliver_0 : decode cX4_deliver 0 = .ok (.aload_n 0, 1) := by decide +kernel
theorem dX4_deliver_1 : decode cX4_deliver 1 = .ok (.iconst 0, 1) := by decide +kernel
theorem dX4_deliver_2 : decode cX4_deliver 2 = .ok (.putfield 48, 3) := by decide +kernel
theorem dX4_deliver_5 : decode cX4_deliver 5 = .ok (.aload_n 0, 1) := by decide +kernel
theorem dX4_deliver_6 : decode cX4_deliver 6 = .ok (.iload_n 1, 1) := by decide +kernel
theorem dX4_deliver_7 : decode cX4_deliver 7 = .ok (.invokevirtual 133, 3) := by decide +kernel
theorem dX4_deliver_10 : decode cX4_deliver 10 = .ok (.ifCond .ne 15, 3) := by decide +kernel
theorem dX4_deliver_13 : decode cX4_deliver 13 = .ok (.aload_n 0, 1) := by decide +kernel
theorem dX4_deliver_14 : decode cX4_deliver 14 = .ok (.iload_n 1, 1) := by decide +kernel
theorem dX4_deliver_15 : decode cX4_deliver 15 = .ok (.invokevirtual 130, 3) := by decide +kernel
theorem dX4_deliver_18 : decode cX4_deliver 18 = .ok (.ifCond .eq 7, 3) := by decide +kernel
theorem dX4_deliver_21 : decode cX4_deliver 21 = .ok (.iconst 1, 1) := by decide +kernel
theorem dX4_deliver_22 : decode cX4_deliver 22 = .ok (.goto 4, 3) := by decide +kernel
theorem dX4_deliver_25 : decode cX4_deliver 25 = .ok (.iconst 0, 1) := by decide +kernel
theorem dX4_deliver_26 : decode cX4_deliver 26 = .ok (.ireturn, 1) := by decide +kernel
theorem dX4_lose_0 : decode cX4_lose 0 = .ok (.aload_n 0, 1) := by decide +kernel
theorem dX4_lose_1 : decode cX4_lose 1 = .ok (.iconst 0, 1) := by decide +kernel
theorem dX4_lose_2 : decode cX4_lose 2 = .ok (.putfield 48, 3) := by decide +kernel
theorem dX4_lose_5 : decode cX4_lose 5 = .ok (.aload_n 0, 1) := by decide +kernel
theorem dX4_lose_6 : decode cX4_lose 6 = .ok (.iload_n 1, 1) := by decide +kernel
theorem dX4_lose_7 : decode cX4_lose 7 = .ok (.invokevirtual 133, 3) := by decide +kernel
theorem dX4_lose_10 : decode cX4_lose 10 = .ok (.ifCond .eq 5, 3) := by decide +kernel
theorem dX4_lose_13 : decode cX4_lose 13 = .ok (.iconst 0, 1) := by decide +kernel
theorem dX4_lose_14 : decode cX4_lose 14 = .ok (.ireturn, 1) := by decide +kernel
theorem dX4_lose_15 : decode cX4_lose 15 = .ok (.aload_n 0, 1) := by decide +kernel
theorem dX4_lose_16 : decode cX4_lose 16 = .ok (.iload_n 1, 1) := by decide +kernel
theorem dX4_lose_17 : decode cX4_lose 17 = .ok (.invokevirtual 101, 3) := by decide +kernel
theorem dX4_lose_20 : decode cX4_lose 20 = .ok (.aload_n 0, 1) := by decide +kernel
theorem dX4_lose_21 : decode cX4_lose 21 = .ok (.getfield 66, 3) := by decide +kernel
theorem dX4_lose_24 : decode cX4_lose 24 = .ok (.ireturn, 1) := by decide +kernel
theorem dX4_twice_0 : decode cX4_twice 0 = .ok (.aload_n 0, 1) := by decide +kernel
theorem dX4_twice_1 : decode cX4_twice 1 = .ok (.iconst 0, 1) := by decide +kernel
theorem dX4_twice_2 : decode cX4_twice 2 = .ok (.putfield 48, 3) := by decide +kernel
theorem dX4_twice_5 : decode cX4_twice 5 = .ok (.aload_n 0, 1) := by decide +kernel
theorem dX4_twice_6 : decode cX4_twice 6 = .ok (.iload_n 1, 1) := by decide +kernel
theorem dX4_twice_7 : decode cX4_twice 7 = .ok (.invokevirtual 133, 3) := by decide +kernel
theorem dX4_twice_10 : decode cX4_twice 10 = .ok (.ifCond .eq 5, 3) := by decide +kernel
theorem dX4_twice_13 : decode cX4_twice 13 = .ok (.iconst 0, 1) := by decide +kernel
theorem dX4_twice_14 : decode cX4_twice 14 = .ok (.ireturn, 1) := by decide +kernel
theorem dX4_twice_15 : decode cX4_twice 15 = .ok (.aload_n 0, 1) := by decide +kernel
theorem dX4_twice_16 : decode cX4_twice 16 = .ok (.aload_n 0, 1) := by decide +kernel
theorem dX4_twice_17 : decode cX4_twice 17 = .ok (.getfield 35, 3) := by decide +kernel
theorem dX4_twice_20 : decode cX4_twice 20 = .ok (.iload_n 1, 1) := by decide +kernel
theorem dX4_twice_21 : decode cX4_twice 21 = .ok (.iaload, 1) := by decide +kernel
theorem dX4_twice_22 : decode cX4_twice 22 = .ok (.putfield 56, 3) := by decide +kernel
theorem dX4_twice_25 : decode cX4_twice 25 = .ok (.iconst 0, 1) := by decide +kernel
theorem dX4_twice_26 : decode cX4_twice 26 = .ok (.istore_n 2, 1) := by decide +kernel
theorem dX4_twice_27 : decode cX4_twice 27 = .ok (.iload_n 2, 1) := by decide +kernel
theorem dX4_twice_28 : decode cX4_twice 28 = .ok (.aload_n 0, 1) := by decide +kernel
theorem dX4_twice_29 : decode cX4_twice 29 = .ok (.getfield 56, 3) := by decide +kernel
theorem dX4_twice_32 : decode cX4_twice 32 = .ok (.if_icmp .ge 27, 3) := by decide +kernel
theorem dX4_twice_35 : decode cX4_twice 35 = .ok (.aload_n 0, 1) := by decide +kernel
theorem dX4_twice_36 : decode cX4_twice 36 = .ok (.getfield 42, 3) := by decide +kernel
theorem dX4_twice_39 : decode cX4_twice 39 = .ok (.iload_n 2, 1) := by decide +kernel
theorem dX4_twice_40 : decode cX4_twice 40 = .ok (.aload_n 0, 1) := by decide +kernel
theorem dX4_twice_41 : decode cX4_twice 41 = .ok (.getfield 39, 3) := by decide +kernel
theorem dX4_twice_44 : decode cX4_twice 44 = .ok (.sipush 164, 3) := by decide +kernel
theorem dX4_twice_47 : decode cX4_twice 47 = .ok (.iload_n 1, 1) := by decide +kernel
theorem dX4_twice_48 : decode cX4_twice 48 = .ok (.imul, 1) := by decide +kernel
theorem dX4_twice_49 : decode cX4_twice 49 = .ok (.iload_n 2, 1) := by decide +kernel
theorem dX4_twice_50 : decode cX4_twice 50 = .ok (.iadd, 1) := by decide +kernel
theorem dX4_twice_51 : decode cX4_twice 51 = .ok (.iaload, 1) := by decide +kernel
theorem dX4_twice_52 : decode cX4_twice 52 = .ok (.iastore, 1) := by decide +kernel
theorem dX4_twice_53 : decode cX4_twice 53 = .ok (.iinc 2 1, 3) := by decide +kernel
theorem dX4_twice_56 : decode cX4_twice 56 = .ok (.goto (-29), 3) := by decide +kernel
theorem dX4_twice_59 : decode cX4_twice 59 = .ok (.aload_n 0, 1) := by decide +kernel
theorem dX4_twice_60 : decode cX4_twice 60 = .ok (.aload_n 0, 1) := by decide +kernel
theorem dX4_twice_61 : decode cX4_twice 61 = .ok (.getfield 29, 3) := by decide +kernel
theorem dX4_twice_64 : decode cX4_twice 64 = .ok (.iload_n 1, 1) := by decide +kernel
theorem dX4_twice_65 : decode cX4_twice 65 = .ok (.iaload, 1) := by decide +kernel
theorem dX4_twice_66 : decode cX4_twice 66 = .ok (.aload_n 0, 1) := by decide +kernel
theorem dX4_twice_67 : decode cX4_twice 67 = .ok (.getfield 32, 3) := by decide +kernel
theorem dX4_twice_70 : decode cX4_twice 70 = .ok (.iload_n 1, 1) := by decide +kernel
theorem dX4_twice_71 : decode cX4_twice 71 = .ok (.iaload, 1) := by decide +kernel
theorem dX4_twice_72 : decode cX4_twice 72 = .ok (.invokevirtual 79, 3) := by decide +kernel
theorem dX4_twice_75 : decode cX4_twice 75 = .ok (.aload_n 0, 1) := by decide +kernel
theorem dX4_twice_76 : decode cX4_twice 76 = .ok (.getfield 66, 3) := by decide +kernel
theorem dX4_twice_79 : decode cX4_twice 79 = .ok (.ireturn, 1) := by decide +kernel
theorem dX4_poke_0 : decode cX4_poke 0 = .ok (.aload_n 0, 1) := by decide +kernel
theorem dX4_poke_1 : decode cX4_poke 1 = .ok (.iconst 0, 1) := by decide +kernel
theorem dX4_poke_2 : decode cX4_poke 2 = .ok (.putfield 48, 3) := by decide +kernel
theorem dX4_poke_5 : decode cX4_poke 5 = .ok (.aload_n 0, 1) := by decide +kernel
theorem dX4_poke_6 : decode cX4_poke 6 = .ok (.iload_n 1, 1) := by decide +kernel
theorem dX4_poke_7 : decode cX4_poke 7 = .ok (.invokevirtual 133, 3) := by decide +kernel
theorem dX4_poke_10 : decode cX4_poke 10 = .ok (.ifCond .ne 56, 3) := by decide +kernel
theorem dX4_poke_13 : decode cX4_poke 13 = .ok (.aload_n 0, 1) := by decide +kernel
theorem dX4_poke_14 : decode cX4_poke 14 = .ok (.iload_n 2, 1) := by decide +kernel
theorem dX4_poke_15 : decode cX4_poke 15 = .ok (.iconst 0, 1) := by decide +kernel
theorem dX4_poke_16 : decode cX4_poke 16 = .ok (.aload_n 0, 1) := by decide +kernel
theorem dX4_poke_17 : decode cX4_poke 17 = .ok (.getfield 35, 3) := by decide +kernel
theorem dX4_poke_20 : decode cX4_poke 20 = .ok (.iload_n 1, 1) := by decide +kernel
theorem dX4_poke_21 : decode cX4_poke 21 = .ok (.iaload, 1) := by decide +kernel
theorem dX4_poke_22 : decode cX4_poke 22 = .ok (.iconst 1, 1) := by decide +kernel
theorem dX4_poke_23 : decode cX4_poke 23 = .ok (.isub, 1) := by decide +kernel
theorem dX4_poke_24 : decode cX4_poke 24 = .ok (.invokestatic 52, 3) := by decide +kernel
theorem dX4_poke_27 : decode cX4_poke 27 = .ok (.ifCond .ne 7, 3) := by decide +kernel
theorem dX4_poke_30 : decode cX4_poke 30 = .ok (.iconst 1, 1) := by decide +kernel
theorem dX4_poke_31 : decode cX4_poke 31 = .ok (.goto 4, 3) := by decide +kernel
theorem dX4_poke_34 : decode cX4_poke 34 = .ok (.iconst 0, 1) := by decide +kernel
theorem dX4_poke_35 : decode cX4_poke 35 = .ok (.iconst 1, 1) := by decide +kernel
theorem dX4_poke_36 : decode cX4_poke 36 = .ok (.invokevirtual 123, 3) := by decide +kernel
theorem dX4_poke_39 : decode cX4_poke 39 = .ok (.ifCond .ne 27, 3) := by decide +kernel
theorem dX4_poke_42 : decode cX4_poke 42 = .ok (.aload_n 0, 1) := by decide +kernel
theorem dX4_poke_43 : decode cX4_poke 43 = .ok (.iload_n 3, 1) := by decide +kernel
theorem dX4_poke_44 : decode cX4_poke 44 = .ok (.iconst 0, 1) := by decide +kernel
theorem dX4_poke_45 : decode cX4_poke 45 = .ok (.sipush 255, 3) := by decide +kernel
theorem dX4_poke_48 : decode cX4_poke 48 = .ok (.invokestatic 52, 3) := by decide +kernel
theorem dX4_poke_51 : decode cX4_poke 51 = .ok (.ifCond .ne 7, 3) := by decide +kernel
theorem dX4_poke_54 : decode cX4_poke 54 = .ok (.iconst 1, 1) := by decide +kernel
theorem dX4_poke_55 : decode cX4_poke 55 = .ok (.goto 4, 3) := by decide +kernel
theorem dX4_poke_58 : decode cX4_poke 58 = .ok (.iconst 0, 1) := by decide +kernel
theorem dX4_poke_59 : decode cX4_poke 59 = .ok (.iconst 2, 1) := by decide +kernel
theorem dX4_poke_60 : decode cX4_poke 60 = .ok (.invokevirtual 123, 3) := by decide +kernel
theorem dX4_poke_63 : decode cX4_poke 63 = .ok (.ifCond .eq 5, 3) := by decide +kernel
theorem dX4_poke_66 : decode cX4_poke 66 = .ok (.iconst 0, 1) := by decide +kernel
theorem dX4_poke_67 : decode cX4_poke 67 = .ok (.ireturn, 1) := by decide +kernel
theorem dX4_poke_68 : decode cX4_poke 68 = .ok (.aload_n 0, 1) := by decide +kernel
theorem dX4_poke_69 : decode cX4_poke 69 = .ok (.getfield 39, 3) := by decide +kernel
theorem dX4_poke_72 : decode cX4_poke 72 = .ok (.sipush 164, 3) := by decide +kernel
theorem dX4_poke_75 : decode cX4_poke 75 = .ok (.iload_n 1, 1) := by decide +kernel
theorem dX4_poke_76 : decode cX4_poke 76 = .ok (.imul, 1) := by decide +kernel
theorem dX4_poke_77 : decode cX4_poke 77 = .ok (.iload_n 2, 1) := by decide +kernel
theorem dX4_poke_78 : decode cX4_poke 78 = .ok (.iadd, 1) := by decide +kernel
theorem dX4_poke_79 : decode cX4_poke 79 = .ok (.iaload, 1) := by decide +kernel
theorem dX4_poke_80 : decode cX4_poke 80 = .ok (.istore 4, 2) := by decide +kernel
theorem dX4_poke_82 : decode cX4_poke 82 = .ok (.aload_n 0, 1) := by decide +kernel
theorem dX4_poke_83 : decode cX4_poke 83 = .ok (.getfield 39, 3) := by decide +kernel
theorem dX4_poke_86 : decode cX4_poke 86 = .ok (.sipush 164, 3) := by decide +kernel
theorem dX4_poke_89 : decode cX4_poke 89 = .ok (.iload_n 1, 1) := by decide +kernel
theorem dX4_poke_90 : decode cX4_poke 90 = .ok (.imul, 1) := by decide +kernel
theorem dX4_poke_91 : decode cX4_poke 91 = .ok (.iload_n 2, 1) := by decide +kernel
theorem dX4_poke_92 : decode cX4_poke 92 = .ok (.iadd, 1) := by decide +kernel
theorem dX4_poke_93 : decode cX4_poke 93 = .ok (.iload_n 3, 1) := by decide +kernel
theorem dX4_poke_94 : decode cX4_poke 94 = .ok (.iastore, 1) := by decide +kernel
theorem dX4_poke_95 : decode cX4_poke 95 = .ok (.iload 4, 2) := by decide +kernel
theorem dX4_poke_97 : decode cX4_poke 97 = .ok (.ireturn, 1) := by decide +kernel
theorem dX4_cut_0 : decode cX4_cut 0 = .ok (.aload_n 0, 1) := by decide +kernel
theorem dX4_cut_1 : decode cX4_cut 1 = .ok (.iconst 0, 1) := by decide +kernel
theorem dX4_cut_2 : decode cX4_cut 2 = .ok (.putfield 48, 3) := by decide +kernel
theorem dX4_cut_5 : decode cX4_cut 5 = .ok (.aload_n 0, 1) := by decide +kernel
theorem dX4_cut_6 : decode cX4_cut 6 = .ok (.iload_n 1, 1) := by decide +kernel
theorem dX4_cut_7 : decode cX4_cut 7 = .ok (.invokevirtual 133, 3) := by decide +kernel
theorem dX4_cut_10 : decode cX4_cut 10 = .ok (.ifCond .ne 37, 3) := by decide +kernel
theorem dX4_cut_13 : decode cX4_cut 13 = .ok (.aload_n 0, 1) := by decide +kernel
theorem dX4_cut_14 : decode cX4_cut 14 = .ok (.iload_n 2, 1) := by decide +kernel
theorem dX4_cut_15 : decode cX4_cut 15 = .ok (.iconst 0, 1) := by decide +kernel
theorem dX4_cut_16 : decode cX4_cut 16 = .ok (.aload_n 0, 1) := by decide +kernel
theorem dX4_cut_17 : decode cX4_cut 17 = .ok (.getfield 35, 3) := by decide +kernel
theorem dX4_cut_20 : decode cX4_cut 20 = .ok (.iload_n 1, 1) := by decide +kernel
theorem dX4_cut_21 : decode cX4_cut 21 = .ok (.iaload, 1) := by decide +kernel
theorem dX4_cut_22 : decode cX4_cut 22 = .ok (.invokestatic 52, 3) := by decide +kernel
theorem dX4_cut_25 : decode cX4_cut 25 = .ok (.ifCond .ne 7, 3) := by decide +kernel
theorem dX4_cut_28 : decode cX4_cut 28 = .ok (.iconst 1, 1) := by decide +kernel
theorem dX4_cut_29 : decode cX4_cut 29 = .ok (.goto 4, 3) := by decide +kernel
theorem dX4_cut_32 : decode cX4_cut 32 = .ok (.iconst 0, 1) := by decide +kernel
theorem dX4_cut_33 : decode cX4_cut 33 = .ok (.iconst 2, 1) := by decide +kernel
theorem dX4_cut_34 : decode cX4_cut 34 = .ok (.invokevirtual 123, 3) := by decide +kernel
theorem dX4_cut_37 : decode cX4_cut 37 = .ok (.ifCond .ne 10, 3) := by decide +kernel
theorem dX4_cut_40 : decode cX4_cut 40 = .ok (.aload_n 0, 1) := by decide +kernel
theorem dX4_cut_41 : decode cX4_cut 41 = .ok (.getfield 35, 3) := by decide +kernel
theorem dX4_cut_44 : decode cX4_cut 44 = .ok (.iload_n 1, 1) := by decide +kernel
theorem dX4_cut_45 : decode cX4_cut 45 = .ok (.iload_n 2, 1) := by decide +kernel
theorem dX4_cut_46 : decode cX4_cut 46 = .ok (.iastore, 1) := by decide +kernel
theorem dX4_cut_47 : decode cX4_cut 47 = .ok (.return_, 1) := by decide +kernel
theorem dX4_packet_0 : decode cX4_packet 0 = .ok (.aload_n 0, 1) := by decide +kernel
theorem dX4_packet_1 : decode cX4_packet 1 = .ok (.iconst 0, 1) := by decide +kernel
theorem dX4_packet_2 : decode cX4_packet 2 = .ok (.putfield 48, 3) := by decide +kernel
theorem dX4_packet_5 : decode cX4_packet 5 = .ok (.aload_n 0, 1) := by decide +kernel
theorem dX4_packet_6 : decode cX4_packet 6 = .ok (.iload_n 1, 1) := by decide +kernel
theorem dX4_packet_7 : decode cX4_packet 7 = .ok (.invokevirtual 133, 3) := by decide +kernel
theorem dX4_packet_10 : decode cX4_packet 10 = .ok (.ifCond .ne 33, 3) := by decide +kernel
theorem dX4_packet_13 : decode cX4_packet 13 = .ok (.aload_n 0, 1) := by decide +kernel
theorem dX4_packet_14 : decode cX4_packet 14 = .ok (.iload_n 2, 1) := by decide +kernel
theorem dX4_packet_15 : decode cX4_packet 15 = .ok (.bipush (-3), 2) := by decide +kernel
theorem dX4_packet_17 : decode cX4_packet 17 = .ok (.aload_n 0, 1) := by decide +kernel
theorem dX4_packet_18 : decode cX4_packet 18 = .ok (.getfield 35, 3) := by decide +kernel
theorem dX4_packet_21 : decode cX4_packet 21 = .ok (.iload_n 1, 1) := by decide +kernel
theorem dX4_packet_22 : decode cX4_packet 22 = .ok (.iaload, 1) := by decide +kernel
theorem dX4_packet_23 : decode cX4_packet 23 = .ok (.iconst 1, 1) := by decide +kernel
theorem dX4_packet_24 : decode cX4_packet 24 = .ok (.isub, 1) := by decide +kernel
theorem dX4_packet_25 : decode cX4_packet 25 = .ok (.invokestatic 52, 3) := by decide +kernel
theorem dX4_packet_28 : decode cX4_packet 28 = .ok (.ifCond .ne 7, 3) := by decide +kernel
theorem dX4_packet_31 : decode cX4_packet 31 = .ok (.iconst 1, 1) := by decide +kernel
theorem dX4_packet_32 : decode cX4_packet 32 = .ok (.goto 4, 3) := by decide +kernel
theorem dX4_packet_35 : decode cX4_packet 35 = .ok (.iconst 0, 1) := by decide +kernel
theorem dX4_packet_36 : decode cX4_packet 36 = .ok (.iconst 1, 1) := by decide +kernel
theorem dX4_packet_37 : decode cX4_packet 37 = .ok (.invokevirtual 123, 3) := by decide +kernel
theorem dX4_packet_40 : decode cX4_packet 40 = .ok (.ifCond .eq 5, 3) := by decide +kernel
theorem dX4_packet_43 : decode cX4_packet 43 = .ok (.iconst 0, 1) := by decide +kernel
theorem dX4_packet_44 : decode cX4_packet 44 = .ok (.ireturn, 1) := by decide +kernel
theorem dX4_packet_45 : decode cX4_packet 45 = .ok (.iload_n 2, 1) := by decide +kernel
theorem dX4_packet_46 : decode cX4_packet 46 = .ok (.bipush (-3), 2) := by decide +kernel
theorem dX4_packet_48 : decode cX4_packet 48 = .ok (.if_icmp .ne 12, 3) := by decide +kernel
theorem dX4_packet_51 : decode cX4_packet 51 = .ok (.aload_n 0, 1) := by decide +kernel
theorem dX4_packet_52 : decode cX4_packet 52 = .ok (.getfield 29, 3) := by decide +kernel
theorem dX4_packet_55 : decode cX4_packet 55 = .ok (.iload_n 1, 1) := by decide +kernel
theorem dX4_packet_56 : decode cX4_packet 56 = .ok (.iaload, 1) := by decide +kernel
theorem dX4_packet_57 : decode cX4_packet 57 = .ok (.goto 44, 3) := by decide +kernel
theorem dX4_packet_60 : decode cX4_packet 60 = .ok (.iload_n 2, 1) := by decide +kernel
theorem dX4_packet_61 : decode cX4_packet 61 = .ok (.bipush (-2), 2) := by decide +kernel
theorem dX4_packet_63 : decode cX4_packet 63 = .ok (.if_icmp .ne 12, 3) := by decide +kernel
theorem dX4_packet_66 : decode cX4_packet 66 = .ok (.aload_n 0, 1) := by decide +kernel
theorem dX4_packet_67 : decode cX4_packet 67 = .ok (.getfield 32, 3) := by decide +kernel
theorem dX4_packet_70 : decode cX4_packet 70 = .ok (.iload_n 1, 1) := by decide +kernel
theorem dX4_packet_71 : decode cX4_packet 71 = .ok (.iaload, 1) := by decide +kernel
theorem dX4_packet_72 : decode cX4_packet 72 = .ok (.goto 29, 3) := by decide +kernel
theorem dX4_packet_75 : decode cX4_packet 75 = .ok (.iload_n 2, 1) := by decide +kernel
theorem dX4_packet_76 : decode cX4_packet 76 = .ok (.iconst (-1), 1) := by decide +kernel
theorem dX4_packet_77 : decode cX4_packet 77 = .ok (.if_icmp .ne 12, 3) := by decide +kernel
theorem dX4_packet_80 : decode cX4_packet 80 = .ok (.aload_n 0, 1) := by decide +kernel
theorem dX4_packet_81 : decode cX4_packet 81 = .ok (.getfield 35, 3) := by decide +kernel
theorem dX4_packet_84 : decode cX4_packet 84 = .ok (.iload_n 1, 1) := by decide +kernel
theorem dX4_packet_85 : decode cX4_packet 85 = .ok (.iaload, 1) := by decide +kernel
theorem dX4_packet_86 : decode cX4_packet 86 = .ok (.goto 15, 3) := by decide +kernel
theorem dX4_packet_89 : decode cX4_packet 89 = .ok (.aload_n 0, 1) := by decide +kernel
theorem dX4_packet_90 : decode cX4_packet 90 = .ok (.getfield 39, 3) := by decide +kernel
theorem dX4_packet_93 : decode cX4_packet 93 = .ok (.sipush 164, 3) := by decide +kernel
theorem dX4_packet_96 : decode cX4_packet 96 = .ok (.iload_n 1, 1) := by decide +kernel
theorem dX4_packet_97 : decode cX4_packet 97 = .ok (.imul, 1) := by decide +kernel
theorem dX4_packet_98 : decode cX4_packet 98 = .ok (.iload_n 2, 1) := by decide +kernel
theorem dX4_packet_99 : decode cX4_packet 99 = .ok (.iadd, 1) := by decide +kernel
theorem dX4_packet_100 : decode cX4_packet 100 = .ok (.iaload, 1) := by decide +kernel
theorem dX4_packet_101 : decode cX4_packet 101 = .ok (.ireturn, 1) := by decide +kernel
theorem dX4_route_0 : decode cX4_route 0 = .ok (.aload_n 0, 1) := by decide +kernel
theorem dX4_route_1 : decode cX4_route 1 = .ok (.iconst 0, 1) := by decide +kernel
theorem dX4_route_2 : decode cX4_route 2 = .ok (.putfield 48, 3) := by decide +kernel
theorem dX4_route_5 : decode cX4_route 5 = .ok (.aload_n 0, 1) := by decide +kernel
theorem dX4_route_6 : decode cX4_route 6 = .ok (.iload_n 1, 1) := by decide +kernel
theorem dX4_route_7 : decode cX4_route 7 = .ok (.invokestatic 120, 3) := by decide +kernel
theorem dX4_route_10 : decode cX4_route 10 = .ok (.ifCond .eq 19, 3) := by decide +kernel
theorem dX4_route_13 : decode cX4_route 13 = .ok (.iload_n 2, 1) := by decide +kernel
theorem dX4_route_14 : decode cX4_route 14 = .ok (.invokestatic 120, 3) := by decide +kernel
theorem dX4_route_17 : decode cX4_route 17 = .ok (.ifCond .eq 12, 3) := by decide +kernel
theorem dX4_route_20 : decode cX4_route 20 = .ok (.iload_n 3, 1) := by decide +kernel
theorem dX4_route_21 : decode cX4_route 21 = .ok (.iconst 0, 1) := by decide +kernel
theorem dX4_route_22 : decode cX4_route 22 = .ok (.iconst 4, 1) := by decide +kernel
theorem dX4_route_23 : decode cX4_route 23 = .ok (.invokestatic 52, 3) := by decide +kernel
theorem dX4_route_26 : decode cX4_route 26 = .ok (.ifCond .ne 7, 3) := by decide +kernel
theorem dX4_route_29 : decode cX4_route 29 = .ok (.iconst 1, 1) := by decide +kernel
theorem dX4_route_30 : decode cX4_route 30 = .ok (.goto 4, 3) := by decide +kernel
theorem dX4_route_33 : decode cX4_route 33 = .ok (.iconst 0, 1) := by decide +kernel
theorem dX4_route_34 : decode cX4_route 34 = .ok (.iconst 1, 1) := by decide +kernel
theorem dX4_route_35 : decode cX4_route 35 = .ok (.invokevirtual 123, 3) := by decide +kernel
theorem dX4_route_38 : decode cX4_route 38 = .ok (.ifCond .eq 5, 3) := by decide +kernel
theorem dX4_route_41 : decode cX4_route 41 = .ok (.iconst 0, 1) := by decide +kernel
theorem dX4_route_42 : decode cX4_route 42 = .ok (.ireturn, 1) := by decide +kernel
theorem dX4_route_43 : decode cX4_route 43 = .ok (.bipush 8, 2) := by decide +kernel
theorem dX4_route_45 : decode cX4_route 45 = .ok (.iload_n 1, 1) := by decide +kernel
theorem dX4_route_46 : decode cX4_route 46 = .ok (.imul, 1) := by decide +kernel
theorem dX4_route_47 : decode cX4_route 47 = .ok (.iload_n 2, 1) := by decide +kernel
theorem dX4_route_48 : decode cX4_route 48 = .ok (.iadd, 1) := by decide +kernel
theorem dX4_route_49 : decode cX4_route 49 = .ok (.istore 4, 2) := by decide +kernel
theorem dX4_route_51 : decode cX4_route 51 = .ok (.iload_n 1, 1) := by decide +kernel
theorem dX4_route_52 : decode cX4_route 52 = .ok (.iload_n 2, 1) := by decide +kernel
theorem dX4_route_53 : decode cX4_route 53 = .ok (.if_icmp .ne 13, 3) := by decide +kernel
theorem dX4_route_56 : decode cX4_route 56 = .ok (.iload_n 3, 1) := by decide +kernel
theorem dX4_route_57 : decode cX4_route 57 = .ok (.ifCond .ne 7, 3) := by decide +kernel
theorem dX4_route_60 : decode cX4_route 60 = .ok (.iconst 0, 1) := by decide +kernel
theorem dX4_route_61 : decode cX4_route 61 = .ok (.goto 4, 3) := by decide +kernel
theorem dX4_route_64 : decode cX4_route 64 = .ok (.iconst (-1), 1) := by decide +kernel
theorem dX4_route_65 : decode cX4_route 65 = .ok (.ireturn, 1) := by decide +kernel
theorem dX4_route_66 : decode cX4_route 66 = .ok (.aload_n 0, 1) := by decide +kernel
theorem dX4_route_67 : decode cX4_route 67 = .ok (.getfield 13, 3) := by decide +kernel
theorem dX4_route_70 : decode cX4_route 70 = .ok (.iload 4, 2) := by decide +kernel
theorem dX4_route_72 : decode cX4_route 72 = .ok (.iaload, 1) := by decide +kernel
theorem dX4_route_73 : decode cX4_route 73 = .ok (.ifCond .ne 5, 3) := by decide +kernel
theorem dX4_route_76 : decode cX4_route 76 = .ok (.iconst (-1), 1) := by decide +kernel
theorem dX4_route_77 : decode cX4_route 77 = .ok (.ireturn, 1) := by decide +kernel
theorem dX4_route_78 : decode cX4_route 78 = .ok (.iload_n 3, 1) := by decide +kernel
theorem dX4_route_79 : decode cX4_route 79 = .ok (.ifCond .ne 13, 3) := by decide +kernel
theorem dX4_route_82 : decode cX4_route 82 = .ok (.aload_n 0, 1) := by decide +kernel
theorem dX4_route_83 : decode cX4_route 83 = .ok (.getfield 13, 3) := by decide +kernel
theorem dX4_route_86 : decode cX4_route 86 = .ok (.iload 4, 2) := by decide +kernel
theorem dX4_route_88 : decode cX4_route 88 = .ok (.iaload, 1) := by decide +kernel
theorem dX4_route_89 : decode cX4_route 89 = .ok (.goto 63, 3) := by decide +kernel
theorem dX4_route_92 : decode cX4_route 92 = .ok (.iload_n 3, 1) := by decide +kernel
theorem dX4_route_93 : decode cX4_route 93 = .ok (.iconst 1, 1) := by decide +kernel
theorem dX4_route_94 : decode cX4_route 94 = .ok (.if_icmp .ne 13, 3) := by decide +kernel
theorem dX4_route_97 : decode cX4_route 97 = .ok (.aload_n 0, 1) := by decide +kernel
theorem dX4_route_98 : decode cX4_route 98 = .ok (.getfield 17, 3) := by decide +kernel
theorem dX4_route_101 : decode cX4_route 101 = .ok (.iload 4, 2) := by decide +kernel
theorem dX4_route_103 : decode cX4_route 103 = .ok (.iaload, 1) := by decide +kernel
theorem dX4_route_104 : decode cX4_route 104 = .ok (.goto 48, 3) := by decide +kernel
theorem dX4_route_107 : decode cX4_route 107 = .ok (.iload_n 3, 1) := by decide +kernel
theorem dX4_route_108 : decode cX4_route 108 = .ok (.iconst 2, 1) := by decide +kernel
theorem dX4_route_109 : decode cX4_route 109 = .ok (.if_icmp .ne 13, 3) := by decide +kernel
theorem dX4_route_112 : decode cX4_route 112 = .ok (.aload_n 0, 1) := by decide +kernel
theorem dX4_route_113 : decode cX4_route 113 = .ok (.getfield 20, 3) := by decide +kernel
theorem dX4_route_116 : decode cX4_route 116 = .ok (.iload 4, 2) := by decide +kernel
theorem dX4_route_118 : decode cX4_route 118 = .ok (.iaload, 1) := by decide +kernel
theorem dX4_route_119 : decode cX4_route 119 = .ok (.goto 33, 3) := by decide +kernel
theorem dX4_route_122 : decode cX4_route 122 = .ok (.iload_n 3, 1) := by decide +kernel
theorem dX4_route_123 : decode cX4_route 123 = .ok (.iconst 3, 1) := by decide +kernel
theorem dX4_route_124 : decode cX4_route 124 = .ok (.if_icmp .ne 21, 3) := by decide +kernel
theorem dX4_route_127 : decode cX4_route 127 = .ok (.aload_n 0, 1) := by decide +kernel
theorem dX4_route_128 : decode cX4_route 128 = .ok (.getfield 23, 3) := by decide +kernel
theorem dX4_route_131 : decode cX4_route 131 = .ok (.iload 4, 2) := by decide +kernel
theorem dX4_route_133 : decode cX4_route 133 = .ok (.baload, 1) := by decide +kernel
theorem dX4_route_134 : decode cX4_route 134 = .ok (.ifCond .eq 7, 3) := by decide +kernel
theorem dX4_route_137 : decode cX4_route 137 = .ok (.iconst 1, 1) := by decide +kernel
theorem dX4_route_138 : decode cX4_route 138 = .ok (.goto 14, 3) := by decide +kernel
theorem dX4_route_141 : decode cX4_route 141 = .ok (.iconst 0, 1) := by decide +kernel
theorem dX4_route_142 : decode cX4_route 142 = .ok (.goto 10, 3) := by decide +kernel
theorem dX4_route_145 : decode cX4_route 145 = .ok (.aload_n 0, 1) := by decide +kernel
theorem dX4_route_146 : decode cX4_route 146 = .ok (.getfield 26, 3) := by decide +kernel
theorem dX4_route_149 : decode cX4_route 149 = .ok (.iload 4, 2) := by decide +kernel
theorem dX4_route_151 : decode cX4_route 151 = .ok (.iaload, 1) := by decide +kernel
theorem dX4_route_152 : decode cX4_route 152 = .ok (.ireturn, 1) := by decide +kernel
theorem dX4_send_0 : decode cX4_send 0 = .ok (.aload_n 0, 1) := by decide +kernel
theorem dX4_send_1 : decode cX4_send 1 = .ok (.iconst 0, 1) := by decide +kernel
theorem dX4_send_2 : decode cX4_send 2 = .ok (.putfield 48, 3) := by decide +kernel
theorem dX4_send_5 : decode cX4_send 5 = .ok (.aload_n 0, 1) := by decide +kernel
theorem dX4_send_6 : decode cX4_send 6 = .ok (.iload_n 1, 1) := by decide +kernel
theorem dX4_send_7 : decode cX4_send 7 = .ok (.invokestatic 120, 3) := by decide +kernel
theorem dX4_send_10 : decode cX4_send 10 = .ok (.ifCond .eq 10, 3) := by decide +kernel
theorem dX4_send_13 : decode cX4_send 13 = .ok (.iload_n 2, 1) := by decide +kernel
theorem dX4_send_14 : decode cX4_send 14 = .ok (.invokestatic 120, 3) := by decide +kernel
theorem dX4_send_17 : decode cX4_send 17 = .ok (.ifCond .ne 7, 3) := by decide +kernel
theorem dX4_send_20 : decode cX4_send 20 = .ok (.iconst 1, 1) := by decide +kernel
theorem dX4_send_21 : decode cX4_send 21 = .ok (.goto 4, 3) := by decide +kernel
theorem dX4_send_24 : decode cX4_send 24 = .ok (.iconst 0, 1) := by decide +kernel
theorem dX4_send_25 : decode cX4_send 25 = .ok (.iconst 1, 1) := by decide +kernel
theorem dX4_send_26 : decode cX4_send 26 = .ok (.invokevirtual 123, 3) := by decide +kernel
theorem dX4_send_29 : decode cX4_send 29 = .ok (.ifCond .eq 5, 3) := by decide +kernel
theorem dX4_send_32 : decode cX4_send 32 = .ok (.iconst 0, 1) := by decide +kernel
theorem dX4_send_33 : decode cX4_send 33 = .ok (.ireturn, 1) := by decide +kernel
theorem dX4_send_34 : decode cX4_send 34 = .ok (.iload_n 1, 1) := by decide +kernel
theorem dX4_send_35 : decode cX4_send 35 = .ok (.istore_n 3, 1) := by decide +kernel
theorem dX4_send_36 : decode cX4_send 36 = .ok (.iconst 0, 1) := by decide +kernel
theorem dX4_send_37 : decode cX4_send 37 = .ok (.istore 4, 2) := by decide +kernel
theorem dX4_send_39 : decode cX4_send 39 = .ok (.iload 4, 2) := by decide +kernel
theorem dX4_send_41 : decode cX4_send 41 = .ok (.bipush 17, 2) := by decide +kernel
theorem dX4_send_43 : decode cX4_send 43 = .ok (.if_icmp .ge 90, 3) := by decide +kernel
theorem dX4_send_46 : decode cX4_send 46 = .ok (.iload_n 3, 1) := by decide +kernel
theorem dX4_send_47 : decode cX4_send 47 = .ok (.iload_n 2, 1) := by decide +kernel
theorem dX4_send_48 : decode cX4_send 48 = .ok (.if_icmp .ne 6, 3) := by decide +kernel
theorem dX4_send_51 : decode cX4_send 51 = .ok (.iload 4, 2) := by decide +kernel
theorem dX4_send_53 : decode cX4_send 53 = .ok (.ireturn, 1) := by decide +kernel
theorem dX4_send_54 : decode cX4_send 54 = .ok (.iload 4, 2) := by decide +kernel
theorem dX4_send_56 : decode cX4_send 56 = .ok (.bipush 16, 2) := by decide +kernel
theorem dX4_send_58 : decode cX4_send 58 = .ok (.if_icmp .ne 6, 3) := by decide +kernel
theorem dX4_send_61 : decode cX4_send 61 = .ok (.bipush (-3), 2) := by decide +kernel
theorem dX4_send_63 : decode cX4_send 63 = .ok (.ireturn, 1) := by decide +kernel
theorem dX4_send_64 : decode cX4_send 64 = .ok (.bipush 8, 2) := by decide +kernel
theorem dX4_send_66 : decode cX4_send 66 = .ok (.iload_n 3, 1) := by decide +kernel
theorem dX4_send_67 : decode cX4_send 67 = .ok (.imul, 1) := by decide +kernel
theorem dX4_send_68 : decode cX4_send 68 = .ok (.iload_n 2, 1) := by decide +kernel
theorem dX4_send_69 : decode cX4_send 69 = .ok (.iadd, 1) := by decide +kernel
theorem dX4_send_70 : decode cX4_send 70 = .ok (.istore 5, 2) := by decide +kernel
theorem dX4_send_72 : decode cX4_send 72 = .ok (.aload_n 0, 1) := by decide +kernel
theorem dX4_send_73 : decode cX4_send 73 = .ok (.getfield 13, 3) := by decide +kernel
theorem dX4_send_76 : decode cX4_send 76 = .ok (.iload 5, 2) := by decide +kernel
theorem dX4_send_78 : decode cX4_send 78 = .ok (.iaload, 1) := by decide +kernel
theorem dX4_send_79 : decode cX4_send 79 = .ok (.ifCond .eq 15, 3) := by decide +kernel
theorem dX4_send_82 : decode cX4_send 82 = .ok (.aload_n 0, 1) := by decide +kernel
theorem dX4_send_83 : decode cX4_send 83 = .ok (.getfield 13, 3) := by decide +kernel
theorem dX4_send_86 : decode cX4_send 86 = .ok (.iload 5, 2) := by decide +kernel
theorem dX4_send_88 : decode cX4_send 88 = .ok (.iaload, 1) := by decide +kernel
theorem dX4_send_89 : decode cX4_send 89 = .ok (.bipush 16, 2) := by decide +kernel
theorem dX4_send_91 : decode cX4_send 91 = .ok (.if_icmp .ne 5, 3) := by decide +kernel
theorem dX4_send_94 : decode cX4_send 94 = .ok (.iconst (-1), 1) := by decide +kernel
theorem dX4_send_95 : decode cX4_send 95 = .ok (.ireturn, 1) := by decide +kernel
theorem dX4_send_96 : decode cX4_send 96 = .ok (.aload_n 0, 1) := by decide +kernel
theorem dX4_send_97 : decode cX4_send 97 = .ok (.getfield 7, 3) := by decide +kernel
theorem dX4_send_100 : decode cX4_send 100 = .ok (.bipush 8, 2) := by decide +kernel
theorem dX4_send_102 : decode cX4_send 102 = .ok (.iload_n 3, 1) := by decide +kernel
theorem dX4_send_103 : decode cX4_send 103 = .ok (.imul, 1) := by decide +kernel
theorem dX4_send_104 : decode cX4_send 104 = .ok (.aload_n 0, 1) := by decide +kernel
theorem dX4_send_105 : decode cX4_send 105 = .ok (.getfield 17, 3) := by decide +kernel
theorem dX4_send_108 : decode cX4_send 108 = .ok (.iload 5, 2) := by decide +kernel
theorem dX4_send_110 : decode cX4_send 110 = .ok (.iaload, 1) := by decide +kernel
theorem dX4_send_111 : decode cX4_send 111 = .ok (.iadd, 1) := by decide +kernel
theorem dX4_send_112 : decode cX4_send 112 = .ok (.baload, 1) := by decide +kernel
theorem dX4_send_113 : decode cX4_send 113 = .ok (.ifCond .ne 6, 3) := by decide +kernel
theorem dX4_send_116 : decode cX4_send 116 = .ok (.bipush (-2), 2) := by decide +kernel
theorem dX4_send_118 : decode cX4_send 118 = .ok (.ireturn, 1) := by decide +kernel
theorem dX4_send_119 : decode cX4_send 119 = .ok (.aload_n 0, 1) := by decide +kernel
theorem dX4_send_120 : decode cX4_send 120 = .ok (.getfield 17, 3) := by decide +kernel
theorem dX4_send_123 : decode cX4_send 123 = .ok (.iload 5, 2) := by decide +kernel
theorem dX4_send_125 : decode cX4_send 125 = .ok (.iaload, 1) := by decide +kernel
theorem dX4_send_126 : decode cX4_send 126 = .ok (.istore_n 3, 1) := by decide +kernel
theorem dX4_send_127 : decode cX4_send 127 = .ok (.iinc 4 1, 3) := by decide +kernel
theorem dX4_send_130 : decode cX4_send 130 = .ok (.goto (-91), 3) := by decide +kernel
theorem dX4_send_133 : decode cX4_send 133 = .ok (.bipush (-3), 2) := by decide +kernel
theorem dX4_send_135 : decode cX4_send 135 = .ok (.ireturn, 1) := by decide +kernel
theorem dX4_count_0 : decode cX4_count 0 = .ok (.aload_n 0, 1) := by decide +kernel
theorem dX4_count_1 : decode cX4_count 1 = .ok (.iconst 0, 1) := by decide +kernel
theorem dX4_count_2 : decode cX4_count 2 = .ok (.putfield 48, 3) := by decide +kernel
theorem dX4_count_5 : decode cX4_count 5 = .ok (.aload_n 0, 1) := by decide +kernel
theorem dX4_count_6 : decode cX4_count 6 = .ok (.iload_n 1, 1) := by decide +kernel
theorem dX4_count_7 : decode cX4_count 7 = .ok (.iconst 0, 1) := by decide +kernel
theorem dX4_count_8 : decode cX4_count 8 = .ok (.iconst 5, 1) := by decide +kernel
theorem dX4_count_9 : decode cX4_count 9 = .ok (.invokestatic 52, 3) := by decide +kernel
theorem dX4_count_12 : decode cX4_count 12 = .ok (.ifCond .ne 7, 3) := by decide +kernel
theorem dX4_count_15 : decode cX4_count 15 = .ok (.iconst 1, 1) := by decide +kernel
theorem dX4_count_16 : decode cX4_count 16 = .ok (.goto 4, 3) := by decide +kernel
theorem dX4_count_19 : decode cX4_count 19 = .ok (.iconst 0, 1) := by decide +kernel
theorem dX4_count_20 : decode cX4_count 20 = .ok (.iconst 1, 1) := by decide +kernel
theorem dX4_count_21 : decode cX4_count 21 = .ok (.invokevirtual 123, 3) := by decide +kernel
theorem dX4_count_24 : decode cX4_count 24 = .ok (.ifCond .eq 5, 3) := by decide +kernel
theorem dX4_count_27 : decode cX4_count 27 = .ok (.iconst 0, 1) := by decide +kernel
theorem dX4_count_28 : decode cX4_count 28 = .ok (.ireturn, 1) := by decide +kernel
theorem dX4_count_29 : decode cX4_count 29 = .ok (.iconst 0, 1) := by decide +kernel
theorem dX4_count_30 : decode cX4_count 30 = .ok (.istore_n 2, 1) := by decide +kernel
theorem dX4_count_31 : decode cX4_count 31 = .ok (.iconst 0, 1) := by decide +kernel
theorem dX4_count_32 : decode cX4_count 32 = .ok (.istore_n 3, 1) := by decide +kernel
theorem dX4_count_33 : decode cX4_count 33 = .ok (.iload_n 3, 1) := by decide +kernel
theorem dX4_count_34 : decode cX4_count 34 = .ok (.bipush 64, 2) := by decide +kernel
theorem dX4_count_36 : decode cX4_count 36 = .ok (.if_icmp .ge 37, 3) := by decide +kernel
theorem dX4_count_39 : decode cX4_count 39 = .ok (.iload_n 2, 1) := by decide +kernel
theorem dX4_count_40 : decode cX4_count 40 = .ok (.aload_n 0, 1) := by decide +kernel
theorem dX4_count_41 : decode cX4_count 41 = .ok (.getfield 7, 3) := by decide +kernel
theorem dX4_count_44 : decode cX4_count 44 = .ok (.iload_n 3, 1) := by decide +kernel
theorem dX4_count_45 : decode cX4_count 45 = .ok (.baload, 1) := by decide +kernel
theorem dX4_count_46 : decode cX4_count 46 = .ok (.ifCond .eq 18, 3) := by decide +kernel
theorem dX4_count_49 : decode cX4_count 49 = .ok (.iload_n 3, 1) := by decide +kernel
theorem dX4_count_50 : decode cX4_count 50 = .ok (.bipush 8, 2) := by decide +kernel
theorem dX4_count_52 : decode cX4_count 52 = .ok (.idiv, 1) := by decide +kernel
theorem dX4_count_53 : decode cX4_count 53 = .ok (.iload_n 3, 1) := by decide +kernel
theorem dX4_count_54 : decode cX4_count 54 = .ok (.bipush 8, 2) := by decide +kernel
theorem dX4_count_56 : decode cX4_count 56 = .ok (.irem, 1) := by decide +kernel
theorem dX4_count_57 : decode cX4_count 57 = .ok (.if_icmp .ge 7, 3) := by decide +kernel
theorem dX4_count_60 : decode cX4_count 60 = .ok (.iconst 1, 1) := by decide +kernel
theorem dX4_count_61 : decode cX4_count 61 = .ok (.goto 4, 3) := by decide +kernel
theorem dX4_count_64 : decode cX4_count 64 = .ok (.iconst 0, 1) := by decide +kernel
theorem dX4_count_65 : decode cX4_count 65 = .ok (.iadd, 1) := by decide +kernel
theorem dX4_count_66 : decode cX4_count 66 = .ok (.istore_n 2, 1) := by decide +kernel
theorem dX4_count_67 : decode cX4_count 67 = .ok (.iinc 3 1, 3) := by decide +kernel
theorem dX4_count_70 : decode cX4_count 70 = .ok (.goto (-37), 3) := by decide +kernel
theorem dX4_count_73 : decode cX4_count 73 = .ok (.iload_n 1, 1) := by decide +kernel
theorem dX4_count_74 : decode cX4_count 74 = .ok (.ifCond .ne 10, 3) := by decide +kernel
theorem dX4_count_77 : decode cX4_count 77 = .ok (.aload_n 0, 1) := by decide +kernel
theorem dX4_count_78 : decode cX4_count 78 = .ok (.getfield 66, 3) := by decide +kernel
theorem dX4_count_81 : decode cX4_count 81 = .ok (.goto 52, 3) := by decide +kernel
theorem dX4_count_84 : decode cX4_count 84 = .ok (.iload_n 1, 1) := by decide +kernel
theorem dX4_count_85 : decode cX4_count 85 = .ok (.iconst 1, 1) := by decide +kernel
theorem dX4_count_86 : decode cX4_count 86 = .ok (.if_icmp .ne 10, 3) := by decide +kernel
theorem dX4_count_89 : decode cX4_count 89 = .ok (.aload_n 0, 1) := by decide +kernel
theorem dX4_count_90 : decode cX4_count 90 = .ok (.getfield 69, 3) := by decide +kernel
theorem dX4_count_93 : decode cX4_count 93 = .ok (.goto 40, 3) := by decide +kernel
theorem dX4_count_96 : decode cX4_count 96 = .ok (.iload_n 1, 1) := by decide +kernel
theorem dX4_count_97 : decode cX4_count 97 = .ok (.iconst 2, 1) := by decide +kernel
theorem dX4_count_98 : decode cX4_count 98 = .ok (.if_icmp .ne 10, 3) := by decide +kernel
theorem dX4_count_101 : decode cX4_count 101 = .ok (.aload_n 0, 1) := by decide +kernel
theorem dX4_count_102 : decode cX4_count 102 = .ok (.getfield 63, 3) := by decide +kernel
theorem dX4_count_105 : decode cX4_count 105 = .ok (.goto 28, 3) := by decide +kernel
theorem dX4_count_108 : decode cX4_count 108 = .ok (.iload_n 1, 1) := by decide +kernel
theorem dX4_count_109 : decode cX4_count 109 = .ok (.iconst 3, 1) := by decide +kernel
theorem dX4_count_110 : decode cX4_count 110 = .ok (.if_icmp .ne 10, 3) := by decide +kernel
theorem dX4_count_113 : decode cX4_count 113 = .ok (.aload_n 0, 1) := by decide +kernel
theorem dX4_count_114 : decode cX4_count 114 = .ok (.getfield 114, 3) := by decide +kernel
theorem dX4_count_117 : decode cX4_count 117 = .ok (.goto 16, 3) := by decide +kernel
theorem dX4_count_120 : decode cX4_count 120 = .ok (.iload_n 1, 1) := by decide +kernel
theorem dX4_count_121 : decode cX4_count 121 = .ok (.iconst 4, 1) := by decide +kernel
theorem dX4_count_122 : decode cX4_count 122 = .ok (.if_icmp .ne 7, 3) := by decide +kernel
theorem dX4_count_125 : decode cX4_count 125 = .ok (.iload_n 2, 1) := by decide +kernel
theorem dX4_count_126 : decode cX4_count 126 = .ok (.goto 7, 3) := by decide +kernel
theorem dX4_count_129 : decode cX4_count 129 = .ok (.aload_n 0, 1) := by decide +kernel
theorem dX4_count_130 : decode cX4_count 130 = .ok (.getfield 104, 3) := by decide +kernel
theorem dX4_count_133 : decode cX4_count 133 = .ok (.ireturn, 1) := by decide +kernel
theorem dJ9_min_7cf53_0 : decode cJ9_min_7cf53 0 = .ok (.iload_n 0, 1) := by decide +kernel
theorem dJ9_min_7cf53_1 : decode cJ9_min_7cf53 1 = .ok (.iload_n 1, 1) := by decide +kernel
theorem dJ9_min_7cf53_2 : decode cJ9_min_7cf53 2 = .ok (.if_icmp .gt 7, 3) := by decide +kernel
theorem dJ9_min_7cf53_5 : decode cJ9_min_7cf53 5 = .ok (.iload_n 0, 1) := by decide +kernel
theorem dJ9_min_7cf53_6 : decode cJ9_min_7cf53 6 = .ok (.goto 4, 3) := by decide +kernel
theorem dJ9_min_7cf53_9 : decode cJ9_min_7cf53 9 = .ok (.iload_n 1, 1) := by decide +kernel
theorem dJ9_min_7cf53_10 : decode cJ9_min_7cf53 10 = .ok (.ireturn, 1) := by decide +kernel
theorem dJ7_fill_53178_0 : decode cJ7_fill_53178 0 = .ok (.iconst 0, 1) := by decide +kernel
theorem dJ7_fill_53178_1 : decode cJ7_fill_53178 1 = .ok (.istore_n 2, 1) := by decide +kernel
theorem dJ7_fill_53178_2 : decode cJ7_fill_53178 2 = .ok (.aload_n 0, 1) := by decide +kernel
theorem dJ7_fill_53178_3 : decode cJ7_fill_53178 3 = .ok (.arraylength, 1) := by decide +kernel
theorem dJ7_fill_53178_4 : decode cJ7_fill_53178 4 = .ok (.istore_n 3, 1) := by decide +kernel
theorem dJ7_fill_53178_5 : decode cJ7_fill_53178 5 = .ok (.iload_n 2, 1) := by decide +kernel
theorem dJ7_fill_53178_6 : decode cJ7_fill_53178 6 = .ok (.iload_n 3, 1) := by decide +kernel
theorem dJ7_fill_53178_7 : decode cJ7_fill_53178 7 = .ok (.if_icmp .ge 13, 3) := by decide +kernel
theorem dJ7_fill_53178_10 : decode cJ7_fill_53178 10 = .ok (.aload_n 0, 1) := by decide +kernel
theorem dJ7_fill_53178_11 : decode cJ7_fill_53178 11 = .ok (.iload_n 2, 1) := by decide +kernel
theorem dJ7_fill_53178_12 : decode cJ7_fill_53178 12 = .ok (.iload_n 1, 1) := by decide +kernel
theorem dJ7_fill_53178_13 : decode cJ7_fill_53178 13 = .ok (.iastore, 1) := by decide +kernel
theorem dJ7_fill_53178_14 : decode cJ7_fill_53178 14 = .ok (.iinc 2 1, 3) := by decide +kernel
theorem dJ7_fill_53178_17 : decode cJ7_fill_53178 17 = .ok (.goto (-12), 3) := by decide +kernel
theorem dJ7_fill_53178_20 : decode cJ7_fill_53178 20 = .ok (.return_, 1) := by decide +kernel
theorem dL_link_0 : decode cL_link 0 = .ok (.aload 4, 2) := by decide +kernel
theorem dL_link_2 : decode cL_link 2 = .ok (.iconst 0, 1) := by decide +kernel
theorem dL_link_3 : decode cL_link 3 = .ok (.aload_n 0, 1) := by decide +kernel
theorem dL_link_4 : decode cL_link 4 = .ok (.iload_n 1, 1) := by decide +kernel
theorem dL_link_5 : decode cL_link 5 = .ok (.iload_n 2, 1) := by decide +kernel
theorem dL_link_6 : decode cL_link 6 = .ok (.iload_n 3, 1) := by decide +kernel
theorem dL_link_7 : decode cL_link 7 = .ok (.invokevirtual 7, 3) := by decide +kernel
theorem dL_link_10 : decode cL_link 10 = .ok (.ifCond .eq 7, 3) := by decide +kernel
theorem dL_link_13 : decode cL_link 13 = .ok (.lconst 1, 1) := by decide +kernel
theorem dL_link_14 : decode cL_link 14 = .ok (.goto 4, 3) := by decide +kernel
theorem dL_link_17 : decode cL_link 17 = .ok (.lconst 0, 1) := by decide +kernel
theorem dL_link_18 : decode cL_link 18 = .ok (.lastore, 1) := by decide +kernel
theorem dL_link_19 : decode cL_link 19 = .ok (.goto 11, 3) := by decide +kernel
theorem dL_link_22 : decode cL_link 22 = .ok (.astore 5, 2) := by decide +kernel
theorem dL_link_24 : decode cL_link 24 = .ok (.iconst 1, 1) := by decide +kernel
theorem dL_link_25 : decode cL_link 25 = .ok (.ireturn, 1) := by decide +kernel
theorem dL_link_26 : decode cL_link 26 = .ok (.astore 5, 2) := by decide +kernel
theorem dL_link_28 : decode cL_link 28 = .ok (.iconst 2, 1) := by decide +kernel
theorem dL_link_29 : decode cL_link 29 = .ok (.ireturn, 1) := by decide +kernel
theorem dL_link_30 : decode cL_link 30 = .ok (.iconst 0, 1) := by decide +kernel
theorem dL_link_31 : decode cL_link 31 = .ok (.ireturn, 1) := by decide +kernel
theorem dL_sees_0 : decode cL_sees 0 = .ok (.aload_n 3, 1) := by decide +kernel
theorem dL_sees_1 : decode cL_sees 1 = .ok (.iconst 0, 1) := by decide +kernel
theorem dL_sees_2 : decode cL_sees 2 = .ok (.aload_n 0, 1) := by decide +kernel
theorem dL_sees_3 : decode cL_sees 3 = .ok (.iload_n 1, 1) := by decide +kernel
theorem dL_sees_4 : decode cL_sees 4 = .ok (.iload_n 2, 1) := by decide +kernel
theorem dL_sees_5 : decode cL_sees 5 = .ok (.invokevirtual 17, 3) := by decide +kernel
theorem dL_sees_8 : decode cL_sees 8 = .ok (.i2l, 1) := by decide +kernel
theorem dL_sees_9 : decode cL_sees 9 = .ok (.lastore, 1) := by decide +kernel
theorem dL_sees_10 : decode cL_sees 10 = .ok (.goto 15, 3) := by decide +kernel
theorem dL_sees_13 : decode cL_sees 13 = .ok (.astore 4, 2) := by decide +kernel
theorem dL_sees_15 : decode cL_sees 15 = .ok (.iconst 1, 1) := by decide +kernel
theorem dL_sees_16 : decode cL_sees 16 = .ok (.ireturn, 1) := by decide +kernel
theorem dL_sees_17 : decode cL_sees 17 = .ok (.astore 4, 2) := by decide +kernel
theorem dL_sees_19 : decode cL_sees 19 = .ok (.iconst 2, 1) := by decide +kernel
theorem dL_sees_20 : decode cL_sees 20 = .ok (.ireturn, 1) := by decide +kernel
theorem dL_sees_21 : decode cL_sees 21 = .ok (.astore 4, 2) := by decide +kernel
theorem dL_sees_23 : decode cL_sees 23 = .ok (.iconst 3, 1) := by decide +kernel
theorem dL_sees_24 : decode cL_sees 24 = .ok (.ireturn, 1) := by decide +kernel
theorem dL_sees_25 : decode cL_sees 25 = .ok (.iconst 0, 1) := by decide +kernel
theorem dL_sees_26 : decode cL_sees 26 = .ok (.ireturn, 1) := by decide +kernel
theorem dL_restart_0 : decode cL_restart 0 = .ok (.aload_n 2, 1) := by decide +kernel
theorem dL_restart_1 : decode cL_restart 1 = .ok (.iconst 0, 1) := by decide +kernel
theorem dL_restart_2 : decode cL_restart 2 = .ok (.aload_n 0, 1) := by decide +kernel
theorem dL_restart_3 : decode cL_restart 3 = .ok (.iload_n 1, 1) := by decide +kernel
theorem dL_restart_4 : decode cL_restart 4 = .ok (.invokevirtual 23, 3) := by decide +kernel
theorem dL_restart_7 : decode cL_restart 7 = .ok (.i2l, 1) := by decide +kernel
theorem dL_restart_8 : decode cL_restart 8 = .ok (.lastore, 1) := by decide +kernel
theorem dL_restart_9 : decode cL_restart 9 = .ok (.goto 6, 3) := by decide +kernel
theorem dL_restart_12 : decode cL_restart 12 = .ok (.astore_n 3, 1) := by decide +kernel
theorem dL_restart_13 : decode cL_restart 13 = .ok (.iconst 1, 1) := by decide +kernel
theorem dL_restart_14 : decode cL_restart 14 = .ok (.ireturn, 1) := by decide +kernel
theorem dL_restart_15 : decode cL_restart 15 = .ok (.iconst 0, 1) := by decide +kernel
theorem dL_restart_16 : decode cL_restart 16 = .ok (.ireturn, 1) := by decide +kernel
theorem dL_ask_0 : decode cL_ask 0 = .ok (.aload 4, 2) := by decide +kernel
theorem dL_ask_2 : decode cL_ask 2 = .ok (.iconst 0, 1) := by decide +kernel
theorem dL_ask_3 : decode cL_ask 3 = .ok (.aload_n 0, 1) := by decide +kernel
theorem dL_ask_4 : decode cL_ask 4 = .ok (.iload_n 1, 1) := by decide +kernel
theorem dL_ask_5 : decode cL_ask 5 = .ok (.iload_n 2, 1) := by decide +kernel
theorem dL_ask_6 : decode cL_ask 6 = .ok (.iload_n 3, 1) := by decide +kernel
theorem dL_ask_7 : decode cL_ask 7 = .ok (.invokevirtual 27, 3) := by decide +kernel
theorem dL_ask_10 : decode cL_ask 10 = .ok (.i2l, 1) := by decide +kernel
theorem dL_ask_11 : decode cL_ask 11 = .ok (.lastore, 1) := by decide +kernel
theorem dL_ask_12 : decode cL_ask 12 = .ok (.goto 15, 3) := by decide +kernel
theorem dL_ask_15 : decode cL_ask 15 = .ok (.astore 5, 2) := by decide +kernel
theorem dL_ask_17 : decode cL_ask 17 = .ok (.iconst 1, 1) := by decide +kernel
theorem dL_ask_18 : decode cL_ask 18 = .ok (.ireturn, 1) := by decide +kernel
theorem dL_ask_19 : decode cL_ask 19 = .ok (.astore 5, 2) := by decide +kernel
theorem dL_ask_21 : decode cL_ask 21 = .ok (.iconst 2, 1) := by decide +kernel
theorem dL_ask_22 : decode cL_ask 22 = .ok (.ireturn, 1) := by decide +kernel
theorem dL_ask_23 : decode cL_ask 23 = .ok (.astore 5, 2) := by decide +kernel
theorem dL_ask_25 : decode cL_ask 25 = .ok (.iconst 3, 1) := by decide +kernel
theorem dL_ask_26 : decode cL_ask 26 = .ok (.ireturn, 1) := by decide +kernel
theorem dL_ask_27 : decode cL_ask 27 = .ok (.iconst 0, 1) := by decide +kernel
theorem dL_ask_28 : decode cL_ask 28 = .ok (.ireturn, 1) := by decide +kernel
theorem dL_tick_0 : decode cL_tick 0 = .ok (.aload_n 3, 1) := by decide +kernel
theorem dL_tick_1 : decode cL_tick 1 = .ok (.iconst 0, 1) := by decide +kernel
theorem dL_tick_2 : decode cL_tick 2 = .ok (.aload_n 0, 1) := by decide +kernel
theorem dL_tick_3 : decode cL_tick 3 = .ok (.iload_n 1, 1) := by decide +kernel
theorem dL_tick_4 : decode cL_tick 4 = .ok (.iload_n 2, 1) := by decide +kernel
theorem dL_tick_5 : decode cL_tick 5 = .ok (.invokevirtual 31, 3) := by decide +kernel
theorem dL_tick_8 : decode cL_tick 8 = .ok (.i2l, 1) := by decide +kernel
theorem dL_tick_9 : decode cL_tick 9 = .ok (.lastore, 1) := by decide +kernel
theorem dL_tick_10 : decode cL_tick 10 = .ok (.goto 7, 3) := by decide +kernel
theorem dL_tick_13 : decode cL_tick 13 = .ok (.astore 4, 2) := by decide +kernel
theorem dL_tick_15 : decode cL_tick 15 = .ok (.iconst 1, 1) := by decide +kernel
theorem dL_tick_16 : decode cL_tick 16 = .ok (.ireturn, 1) := by decide +kernel
theorem dL_tick_17 : decode cL_tick 17 = .ok (.iconst 0, 1) := by decide +kernel
theorem dL_tick_18 : decode cL_tick 18 = .ok (.ireturn, 1) := by decide +kernel
theorem dL_deliver_0 : decode cL_deliver 0 = .ok (.aload_n 2, 1) := by decide +kernel
theorem dL_deliver_1 : decode cL_deliver 1 = .ok (.iconst 0, 1) := by decide +kernel
theorem dL_deliver_2 : decode cL_deliver 2 = .ok (.aload_n 0, 1) := by decide +kernel
theorem dL_deliver_3 : decode cL_deliver 3 = .ok (.iload_n 1, 1) := by decide +kernel
theorem dL_deliver_4 : decode cL_deliver 4 = .ok (.invokevirtual 35, 3) := by decide +kernel
theorem dL_deliver_7 : decode cL_deliver 7 = .ok (.ifCond .eq 7, 3) := by decide +kernel
theorem dL_deliver_10 : decode cL_deliver 10 = .ok (.lconst 1, 1) := by decide +kernel
theorem dL_deliver_11 : decode cL_deliver 11 = .ok (.goto 4, 3) := by decide +kernel
theorem dL_deliver_14 : decode cL_deliver 14 = .ok (.lconst 0, 1) := by decide +kernel
theorem dL_deliver_15 : decode cL_deliver 15 = .ok (.lastore, 1) := by decide +kernel
theorem dL_deliver_16 : decode cL_deliver 16 = .ok (.goto 6, 3) := by decide +kernel
theorem dL_deliver_19 : decode cL_deliver 19 = .ok (.astore_n 3, 1) := by decide +kernel
theorem dL_deliver_20 : decode cL_deliver 20 = .ok (.iconst 1, 1) := by decide +kernel
theorem dL_deliver_21 : decode cL_deliver 21 = .ok (.ireturn, 1) := by decide +kernel
theorem dL_deliver_22 : decode cL_deliver 22 = .ok (.iconst 0, 1) := by decide +kernel
theorem dL_deliver_23 : decode cL_deliver 23 = .ok (.ireturn, 1) := by decide +kernel
theorem dL_lose_0 : decode cL_lose 0 = .ok (.aload_n 2, 1) := by decide +kernel
theorem dL_lose_1 : decode cL_lose 1 = .ok (.iconst 0, 1) := by decide +kernel
theorem dL_lose_2 : decode cL_lose 2 = .ok (.aload_n 0, 1) := by decide +kernel
theorem dL_lose_3 : decode cL_lose 3 = .ok (.iload_n 1, 1) := by decide +kernel
theorem dL_lose_4 : decode cL_lose 4 = .ok (.invokevirtual 39, 3) := by decide +kernel
theorem dL_lose_7 : decode cL_lose 7 = .ok (.i2l, 1) := by decide +kernel
theorem dL_lose_8 : decode cL_lose 8 = .ok (.lastore, 1) := by decide +kernel
theorem dL_lose_9 : decode cL_lose 9 = .ok (.goto 6, 3) := by decide +kernel
theorem dL_lose_12 : decode cL_lose 12 = .ok (.astore_n 3, 1) := by decide +kernel
theorem dL_lose_13 : decode cL_lose 13 = .ok (.iconst 1, 1) := by decide +kernel
theorem dL_lose_14 : decode cL_lose 14 = .ok (.ireturn, 1) := by decide +kernel
theorem dL_lose_15 : decode cL_lose 15 = .ok (.iconst 0, 1) := by decide +kernel
theorem dL_lose_16 : decode cL_lose 16 = .ok (.ireturn, 1) := by decide +kernel
theorem dL_twice_0 : decode cL_twice 0 = .ok (.aload_n 2, 1) := by decide +kernel
theorem dL_twice_1 : decode cL_twice 1 = .ok (.iconst 0, 1) := by decide +kernel
theorem dL_twice_2 : decode cL_twice 2 = .ok (.aload_n 0, 1) := by decide +kernel
theorem dL_twice_3 : decode cL_twice 3 = .ok (.iload_n 1, 1) := by decide +kernel
theorem dL_twice_4 : decode cL_twice 4 = .ok (.invokevirtual 42, 3) := by decide +kernel
theorem dL_twice_7 : decode cL_twice 7 = .ok (.i2l, 1) := by decide +kernel
theorem dL_twice_8 : decode cL_twice 8 = .ok (.lastore, 1) := by decide +kernel
theorem dL_twice_9 : decode cL_twice 9 = .ok (.goto 6, 3) := by decide +kernel
theorem dL_twice_12 : decode cL_twice 12 = .ok (.astore_n 3, 1) := by decide +kernel
theorem dL_twice_13 : decode cL_twice 13 = .ok (.iconst 1, 1) := by decide +kernel
theorem dL_twice_14 : decode cL_twice 14 = .ok (.ireturn, 1) := by decide +kernel
theorem dL_twice_15 : decode cL_twice 15 = .ok (.iconst 0, 1) := by decide +kernel
theorem dL_twice_16 : decode cL_twice 16 = .ok (.ireturn, 1) := by decide +kernel
theorem dL_poke_0 : decode cL_poke 0 = .ok (.aload 4, 2) := by decide +kernel
theorem dL_poke_2 : decode cL_poke 2 = .ok (.iconst 0, 1) := by decide +kernel
theorem dL_poke_3 : decode cL_poke 3 = .ok (.aload_n 0, 1) := by decide +kernel
theorem dL_poke_4 : decode cL_poke 4 = .ok (.iload_n 1, 1) := by decide +kernel
theorem dL_poke_5 : decode cL_poke 5 = .ok (.iload_n 2, 1) := by decide +kernel
theorem dL_poke_6 : decode cL_poke 6 = .ok (.iload_n 3, 1) := by decide +kernel
theorem dL_poke_7 : decode cL_poke 7 = .ok (.invokevirtual 45, 3) := by decide +kernel
theorem dL_poke_10 : decode cL_poke 10 = .ok (.i2l, 1) := by decide +kernel
theorem dL_poke_11 : decode cL_poke 11 = .ok (.lastore, 1) := by decide +kernel
theorem dL_poke_12 : decode cL_poke 12 = .ok (.goto 11, 3) := by decide +kernel
theorem dL_poke_15 : decode cL_poke 15 = .ok (.astore 5, 2) := by decide +kernel
theorem dL_poke_17 : decode cL_poke 17 = .ok (.iconst 1, 1) := by decide +kernel
theorem dL_poke_18 : decode cL_poke 18 = .ok (.ireturn, 1) := by decide +kernel
theorem dL_poke_19 : decode cL_poke 19 = .ok (.astore 5, 2) := by decide +kernel
theorem dL_poke_21 : decode cL_poke 21 = .ok (.iconst 2, 1) := by decide +kernel
theorem dL_poke_22 : decode cL_poke 22 = .ok (.ireturn, 1) := by decide +kernel
theorem dL_poke_23 : decode cL_poke 23 = .ok (.iconst 0, 1) := by decide +kernel
theorem dL_poke_24 : decode cL_poke 24 = .ok (.ireturn, 1) := by decide +kernel
theorem dL_cut_0 : decode cL_cut 0 = .ok (.aload_n 0, 1) := by decide +kernel
theorem dL_cut_1 : decode cL_cut 1 = .ok (.iload_n 1, 1) := by decide +kernel
theorem dL_cut_2 : decode cL_cut 2 = .ok (.iload_n 2, 1) := by decide +kernel
theorem dL_cut_3 : decode cL_cut 3 = .ok (.invokevirtual 48, 3) := by decide +kernel
theorem dL_cut_6 : decode cL_cut 6 = .ok (.goto 9, 3) := by decide +kernel
theorem dL_cut_9 : decode cL_cut 9 = .ok (.astore_n 3, 1) := by decide +kernel
theorem dL_cut_10 : decode cL_cut 10 = .ok (.iconst 1, 1) := by decide +kernel
theorem dL_cut_11 : decode cL_cut 11 = .ok (.ireturn, 1) := by decide +kernel
theorem dL_cut_12 : decode cL_cut 12 = .ok (.astore_n 3, 1) := by decide +kernel
theorem dL_cut_13 : decode cL_cut 13 = .ok (.iconst 2, 1) := by decide +kernel
theorem dL_cut_14 : decode cL_cut 14 = .ok (.ireturn, 1) := by decide +kernel
theorem dL_cut_15 : decode cL_cut 15 = .ok (.iconst 0, 1) := by decide +kernel
theorem dL_cut_16 : decode cL_cut 16 = .ok (.ireturn, 1) := by decide +kernel
theorem dL_packet_0 : decode cL_packet 0 = .ok (.aload_n 3, 1) := by decide +kernel
theorem dL_packet_1 : decode cL_packet 1 = .ok (.iconst 0, 1) := by decide +kernel
theorem dL_packet_2 : decode cL_packet 2 = .ok (.aload_n 0, 1) := by decide +kernel
theorem dL_packet_3 : decode cL_packet 3 = .ok (.iload_n 1, 1) := by decide +kernel
theorem dL_packet_4 : decode cL_packet 4 = .ok (.iload_n 2, 1) := by decide +kernel
theorem dL_packet_5 : decode cL_packet 5 = .ok (.invokevirtual 52, 3) := by decide +kernel
theorem dL_packet_8 : decode cL_packet 8 = .ok (.i2l, 1) := by decide +kernel
theorem dL_packet_9 : decode cL_packet 9 = .ok (.lastore, 1) := by decide +kernel
theorem dL_packet_10 : decode cL_packet 10 = .ok (.goto 7, 3) := by decide +kernel
theorem dL_packet_13 : decode cL_packet 13 = .ok (.astore 4, 2) := by decide +kernel
theorem dL_packet_15 : decode cL_packet 15 = .ok (.iconst 1, 1) := by decide +kernel
theorem dL_packet_16 : decode cL_packet 16 = .ok (.ireturn, 1) := by decide +kernel
theorem dL_packet_17 : decode cL_packet 17 = .ok (.iconst 0, 1) := by decide +kernel
theorem dL_packet_18 : decode cL_packet 18 = .ok (.ireturn, 1) := by decide +kernel
theorem dL_route_0 : decode cL_route 0 = .ok (.aload 4, 2) := by decide +kernel
theorem dL_route_2 : decode cL_route 2 = .ok (.iconst 0, 1) := by decide +kernel
theorem dL_route_3 : decode cL_route 3 = .ok (.aload_n 0, 1) := by decide +kernel
theorem dL_route_4 : decode cL_route 4 = .ok (.iload_n 1, 1) := by decide +kernel
theorem dL_route_5 : decode cL_route 5 = .ok (.iload_n 2, 1) := by decide +kernel
theorem dL_route_6 : decode cL_route 6 = .ok (.iload_n 3, 1) := by decide +kernel
theorem dL_route_7 : decode cL_route 7 = .ok (.invokevirtual 55, 3) := by decide +kernel
theorem dL_route_10 : decode cL_route 10 = .ok (.i2l, 1) := by decide +kernel
theorem dL_route_11 : decode cL_route 11 = .ok (.lastore, 1) := by decide +kernel
theorem dL_route_12 : decode cL_route 12 = .ok (.goto 7, 3) := by decide +kernel
theorem dL_route_15 : decode cL_route 15 = .ok (.astore 5, 2) := by decide +kernel
theorem dL_route_17 : decode cL_route 17 = .ok (.iconst 1, 1) := by decide +kernel
theorem dL_route_18 : decode cL_route 18 = .ok (.ireturn, 1) := by decide +kernel
theorem dL_route_19 : decode cL_route 19 = .ok (.iconst 0, 1) := by decide +kernel
theorem dL_route_20 : decode cL_route 20 = .ok (.ireturn, 1) := by decide +kernel
theorem dL_send_0 : decode cL_send 0 = .ok (.aload_n 3, 1) := by decide +kernel
theorem dL_send_1 : decode cL_send 1 = .ok (.iconst 0, 1) := by decide +kernel
theorem dL_send_2 : decode cL_send 2 = .ok (.aload_n 0, 1) := by decide +kernel
theorem dL_send_3 : decode cL_send 3 = .ok (.iload_n 1, 1) := by decide +kernel
theorem dL_send_4 : decode cL_send 4 = .ok (.iload_n 2, 1) := by decide +kernel
theorem dL_send_5 : decode cL_send 5 = .ok (.invokevirtual 58, 3) := by decide +kernel
theorem dL_send_8 : decode cL_send 8 = .ok (.i2l, 1) := by decide +kernel
theorem dL_send_9 : decode cL_send 9 = .ok (.lastore, 1) := by decide +kernel
theorem dL_send_10 : decode cL_send 10 = .ok (.goto 7, 3) := by decide +kernel
theorem dL_send_13 : decode cL_send 13 = .ok (.astore 4, 2) := by decide +kernel
theorem dL_send_15 : decode cL_send 15 = .ok (.iconst 1, 1) := by decide +kernel
theorem dL_send_16 : decode cL_send 16 = .ok (.ireturn, 1) := by decide +kernel
theorem dL_send_17 : decode cL_send 17 = .ok (.iconst 0, 1) := by decide +kernel
theorem dL_send_18 : decode cL_send 18 = .ok (.ireturn, 1) := by decide +kernel
theorem dL_count_0 : decode cL_count 0 = .ok (.aload_n 2, 1) := by decide +kernel
theorem dL_count_1 : decode cL_count 1 = .ok (.iconst 0, 1) := by decide +kernel
theorem dL_count_2 : decode cL_count 2 = .ok (.aload_n 0, 1) := by decide +kernel
theorem dL_count_3 : decode cL_count 3 = .ok (.iload_n 1, 1) := by decide +kernel
theorem dL_count_4 : decode cL_count 4 = .ok (.invokevirtual 61, 3) := by decide +kernel
theorem dL_count_7 : decode cL_count 7 = .ok (.i2l, 1) := by decide +kernel
theorem dL_count_8 : decode cL_count 8 = .ok (.lastore, 1) := by decide +kernel
theorem dL_count_9 : decode cL_count 9 = .ok (.goto 6, 3) := by decide +kernel
theorem dL_count_12 : decode cL_count 12 = .ok (.astore_n 3, 1) := by decide +kernel
theorem dL_count_13 : decode cL_count 13 = .ok (.iconst 1, 1) := by decide +kernel
theorem dL_count_14 : decode cL_count 14 = .ok (.ireturn, 1) := by decide +kernel
theorem dL_count_15 : decode cL_count 15 = .ok (.iconst 0, 1) := by decide +kernel
theorem dL_count_16 : decode cL_count 16 = .ok (.ireturn, 1) := by decide +kernel
theorem dL_law_0 : decode cL_law 0 = .ok (.new 8, 3) := by decide +kernel
theorem dL_law_3 : decode cL_law 3 = .ok (.dup, 1) := by decide +kernel
theorem dL_law_4 : decode cL_law 4 = .ok (.invokespecial 64, 3) := by decide +kernel
theorem dL_law_7 : decode cL_law 7 = .ok (.astore_n 1, 1) := by decide +kernel
theorem dL_law_8 : decode cL_law 8 = .ok (.new 65, 3) := by decide +kernel
theorem dL_law_11 : decode cL_law 11 = .ok (.dup, 1) := by decide +kernel
theorem dL_law_12 : decode cL_law 12 = .ok (.invokespecial 67, 3) := by decide +kernel
theorem dL_law_15 : decode cL_law 15 = .ok (.astore_n 2, 1) := by decide +kernel
theorem dL_law_16 : decode cL_law 16 = .ok (.iconst 1, 1) := by decide +kernel
theorem dL_law_17 : decode cL_law 17 = .ok (.newarray .long, 2) := by decide +kernel
theorem dL_law_19 : decode cL_law 19 = .ok (.astore_n 3, 1) := by decide +kernel
theorem dL_law_20 : decode cL_law 20 = .ok (.iconst 0, 1) := by decide +kernel
theorem dL_law_21 : decode cL_law 21 = .ok (.istore 4, 2) := by decide +kernel
theorem dL_law_23 : decode cL_law 23 = .ok (.iload 4, 2) := by decide +kernel
theorem dL_law_25 : decode cL_law 25 = .ok (.aload_n 0, 1) := by decide +kernel
theorem dL_law_26 : decode cL_law 26 = .ok (.arraylength, 1) := by decide +kernel
theorem dL_law_27 : decode cL_law 27 = .ok (.iconst 4, 1) := by decide +kernel
theorem dL_law_28 : decode cL_law 28 = .ok (.isub, 1) := by decide +kernel
theorem dL_law_29 : decode cL_law 29 = .ok (.if_icmp .gt 1051, 3) := by decide +kernel
theorem dL_law_32 : decode cL_law 32 = .ok (.aload_n 0, 1) := by decide +kernel
theorem dL_law_33 : decode cL_law 33 = .ok (.iload 4, 2) := by decide +kernel
theorem dL_law_35 : decode cL_law 35 = .ok (.iaload, 1) := by decide +kernel
theorem dL_law_36 : decode cL_law 36 = .ok (.bipush 15, 2) := by decide +kernel
theorem dL_law_38 : decode cL_law 38 = .ok (.iand, 1) := by decide +kernel
theorem dL_law_39 : decode cL_law 39 = .ok (.tableswitch 1035 0 13 #[69, 172, 240, 296, 376, 460, 523, 579, 635, 715, 763, 831, 911, 979], 69) := by decide +kernel
theorem dL_law_108 : decode cL_law 108 = .ok (.aload_n 1, 1) := by decide +kernel
theorem dL_law_109 : decode cL_law 109 = .ok (.aload_n 0, 1) := by decide +kernel
theorem dL_law_110 : decode cL_law 110 = .ok (.iload 4, 2) := by decide +kernel
theorem dL_law_112 : decode cL_law 112 = .ok (.iconst 1, 1) := by decide +kernel
theorem dL_law_113 : decode cL_law 113 = .ok (.iadd, 1) := by decide +kernel
theorem dL_law_114 : decode cL_law 114 = .ok (.iaload, 1) := by decide +kernel
theorem dL_law_115 : decode cL_law 115 = .ok (.aload_n 0, 1) := by decide +kernel
theorem dL_law_116 : decode cL_law 116 = .ok (.iload 4, 2) := by decide +kernel
theorem dL_law_118 : decode cL_law 118 = .ok (.iconst 2, 1) := by decide +kernel
theorem dL_law_119 : decode cL_law 119 = .ok (.iadd, 1) := by decide +kernel
theorem dL_law_120 : decode cL_law 120 = .ok (.iaload, 1) := by decide +kernel
theorem dL_law_121 : decode cL_law 121 = .ok (.aload_n 0, 1) := by decide +kernel
theorem dL_law_122 : decode cL_law 122 = .ok (.iload 4, 2) := by decide +kernel
theorem dL_law_124 : decode cL_law 124 = .ok (.iconst 3, 1) := by decide +kernel
theorem dL_law_125 : decode cL_law 125 = .ok (.iadd, 1) := by decide +kernel
theorem dL_law_126 : decode cL_law 126 = .ok (.iaload, 1) := by decide +kernel
theorem dL_law_127 : decode cL_law 127 = .ok (.ifCond .eq 7, 3) := by decide +kernel
theorem dL_law_130 : decode cL_law 130 = .ok (.iconst 1, 1) := by decide +kernel
theorem dL_law_131 : decode cL_law 131 = .ok (.goto 4, 3) := by decide +kernel
theorem dL_law_134 : decode cL_law 134 = .ok (.iconst 0, 1) := by decide +kernel
theorem dL_law_135 : decode cL_law 135 = .ok (.aload_n 3, 1) := by decide +kernel
theorem dL_law_136 : decode cL_law 136 = .ok (.invokestatic 68, 3) := by decide +kernel
theorem dL_law_139 : decode cL_law 139 = .ok (.istore 5, 2) := by decide +kernel
theorem dL_law_141 : decode cL_law 141 = .ok (.aload_n 2, 1) := by decide +kernel
theorem dL_law_142 : decode cL_law 142 = .ok (.aload_n 0, 1) := by decide +kernel
theorem dL_law_143 : decode cL_law 143 = .ok (.iload 4, 2) := by decide +kernel
theorem dL_law_145 : decode cL_law 145 = .ok (.iconst 1, 1) := by decide +kernel
theorem dL_law_146 : decode cL_law 146 = .ok (.iadd, 1) := by decide +kernel
theorem dL_law_147 : decode cL_law 147 = .ok (.iaload, 1) := by decide +kernel
theorem dL_law_148 : decode cL_law 148 = .ok (.aload_n 0, 1) := by decide +kernel
theorem dL_law_149 : decode cL_law 149 = .ok (.iload 4, 2) := by decide +kernel
theorem dL_law_151 : decode cL_law 151 = .ok (.iconst 2, 1) := by decide +kernel
theorem dL_law_152 : decode cL_law 152 = .ok (.iadd, 1) := by decide +kernel
theorem dL_law_153 : decode cL_law 153 = .ok (.iaload, 1) := by decide +kernel
theorem dL_law_154 : decode cL_law 154 = .ok (.aload_n 0, 1) := by decide +kernel
theorem dL_law_155 : decode cL_law 155 = .ok (.iload 4, 2) := by decide +kernel
theorem dL_law_157 : decode cL_law 157 = .ok (.iconst 3, 1) := by decide +kernel
theorem dL_law_158 : decode cL_law 158 = .ok (.iadd, 1) := by decide +kernel
theorem dL_law_159 : decode cL_law 159 = .ok (.iaload, 1) := by decide +kernel
theorem dL_law_160 : decode cL_law 160 = .ok (.ifCond .eq 7, 3) := by decide +kernel
theorem dL_law_163 : decode cL_law 163 = .ok (.iconst 1, 1) := by decide +kernel
theorem dL_law_164 : decode cL_law 164 = .ok (.goto 4, 3) := by decide +kernel
theorem dL_law_167 : decode cL_law 167 = .ok (.iconst 0, 1) := by decide +kernel
theorem dL_law_168 : decode cL_law 168 = .ok (.invokevirtual 73, 3) := by decide +kernel
theorem dL_law_171 : decode cL_law 171 = .ok (.istore 6, 2) := by decide +kernel
theorem dL_law_173 : decode cL_law 173 = .ok (.aload_n 2, 1) := by decide +kernel
theorem dL_law_174 : decode cL_law 174 = .ok (.invokevirtual 74, 3) := by decide +kernel
theorem dL_law_177 : decode cL_law 177 = .ok (.iload 5, 2) := by decide +kernel
theorem dL_law_179 : decode cL_law 179 = .ok (.if_icmp .eq 5, 3) := by decide +kernel
theorem dL_law_182 : decode cL_law 182 = .ok (.iconst 0, 1) := by decide +kernel
theorem dL_law_183 : decode cL_law 183 = .ok (.ireturn, 1) := by decide +kernel
theorem dL_law_184 : decode cL_law 184 = .ok (.iload 5, 2) := by decide +kernel
theorem dL_law_186 : decode cL_law 186 = .ok (.ifCond .ne 22, 3) := by decide +kernel
theorem dL_law_189 : decode cL_law 189 = .ok (.aload_n 3, 1) := by decide +kernel
theorem dL_law_190 : decode cL_law 190 = .ok (.iconst 0, 1) := by decide +kernel
theorem dL_law_191 : decode cL_law 191 = .ok (.laload, 1) := by decide +kernel
theorem dL_law_192 : decode cL_law 192 = .ok (.iload 6, 2) := by decide +kernel
theorem dL_law_194 : decode cL_law 194 = .ok (.ifCond .eq 7, 3) := by decide +kernel
theorem dL_law_197 : decode cL_law 197 = .ok (.lconst 1, 1) := by decide +kernel
theorem dL_law_198 : decode cL_law 198 = .ok (.goto 4, 3) := by decide +kernel
theorem dL_law_201 : decode cL_law 201 = .ok (.lconst 0, 1) := by decide +kernel
theorem dL_law_202 : decode cL_law 202 = .ok (.lcmp, 1) := by decide +kernel
theorem dL_law_203 : decode cL_law 203 = .ok (.ifCond .eq 5, 3) := by decide +kernel
theorem dL_law_206 : decode cL_law 206 = .ok (.iconst 0, 1) := by decide +kernel
theorem dL_law_207 : decode cL_law 207 = .ok (.ireturn, 1) := by decide +kernel
theorem dL_law_208 : decode cL_law 208 = .ok (.goto 866, 3) := by decide +kernel
theorem dL_law_211 : decode cL_law 211 = .ok (.aload_n 1, 1) := by decide +kernel
theorem dL_law_212 : decode cL_law 212 = .ok (.aload_n 0, 1) := by decide +kernel
theorem dL_law_213 : decode cL_law 213 = .ok (.iload 4, 2) := by decide +kernel
theorem dL_law_215 : decode cL_law 215 = .ok (.iconst 1, 1) := by decide +kernel
theorem dL_law_216 : decode cL_law 216 = .ok (.iadd, 1) := by decide +kernel
theorem dL_law_217 : decode cL_law 217 = .ok (.iaload, 1) := by decide +kernel
theorem dL_law_218 : decode cL_law 218 = .ok (.aload_n 0, 1) := by decide +kernel
theorem dL_law_219 : decode cL_law 219 = .ok (.iload 4, 2) := by decide +kernel
theorem dL_law_221 : decode cL_law 221 = .ok (.iconst 2, 1) := by decide +kernel
theorem dL_law_222 : decode cL_law 222 = .ok (.iadd, 1) := by decide +kernel
theorem dL_law_223 : decode cL_law 223 = .ok (.iaload, 1) := by decide +kernel
theorem dL_law_224 : decode cL_law 224 = .ok (.aload_n 3, 1) := by decide +kernel
theorem dL_law_225 : decode cL_law 225 = .ok (.invokestatic 78, 3) := by decide +kernel
theorem dL_law_228 : decode cL_law 228 = .ok (.istore 5, 2) := by decide +kernel
theorem dL_law_230 : decode cL_law 230 = .ok (.aload_n 2, 1) := by decide +kernel
theorem dL_law_231 : decode cL_law 231 = .ok (.aload_n 0, 1) := by decide +kernel
theorem dL_law_232 : decode cL_law 232 = .ok (.iload 4, 2) := by decide +kernel
theorem dL_law_234 : decode cL_law 234 = .ok (.iconst 1, 1) := by decide +kernel
theorem dL_law_235 : decode cL_law 235 = .ok (.iadd, 1) := by decide +kernel
theorem dL_law_236 : decode cL_law 236 = .ok (.iaload, 1) := by decide +kernel
theorem dL_law_237 : decode cL_law 237 = .ok (.aload_n 0, 1) := by decide +kernel
theorem dL_law_238 : decode cL_law 238 = .ok (.iload 4, 2) := by decide +kernel
theorem dL_law_240 : decode cL_law 240 = .ok (.iconst 2, 1) := by decide +kernel
theorem dL_law_241 : decode cL_law 241 = .ok (.iadd, 1) := by decide +kernel
theorem dL_law_242 : decode cL_law 242 = .ok (.iaload, 1) := by decide +kernel
theorem dL_law_243 : decode cL_law 243 = .ok (.invokevirtual 81, 3) := by decide +kernel
theorem dL_law_246 : decode cL_law 246 = .ok (.istore 6, 2) := by decide +kernel
theorem dL_law_248 : decode cL_law 248 = .ok (.aload_n 2, 1) := by decide +kernel
theorem dL_law_249 : decode cL_law 249 = .ok (.invokevirtual 74, 3) := by decide +kernel
theorem dL_law_252 : decode cL_law 252 = .ok (.iload 5, 2) := by decide +kernel
theorem dL_law_254 : decode cL_law 254 = .ok (.if_icmp .eq 5, 3) := by decide +kernel
theorem dL_law_257 : decode cL_law 257 = .ok (.iconst 0, 1) := by decide +kernel
theorem dL_law_258 : decode cL_law 258 = .ok (.ireturn, 1) := by decide +kernel
theorem dL_law_259 : decode cL_law 259 = .ok (.iload 5, 2) := by decide +kernel
theorem dL_law_261 : decode cL_law 261 = .ok (.ifCond .ne 15, 3) := by decide +kernel
theorem dL_law_264 : decode cL_law 264 = .ok (.aload_n 3, 1) := by decide +kernel
theorem dL_law_265 : decode cL_law 265 = .ok (.iconst 0, 1) := by decide +kernel
theorem dL_law_266 : decode cL_law 266 = .ok (.laload, 1) := by decide +kernel
theorem dL_law_267 : decode cL_law 267 = .ok (.iload 6, 2) := by decide +kernel
theorem dL_law_269 : decode cL_law 269 = .ok (.i2l, 1) := by decide +kernel
theorem dL_law_270 : decode cL_law 270 = .ok (.lcmp, 1) := by decide +kernel
theorem dL_law_271 : decode cL_law 271 = .ok (.ifCond .eq 5, 3) := by decide +kernel
theorem dL_law_274 : decode cL_law 274 = .ok (.iconst 0, 1) := by decide +kernel
theorem dL_law_275 : decode cL_law 275 = .ok (.ireturn, 1) := by decide +kernel
theorem dL_law_276 : decode cL_law 276 = .ok (.goto 798, 3) := by decide +kernel
theorem dL_law_279 : decode cL_law 279 = .ok (.aload_n 1, 1) := by decide +kernel
theorem dL_law_280 : decode cL_law 280 = .ok (.aload_n 0, 1) := by decide +kernel
theorem dL_law_281 : decode cL_law 281 = .ok (.iload 4, 2) := by decide +kernel
theorem dL_law_283 : decode cL_law 283 = .ok (.iconst 1, 1) := by decide +kernel
theorem dL_law_284 : decode cL_law 284 = .ok (.iadd, 1) := by decide +kernel
theorem dL_law_285 : decode cL_law 285 = .ok (.iaload, 1) := by decide +kernel
theorem dL_law_286 : decode cL_law 286 = .ok (.aload_n 3, 1) := by decide +kernel
theorem dL_law_287 : decode cL_law 287 = .ok (.invokestatic 82, 3) := by decide +kernel
theorem dL_law_290 : decode cL_law 290 = .ok (.istore 5, 2) := by decide +kernel
theorem dL_law_292 : decode cL_law 292 = .ok (.aload_n 2, 1) := by decide +kernel
theorem dL_law_293 : decode cL_law 293 = .ok (.aload_n 0, 1) := by decide +kernel
theorem dL_law_294 : decode cL_law 294 = .ok (.iload 4, 2) := by decide +kernel
theorem dL_law_296 : decode cL_law 296 = .ok (.iconst 1, 1) := by decide +kernel
theorem dL_law_297 : decode cL_law 297 = .ok (.iadd, 1) := by decide +kernel
theorem dL_law_298 : decode cL_law 298 = .ok (.iaload, 1) := by decide +kernel
theorem dL_law_299 : decode cL_law 299 = .ok (.invokevirtual 85, 3) := by decide +kernel
theorem dL_law_302 : decode cL_law 302 = .ok (.istore 6, 2) := by decide +kernel
theorem dL_law_304 : decode cL_law 304 = .ok (.aload_n 2, 1) := by decide +kernel
theorem dL_law_305 : decode cL_law 305 = .ok (.invokevirtual 74, 3) := by decide +kernel
theorem dL_law_308 : decode cL_law 308 = .ok (.iload 5, 2) := by decide +kernel
theorem dL_law_310 : decode cL_law 310 = .ok (.if_icmp .eq 5, 3) := by decide +kernel
theorem dL_law_313 : decode cL_law 313 = .ok (.iconst 0, 1) := by decide +kernel
theorem dL_law_314 : decode cL_law 314 = .ok (.ireturn, 1) := by decide +kernel
theorem dL_law_315 : decode cL_law 315 = .ok (.iload 5, 2) := by decide +kernel
theorem dL_law_317 : decode cL_law 317 = .ok (.ifCond .ne 15, 3) := by decide +kernel
theorem dL_law_320 : decode cL_law 320 = .ok (.aload_n 3, 1) := by decide +kernel
theorem dL_law_321 : decode cL_law 321 = .ok (.iconst 0, 1) := by decide +kernel
theorem dL_law_322 : decode cL_law 322 = .ok (.laload, 1) := by decide +kernel
theorem dL_law_323 : decode cL_law 323 = .ok (.iload 6, 2) := by decide +kernel
theorem dL_law_325 : decode cL_law 325 = .ok (.i2l, 1) := by decide +kernel
theorem dL_law_326 : decode cL_law 326 = .ok (.lcmp, 1) := by decide +kernel
theorem dL_law_327 : decode cL_law 327 = .ok (.ifCond .eq 5, 3) := by decide +kernel
theorem dL_law_330 : decode cL_law 330 = .ok (.iconst 0, 1) := by decide +kernel
theorem dL_law_331 : decode cL_law 331 = .ok (.ireturn, 1) := by decide +kernel
theorem dL_law_332 : decode cL_law 332 = .ok (.goto 742, 3) := by decide +kernel
theorem dL_law_335 : decode cL_law 335 = .ok (.aload_n 1, 1) := by decide +kernel
theorem dL_law_336 : decode cL_law 336 = .ok (.aload_n 0, 1) := by decide +kernel
theorem dL_law_337 : decode cL_law 337 = .ok (.iload 4, 2) := by decide +kernel
theorem dL_law_339 : decode cL_law 339 = .ok (.iconst 1, 1) := by decide +kernel
theorem dL_law_340 : decode cL_law 340 = .ok (.iadd, 1) := by decide +kernel
theorem dL_law_341 : decode cL_law 341 = .ok (.iaload, 1) := by decide +kernel
theorem dL_law_342 : decode cL_law 342 = .ok (.aload_n 0, 1) := by decide +kernel
theorem dL_law_343 : decode cL_law 343 = .ok (.iload 4, 2) := by decide +kernel
theorem dL_law_345 : decode cL_law 345 = .ok (.iconst 2, 1) := by decide +kernel
theorem dL_law_346 : decode cL_law 346 = .ok (.iadd, 1) := by decide +kernel
theorem dL_law_347 : decode cL_law 347 = .ok (.iaload, 1) := by decide +kernel
theorem dL_law_348 : decode cL_law 348 = .ok (.aload_n 0, 1) := by decide +kernel
theorem dL_law_349 : decode cL_law 349 = .ok (.iload 4, 2) := by decide +kernel
theorem dL_law_351 : decode cL_law 351 = .ok (.iconst 3, 1) := by decide +kernel
theorem dL_law_352 : decode cL_law 352 = .ok (.iadd, 1) := by decide +kernel
theorem dL_law_353 : decode cL_law 353 = .ok (.iaload, 1) := by decide +kernel
theorem dL_law_354 : decode cL_law 354 = .ok (.aload_n 3, 1) := by decide +kernel
theorem dL_law_355 : decode cL_law 355 = .ok (.invokestatic 86, 3) := by decide +kernel
theorem dL_law_358 : decode cL_law 358 = .ok (.istore 5, 2) := by decide +kernel
theorem dL_law_360 : decode cL_law 360 = .ok (.aload_n 2, 1) := by decide +kernel
theorem dL_law_361 : decode cL_law 361 = .ok (.aload_n 0, 1) := by decide +kernel
theorem dL_law_362 : decode cL_law 362 = .ok (.iload 4, 2) := by decide +kernel
theorem dL_law_364 : decode cL_law 364 = .ok (.iconst 1, 1) := by decide +kernel
theorem dL_law_365 : decode cL_law 365 = .ok (.iadd, 1) := by decide +kernel
theorem dL_law_366 : decode cL_law 366 = .ok (.iaload, 1) := by decide +kernel
theorem dL_law_367 : decode cL_law 367 = .ok (.aload_n 0, 1) := by decide +kernel
theorem dL_law_368 : decode cL_law 368 = .ok (.iload 4, 2) := by decide +kernel
theorem dL_law_370 : decode cL_law 370 = .ok (.iconst 2, 1) := by decide +kernel
theorem dL_law_371 : decode cL_law 371 = .ok (.iadd, 1) := by decide +kernel
theorem dL_law_372 : decode cL_law 372 = .ok (.iaload, 1) := by decide +kernel
theorem dL_law_373 : decode cL_law 373 = .ok (.aload_n 0, 1) := by decide +kernel
theorem dL_law_374 : decode cL_law 374 = .ok (.iload 4, 2) := by decide +kernel
theorem dL_law_376 : decode cL_law 376 = .ok (.iconst 3, 1) := by decide +kernel
theorem dL_law_377 : decode cL_law 377 = .ok (.iadd, 1) := by decide +kernel
theorem dL_law_378 : decode cL_law 378 = .ok (.iaload, 1) := by decide +kernel
theorem dL_law_379 : decode cL_law 379 = .ok (.invokevirtual 89, 3) := by decide +kernel
theorem dL_law_382 : decode cL_law 382 = .ok (.istore 6, 2) := by decide +kernel
theorem dL_law_384 : decode cL_law 384 = .ok (.aload_n 2, 1) := by decide +kernel
theorem dL_law_385 : decode cL_law 385 = .ok (.invokevirtual 74, 3) := by decide +kernel
theorem dL_law_388 : decode cL_law 388 = .ok (.iload 5, 2) := by decide +kernel
theorem dL_law_390 : decode cL_law 390 = .ok (.if_icmp .eq 5, 3) := by decide +kernel
theorem dL_law_393 : decode cL_law 393 = .ok (.iconst 0, 1) := by decide +kernel
theorem dL_law_394 : decode cL_law 394 = .ok (.ireturn, 1) := by decide +kernel
theorem dL_law_395 : decode cL_law 395 = .ok (.iload 5, 2) := by decide +kernel
theorem dL_law_397 : decode cL_law 397 = .ok (.ifCond .ne 15, 3) := by decide +kernel
theorem dL_law_400 : decode cL_law 400 = .ok (.aload_n 3, 1) := by decide +kernel
theorem dL_law_401 : decode cL_law 401 = .ok (.iconst 0, 1) := by decide +kernel
theorem dL_law_402 : decode cL_law 402 = .ok (.laload, 1) := by decide +kernel
theorem dL_law_403 : decode cL_law 403 = .ok (.iload 6, 2) := by decide +kernel
theorem dL_law_405 : decode cL_law 405 = .ok (.i2l, 1) := by decide +kernel
theorem dL_law_406 : decode cL_law 406 = .ok (.lcmp, 1) := by decide +kernel
theorem dL_law_407 : decode cL_law 407 = .ok (.ifCond .eq 5, 3) := by decide +kernel
theorem dL_law_410 : decode cL_law 410 = .ok (.iconst 0, 1) := by decide +kernel
theorem dL_law_411 : decode cL_law 411 = .ok (.ireturn, 1) := by decide +kernel
theorem dL_law_412 : decode cL_law 412 = .ok (.goto 662, 3) := by decide +kernel
theorem dL_law_415 : decode cL_law 415 = .ok (.aload_n 1, 1) := by decide +kernel
theorem dL_law_416 : decode cL_law 416 = .ok (.aload_n 0, 1) := by decide +kernel
theorem dL_law_417 : decode cL_law 417 = .ok (.iload 4, 2) := by decide +kernel
theorem dL_law_419 : decode cL_law 419 = .ok (.iconst 1, 1) := by decide +kernel
theorem dL_law_420 : decode cL_law 420 = .ok (.iadd, 1) := by decide +kernel
theorem dL_law_421 : decode cL_law 421 = .ok (.iaload, 1) := by decide +kernel
theorem dL_law_422 : decode cL_law 422 = .ok (.aload_n 0, 1) := by decide +kernel
theorem dL_law_423 : decode cL_law 423 = .ok (.iload 4, 2) := by decide +kernel
theorem dL_law_425 : decode cL_law 425 = .ok (.iconst 2, 1) := by decide +kernel
theorem dL_law_426 : decode cL_law 426 = .ok (.iadd, 1) := by decide +kernel
theorem dL_law_427 : decode cL_law 427 = .ok (.iaload, 1) := by decide +kernel
theorem dL_law_428 : decode cL_law 428 = .ok (.ifCond .eq 7, 3) := by decide +kernel
theorem dL_law_431 : decode cL_law 431 = .ok (.iconst 1, 1) := by decide +kernel
theorem dL_law_432 : decode cL_law 432 = .ok (.goto 4, 3) := by decide +kernel
theorem dL_law_435 : decode cL_law 435 = .ok (.iconst 0, 1) := by decide +kernel
theorem dL_law_436 : decode cL_law 436 = .ok (.aload_n 3, 1) := by decide +kernel
theorem dL_law_437 : decode cL_law 437 = .ok (.invokestatic 90, 3) := by decide +kernel
theorem dL_law_440 : decode cL_law 440 = .ok (.istore 5, 2) := by decide +kernel
theorem dL_law_442 : decode cL_law 442 = .ok (.aload_n 2, 1) := by decide +kernel
theorem dL_law_443 : decode cL_law 443 = .ok (.aload_n 0, 1) := by decide +kernel
theorem dL_law_444 : decode cL_law 444 = .ok (.iload 4, 2) := by decide +kernel
theorem dL_law_446 : decode cL_law 446 = .ok (.iconst 1, 1) := by decide +kernel
theorem dL_law_447 : decode cL_law 447 = .ok (.iadd, 1) := by decide +kernel
theorem dL_law_448 : decode cL_law 448 = .ok (.iaload, 1) := by decide +kernel
theorem dL_law_449 : decode cL_law 449 = .ok (.aload_n 0, 1) := by decide +kernel
theorem dL_law_450 : decode cL_law 450 = .ok (.iload 4, 2) := by decide +kernel
theorem dL_law_452 : decode cL_law 452 = .ok (.iconst 2, 1) := by decide +kernel
theorem dL_law_453 : decode cL_law 453 = .ok (.iadd, 1) := by decide +kernel
theorem dL_law_454 : decode cL_law 454 = .ok (.iaload, 1) := by decide +kernel
theorem dL_law_455 : decode cL_law 455 = .ok (.ifCond .eq 7, 3) := by decide +kernel
theorem dL_law_458 : decode cL_law 458 = .ok (.iconst 1, 1) := by decide +kernel
theorem dL_law_459 : decode cL_law 459 = .ok (.goto 4, 3) := by decide +kernel
theorem dL_law_462 : decode cL_law 462 = .ok (.iconst 0, 1) := by decide +kernel
theorem dL_law_463 : decode cL_law 463 = .ok (.invokevirtual 93, 3) := by decide +kernel
theorem dL_law_466 : decode cL_law 466 = .ok (.istore 6, 2) := by decide +kernel
theorem dL_law_468 : decode cL_law 468 = .ok (.aload_n 2, 1) := by decide +kernel
theorem dL_law_469 : decode cL_law 469 = .ok (.invokevirtual 74, 3) := by decide +kernel
theorem dL_law_472 : decode cL_law 472 = .ok (.iload 5, 2) := by decide +kernel
theorem dL_law_474 : decode cL_law 474 = .ok (.if_icmp .eq 5, 3) := by decide +kernel
theorem dL_law_477 : decode cL_law 477 = .ok (.iconst 0, 1) := by decide +kernel
theorem dL_law_478 : decode cL_law 478 = .ok (.ireturn, 1) := by decide +kernel
theorem dL_law_479 : decode cL_law 479 = .ok (.iload 5, 2) := by decide +kernel
theorem dL_law_481 : decode cL_law 481 = .ok (.ifCond .ne 15, 3) := by decide +kernel
theorem dL_law_484 : decode cL_law 484 = .ok (.aload_n 3, 1) := by decide +kernel
theorem dL_law_485 : decode cL_law 485 = .ok (.iconst 0, 1) := by decide +kernel
theorem dL_law_486 : decode cL_law 486 = .ok (.laload, 1) := by decide +kernel
theorem dL_law_487 : decode cL_law 487 = .ok (.iload 6, 2) := by decide +kernel
theorem dL_law_489 : decode cL_law 489 = .ok (.i2l, 1) := by decide +kernel
theorem dL_law_490 : decode cL_law 490 = .ok (.lcmp, 1) := by decide +kernel
theorem dL_law_491 : decode cL_law 491 = .ok (.ifCond .eq 5, 3) := by decide +kernel
theorem dL_law_494 : decode cL_law 494 = .ok (.iconst 0, 1) := by decide +kernel
theorem dL_law_495 : decode cL_law 495 = .ok (.ireturn, 1) := by decide +kernel
theorem dL_law_496 : decode cL_law 496 = .ok (.goto 578, 3) := by decide +kernel
theorem dL_law_499 : decode cL_law 499 = .ok (.aload_n 1, 1) := by decide +kernel
theorem dL_law_500 : decode cL_law 500 = .ok (.aload_n 0, 1) := by decide +kernel
theorem dL_law_501 : decode cL_law 501 = .ok (.iload 4, 2) := by decide +kernel
theorem dL_law_503 : decode cL_law 503 = .ok (.iconst 1, 1) := by decide +kernel
theorem dL_law_504 : decode cL_law 504 = .ok (.iadd, 1) := by decide +kernel
theorem dL_law_505 : decode cL_law 505 = .ok (.iaload, 1) := by decide +kernel
theorem dL_law_506 : decode cL_law 506 = .ok (.aload_n 3, 1) := by decide +kernel
theorem dL_law_507 : decode cL_law 507 = .ok (.invokestatic 94, 3) := by decide +kernel
theorem dL_law_510 : decode cL_law 510 = .ok (.istore 5, 2) := by decide +kernel
theorem dL_law_512 : decode cL_law 512 = .ok (.aload_n 2, 1) := by decide +kernel
theorem dL_law_513 : decode cL_law 513 = .ok (.aload_n 0, 1) := by decide +kernel
theorem dL_law_514 : decode cL_law 514 = .ok (.iload 4, 2) := by decide +kernel
theorem dL_law_516 : decode cL_law 516 = .ok (.iconst 1, 1) := by decide +kernel
theorem dL_law_517 : decode cL_law 517 = .ok (.iadd, 1) := by decide +kernel
theorem dL_law_518 : decode cL_law 518 = .ok (.iaload, 1) := by decide +kernel
theorem dL_law_519 : decode cL_law 519 = .ok (.invokevirtual 96, 3) := by decide +kernel
theorem dL_law_522 : decode cL_law 522 = .ok (.istore 6, 2) := by decide +kernel
theorem dL_law_524 : decode cL_law 524 = .ok (.aload_n 2, 1) := by decide +kernel
theorem dL_law_525 : decode cL_law 525 = .ok (.invokevirtual 74, 3) := by decide +kernel
theorem dL_law_528 : decode cL_law 528 = .ok (.iload 5, 2) := by decide +kernel
theorem dL_law_530 : decode cL_law 530 = .ok (.if_icmp .eq 5, 3) := by decide +kernel
theorem dL_law_533 : decode cL_law 533 = .ok (.iconst 0, 1) := by decide +kernel
theorem dL_law_534 : decode cL_law 534 = .ok (.ireturn, 1) := by decide +kernel
theorem dL_law_535 : decode cL_law 535 = .ok (.iload 5, 2) := by decide +kernel
theorem dL_law_537 : decode cL_law 537 = .ok (.ifCond .ne 22, 3) := by decide +kernel
theorem dL_law_540 : decode cL_law 540 = .ok (.aload_n 3, 1) := by decide +kernel
theorem dL_law_541 : decode cL_law 541 = .ok (.iconst 0, 1) := by decide +kernel
theorem dL_law_542 : decode cL_law 542 = .ok (.laload, 1) := by decide +kernel
theorem dL_law_543 : decode cL_law 543 = .ok (.iload 6, 2) := by decide +kernel
theorem dL_law_545 : decode cL_law 545 = .ok (.ifCond .eq 7, 3) := by decide +kernel
theorem dL_law_548 : decode cL_law 548 = .ok (.lconst 1, 1) := by decide +kernel
theorem dL_law_549 : decode cL_law 549 = .ok (.goto 4, 3) := by decide +kernel
theorem dL_law_552 : decode cL_law 552 = .ok (.lconst 0, 1) := by decide +kernel
theorem dL_law_553 : decode cL_law 553 = .ok (.lcmp, 1) := by decide +kernel
theorem dL_law_554 : decode cL_law 554 = .ok (.ifCond .eq 5, 3) := by decide +kernel
theorem dL_law_557 : decode cL_law 557 = .ok (.iconst 0, 1) := by decide +kernel
theorem dL_law_558 : decode cL_law 558 = .ok (.ireturn, 1) := by decide +kernel
theorem dL_law_559 : decode cL_law 559 = .ok (.goto 515, 3) := by decide +kernel
theorem dL_law_562 : decode cL_law 562 = .ok (.aload_n 1, 1) := by decide +kernel
theorem dL_law_563 : decode cL_law 563 = .ok (.aload_n 0, 1) := by decide +kernel
theorem dL_law_564 : decode cL_law 564 = .ok (.iload 4, 2) := by decide +kernel
theorem dL_law_566 : decode cL_law 566 = .ok (.iconst 1, 1) := by decide +kernel
theorem dL_law_567 : decode cL_law 567 = .ok (.iadd, 1) := by decide +kernel
theorem dL_law_568 : decode cL_law 568 = .ok (.iaload, 1) := by decide +kernel
theorem dL_law_569 : decode cL_law 569 = .ok (.aload_n 3, 1) := by decide +kernel
theorem dL_law_570 : decode cL_law 570 = .ok (.invokestatic 97, 3) := by decide +kernel
theorem dL_law_573 : decode cL_law 573 = .ok (.istore 5, 2) := by decide +kernel
theorem dL_law_575 : decode cL_law 575 = .ok (.aload_n 2, 1) := by decide +kernel
theorem dL_law_576 : decode cL_law 576 = .ok (.aload_n 0, 1) := by decide +kernel
theorem dL_law_577 : decode cL_law 577 = .ok (.iload 4, 2) := by decide +kernel
theorem dL_law_579 : decode cL_law 579 = .ok (.iconst 1, 1) := by decide +kernel
theorem dL_law_580 : decode cL_law 580 = .ok (.iadd, 1) := by decide +kernel
theorem dL_law_581 : decode cL_law 581 = .ok (.iaload, 1) := by decide +kernel
theorem dL_law_582 : decode cL_law 582 = .ok (.invokevirtual 99, 3) := by decide +kernel
theorem dL_law_585 : decode cL_law 585 = .ok (.istore 6, 2) := by decide +kernel
theorem dL_law_587 : decode cL_law 587 = .ok (.aload_n 2, 1) := by decide +kernel
theorem dL_law_588 : decode cL_law 588 = .ok (.invokevirtual 74, 3) := by decide +kernel
theorem dL_law_591 : decode cL_law 591 = .ok (.iload 5, 2) := by decide +kernel
theorem dL_law_593 : decode cL_law 593 = .ok (.if_icmp .eq 5, 3) := by decide +kernel
theorem dL_law_596 : decode cL_law 596 = .ok (.iconst 0, 1) := by decide +kernel
theorem dL_law_597 : decode cL_law 597 = .ok (.ireturn, 1) := by decide +kernel
theorem dL_law_598 : decode cL_law 598 = .ok (.iload 5, 2) := by decide +kernel
theorem dL_law_600 : decode cL_law 600 = .ok (.ifCond .ne 15, 3) := by decide +kernel
theorem dL_law_603 : decode cL_law 603 = .ok (.aload_n 3, 1) := by decide +kernel
theorem dL_law_604 : decode cL_law 604 = .ok (.iconst 0, 1) := by decide +kernel
theorem dL_law_605 : decode cL_law 605 = .ok (.laload, 1) := by decide +kernel
theorem dL_law_606 : decode cL_law 606 = .ok (.iload 6, 2) := by decide +kernel
theorem dL_law_608 : decode cL_law 608 = .ok (.i2l, 1) := by decide +kernel
theorem dL_law_609 : decode cL_law 609 = .ok (.lcmp, 1) := by decide +kernel
theorem dL_law_610 : decode cL_law 610 = .ok (.ifCond .eq 5, 3) := by decide +kernel
theorem dL_law_613 : decode cL_law 613 = .ok (.iconst 0, 1) := by decide +kernel
theorem dL_law_614 : decode cL_law 614 = .ok (.ireturn, 1) := by decide +kernel
theorem dL_law_615 : decode cL_law 615 = .ok (.goto 459, 3) := by decide +kernel
theorem dL_law_618 : decode cL_law 618 = .ok (.aload_n 1, 1) := by decide +kernel
theorem dL_law_619 : decode cL_law 619 = .ok (.aload_n 0, 1) := by decide +kernel
theorem dL_law_620 : decode cL_law 620 = .ok (.iload 4, 2) := by decide +kernel
theorem dL_law_622 : decode cL_law 622 = .ok (.iconst 1, 1) := by decide +kernel
theorem dL_law_623 : decode cL_law 623 = .ok (.iadd, 1) := by decide +kernel
theorem dL_law_624 : decode cL_law 624 = .ok (.iaload, 1) := by decide +kernel
theorem dL_law_625 : decode cL_law 625 = .ok (.aload_n 3, 1) := by decide +kernel
theorem dL_law_626 : decode cL_law 626 = .ok (.invokestatic 100, 3) := by decide +kernel
theorem dL_law_629 : decode cL_law 629 = .ok (.istore 5, 2) := by decide +kernel
theorem dL_law_631 : decode cL_law 631 = .ok (.aload_n 2, 1) := by decide +kernel
theorem dL_law_632 : decode cL_law 632 = .ok (.aload_n 0, 1) := by decide +kernel
theorem dL_law_633 : decode cL_law 633 = .ok (.iload 4, 2) := by decide +kernel
theorem dL_law_635 : decode cL_law 635 = .ok (.iconst 1, 1) := by decide +kernel
theorem dL_law_636 : decode cL_law 636 = .ok (.iadd, 1) := by decide +kernel
theorem dL_law_637 : decode cL_law 637 = .ok (.iaload, 1) := by decide +kernel
theorem dL_law_638 : decode cL_law 638 = .ok (.invokevirtual 102, 3) := by decide +kernel
theorem dL_law_641 : decode cL_law 641 = .ok (.istore 6, 2) := by decide +kernel
theorem dL_law_643 : decode cL_law 643 = .ok (.aload_n 2, 1) := by decide +kernel
theorem dL_law_644 : decode cL_law 644 = .ok (.invokevirtual 74, 3) := by decide +kernel
theorem dL_law_647 : decode cL_law 647 = .ok (.iload 5, 2) := by decide +kernel
theorem dL_law_649 : decode cL_law 649 = .ok (.if_icmp .eq 5, 3) := by decide +kernel
theorem dL_law_652 : decode cL_law 652 = .ok (.iconst 0, 1) := by decide +kernel
theorem dL_law_653 : decode cL_law 653 = .ok (.ireturn, 1) := by decide +kernel
theorem dL_law_654 : decode cL_law 654 = .ok (.iload 5, 2) := by decide +kernel
theorem dL_law_656 : decode cL_law 656 = .ok (.ifCond .ne 15, 3) := by decide +kernel
theorem dL_law_659 : decode cL_law 659 = .ok (.aload_n 3, 1) := by decide +kernel
theorem dL_law_660 : decode cL_law 660 = .ok (.iconst 0, 1) := by decide +kernel
theorem dL_law_661 : decode cL_law 661 = .ok (.laload, 1) := by decide +kernel
theorem dL_law_662 : decode cL_law 662 = .ok (.iload 6, 2) := by decide +kernel
theorem dL_law_664 : decode cL_law 664 = .ok (.i2l, 1) := by decide +kernel
theorem dL_law_665 : decode cL_law 665 = .ok (.lcmp, 1) := by decide +kernel
theorem dL_law_666 : decode cL_law 666 = .ok (.ifCond .eq 5, 3) := by decide +kernel
theorem dL_law_669 : decode cL_law 669 = .ok (.iconst 0, 1) := by decide +kernel
theorem dL_law_670 : decode cL_law 670 = .ok (.ireturn, 1) := by decide +kernel
theorem dL_law_671 : decode cL_law 671 = .ok (.goto 403, 3) := by decide +kernel
theorem dL_law_674 : decode cL_law 674 = .ok (.aload_n 1, 1) := by decide +kernel
theorem dL_law_675 : decode cL_law 675 = .ok (.aload_n 0, 1) := by decide +kernel
theorem dL_law_676 : decode cL_law 676 = .ok (.iload 4, 2) := by decide +kernel
theorem dL_law_678 : decode cL_law 678 = .ok (.iconst 1, 1) := by decide +kernel
theorem dL_law_679 : decode cL_law 679 = .ok (.iadd, 1) := by decide +kernel
theorem dL_law_680 : decode cL_law 680 = .ok (.iaload, 1) := by decide +kernel
theorem dL_law_681 : decode cL_law 681 = .ok (.aload_n 0, 1) := by decide +kernel
theorem dL_law_682 : decode cL_law 682 = .ok (.iload 4, 2) := by decide +kernel
theorem dL_law_684 : decode cL_law 684 = .ok (.iconst 2, 1) := by decide +kernel
theorem dL_law_685 : decode cL_law 685 = .ok (.iadd, 1) := by decide +kernel
theorem dL_law_686 : decode cL_law 686 = .ok (.iaload, 1) := by decide +kernel
theorem dL_law_687 : decode cL_law 687 = .ok (.aload_n 0, 1) := by decide +kernel
theorem dL_law_688 : decode cL_law 688 = .ok (.iload 4, 2) := by decide +kernel
theorem dL_law_690 : decode cL_law 690 = .ok (.iconst 3, 1) := by decide +kernel
theorem dL_law_691 : decode cL_law 691 = .ok (.iadd, 1) := by decide +kernel
theorem dL_law_692 : decode cL_law 692 = .ok (.iaload, 1) := by decide +kernel
theorem dL_law_693 : decode cL_law 693 = .ok (.aload_n 3, 1) := by decide +kernel
theorem dL_law_694 : decode cL_law 694 = .ok (.invokestatic 103, 3) := by decide +kernel
theorem dL_law_697 : decode cL_law 697 = .ok (.istore 5, 2) := by decide +kernel
theorem dL_law_699 : decode cL_law 699 = .ok (.aload_n 2, 1) := by decide +kernel
theorem dL_law_700 : decode cL_law 700 = .ok (.aload_n 0, 1) := by decide +kernel
theorem dL_law_701 : decode cL_law 701 = .ok (.iload 4, 2) := by decide +kernel
theorem dL_law_703 : decode cL_law 703 = .ok (.iconst 1, 1) := by decide +kernel
theorem dL_law_704 : decode cL_law 704 = .ok (.iadd, 1) := by decide +kernel
theorem dL_law_705 : decode cL_law 705 = .ok (.iaload, 1) := by decide +kernel
theorem dL_law_706 : decode cL_law 706 = .ok (.aload_n 0, 1) := by decide +kernel
theorem dL_law_707 : decode cL_law 707 = .ok (.iload 4, 2) := by decide +kernel
theorem dL_law_709 : decode cL_law 709 = .ok (.iconst 2, 1) := by decide +kernel
theorem dL_law_710 : decode cL_law 710 = .ok (.iadd, 1) := by decide +kernel
theorem dL_law_711 : decode cL_law 711 = .ok (.iaload, 1) := by decide +kernel
theorem dL_law_712 : decode cL_law 712 = .ok (.aload_n 0, 1) := by decide +kernel
theorem dL_law_713 : decode cL_law 713 = .ok (.iload 4, 2) := by decide +kernel
theorem dL_law_715 : decode cL_law 715 = .ok (.iconst 3, 1) := by decide +kernel
theorem dL_law_716 : decode cL_law 716 = .ok (.iadd, 1) := by decide +kernel
theorem dL_law_717 : decode cL_law 717 = .ok (.iaload, 1) := by decide +kernel
theorem dL_law_718 : decode cL_law 718 = .ok (.invokevirtual 105, 3) := by decide +kernel
theorem dL_law_721 : decode cL_law 721 = .ok (.istore 6, 2) := by decide +kernel
theorem dL_law_723 : decode cL_law 723 = .ok (.aload_n 2, 1) := by decide +kernel
theorem dL_law_724 : decode cL_law 724 = .ok (.invokevirtual 74, 3) := by decide +kernel
theorem dL_law_727 : decode cL_law 727 = .ok (.iload 5, 2) := by decide +kernel
theorem dL_law_729 : decode cL_law 729 = .ok (.if_icmp .eq 5, 3) := by decide +kernel
theorem dL_law_732 : decode cL_law 732 = .ok (.iconst 0, 1) := by decide +kernel
theorem dL_law_733 : decode cL_law 733 = .ok (.ireturn, 1) := by decide +kernel
theorem dL_law_734 : decode cL_law 734 = .ok (.iload 5, 2) := by decide +kernel
theorem dL_law_736 : decode cL_law 736 = .ok (.ifCond .ne 15, 3) := by decide +kernel
theorem dL_law_739 : decode cL_law 739 = .ok (.aload_n 3, 1) := by decide +kernel
theorem dL_law_740 : decode cL_law 740 = .ok (.iconst 0, 1) := by decide +kernel
theorem dL_law_741 : decode cL_law 741 = .ok (.laload, 1) := by decide +kernel
theorem dL_law_742 : decode cL_law 742 = .ok (.iload 6, 2) := by decide +kernel
theorem dL_law_744 : decode cL_law 744 = .ok (.i2l, 1) := by decide +kernel
theorem dL_law_745 : decode cL_law 745 = .ok (.lcmp, 1) := by decide +kernel
theorem dL_law_746 : decode cL_law 746 = .ok (.ifCond .eq 5, 3) := by decide +kernel
theorem dL_law_749 : decode cL_law 749 = .ok (.iconst 0, 1) := by decide +kernel
theorem dL_law_750 : decode cL_law 750 = .ok (.ireturn, 1) := by decide +kernel
theorem dL_law_751 : decode cL_law 751 = .ok (.goto 323, 3) := by decide +kernel
theorem dL_law_754 : decode cL_law 754 = .ok (.aload_n 1, 1) := by decide +kernel
theorem dL_law_755 : decode cL_law 755 = .ok (.aload_n 0, 1) := by decide +kernel
theorem dL_law_756 : decode cL_law 756 = .ok (.iload 4, 2) := by decide +kernel
theorem dL_law_758 : decode cL_law 758 = .ok (.iconst 1, 1) := by decide +kernel
theorem dL_law_759 : decode cL_law 759 = .ok (.iadd, 1) := by decide +kernel
theorem dL_law_760 : decode cL_law 760 = .ok (.iaload, 1) := by decide +kernel
theorem dL_law_761 : decode cL_law 761 = .ok (.aload_n 0, 1) := by decide +kernel
theorem dL_law_762 : decode cL_law 762 = .ok (.iload 4, 2) := by decide +kernel
theorem dL_law_764 : decode cL_law 764 = .ok (.iconst 2, 1) := by decide +kernel
theorem dL_law_765 : decode cL_law 765 = .ok (.iadd, 1) := by decide +kernel
theorem dL_law_766 : decode cL_law 766 = .ok (.iaload, 1) := by decide +kernel
theorem dL_law_767 : decode cL_law 767 = .ok (.invokestatic 106, 3) := by decide +kernel
theorem dL_law_770 : decode cL_law 770 = .ok (.istore 5, 2) := by decide +kernel
theorem dL_law_772 : decode cL_law 772 = .ok (.aload_n 2, 1) := by decide +kernel
theorem dL_law_773 : decode cL_law 773 = .ok (.aload_n 0, 1) := by decide +kernel
theorem dL_law_774 : decode cL_law 774 = .ok (.iload 4, 2) := by decide +kernel
theorem dL_law_776 : decode cL_law 776 = .ok (.iconst 1, 1) := by decide +kernel
theorem dL_law_777 : decode cL_law 777 = .ok (.iadd, 1) := by decide +kernel
theorem dL_law_778 : decode cL_law 778 = .ok (.iaload, 1) := by decide +kernel
theorem dL_law_779 : decode cL_law 779 = .ok (.aload_n 0, 1) := by decide +kernel
theorem dL_law_780 : decode cL_law 780 = .ok (.iload 4, 2) := by decide +kernel
theorem dL_law_782 : decode cL_law 782 = .ok (.iconst 2, 1) := by decide +kernel
theorem dL_law_783 : decode cL_law 783 = .ok (.iadd, 1) := by decide +kernel
theorem dL_law_784 : decode cL_law 784 = .ok (.iaload, 1) := by decide +kernel
theorem dL_law_785 : decode cL_law 785 = .ok (.invokevirtual 109, 3) := by decide +kernel
theorem dL_law_788 : decode cL_law 788 = .ok (.aload_n 2, 1) := by decide +kernel
theorem dL_law_789 : decode cL_law 789 = .ok (.invokevirtual 74, 3) := by decide +kernel
theorem dL_law_792 : decode cL_law 792 = .ok (.iload 5, 2) := by decide +kernel
theorem dL_law_794 : decode cL_law 794 = .ok (.if_icmp .eq 5, 3) := by decide +kernel
theorem dL_law_797 : decode cL_law 797 = .ok (.iconst 0, 1) := by decide +kernel
theorem dL_law_798 : decode cL_law 798 = .ok (.ireturn, 1) := by decide +kernel
theorem dL_law_799 : decode cL_law 799 = .ok (.goto 275, 3) := by decide +kernel
theorem dL_law_802 : decode cL_law 802 = .ok (.aload_n 1, 1) := by decide +kernel
theorem dL_law_803 : decode cL_law 803 = .ok (.aload_n 0, 1) := by decide +kernel
theorem dL_law_804 : decode cL_law 804 = .ok (.iload 4, 2) := by decide +kernel
theorem dL_law_806 : decode cL_law 806 = .ok (.iconst 1, 1) := by decide +kernel
theorem dL_law_807 : decode cL_law 807 = .ok (.iadd, 1) := by decide +kernel
theorem dL_law_808 : decode cL_law 808 = .ok (.iaload, 1) := by decide +kernel
theorem dL_law_809 : decode cL_law 809 = .ok (.aload_n 0, 1) := by decide +kernel
theorem dL_law_810 : decode cL_law 810 = .ok (.iload 4, 2) := by decide +kernel
theorem dL_law_812 : decode cL_law 812 = .ok (.iconst 2, 1) := by decide +kernel
theorem dL_law_813 : decode cL_law 813 = .ok (.iadd, 1) := by decide +kernel
theorem dL_law_814 : decode cL_law 814 = .ok (.iaload, 1) := by decide +kernel
theorem dL_law_815 : decode cL_law 815 = .ok (.aload_n 3, 1) := by decide +kernel
theorem dL_law_816 : decode cL_law 816 = .ok (.invokestatic 110, 3) := by decide +kernel
theorem dL_law_819 : decode cL_law 819 = .ok (.istore 5, 2) := by decide +kernel
theorem dL_law_821 : decode cL_law 821 = .ok (.aload_n 2, 1) := by decide +kernel
theorem dL_law_822 : decode cL_law 822 = .ok (.aload_n 0, 1) := by decide +kernel
theorem dL_law_823 : decode cL_law 823 = .ok (.iload 4, 2) := by decide +kernel
theorem dL_law_825 : decode cL_law 825 = .ok (.iconst 1, 1) := by decide +kernel
theorem dL_law_826 : decode cL_law 826 = .ok (.iadd, 1) := by decide +kernel
theorem dL_law_827 : decode cL_law 827 = .ok (.iaload, 1) := by decide +kernel
theorem dL_law_828 : decode cL_law 828 = .ok (.aload_n 0, 1) := by decide +kernel
theorem dL_law_829 : decode cL_law 829 = .ok (.iload 4, 2) := by decide +kernel
theorem dL_law_831 : decode cL_law 831 = .ok (.iconst 2, 1) := by decide +kernel
theorem dL_law_832 : decode cL_law 832 = .ok (.iadd, 1) := by decide +kernel
theorem dL_law_833 : decode cL_law 833 = .ok (.iaload, 1) := by decide +kernel
theorem dL_law_834 : decode cL_law 834 = .ok (.invokevirtual 112, 3) := by decide +kernel
theorem dL_law_837 : decode cL_law 837 = .ok (.istore 6, 2) := by decide +kernel
theorem dL_law_839 : decode cL_law 839 = .ok (.aload_n 2, 1) := by decide +kernel
theorem dL_law_840 : decode cL_law 840 = .ok (.invokevirtual 74, 3) := by decide +kernel
theorem dL_law_843 : decode cL_law 843 = .ok (.iload 5, 2) := by decide +kernel
theorem dL_law_845 : decode cL_law 845 = .ok (.if_icmp .eq 5, 3) := by decide +kernel
theorem dL_law_848 : decode cL_law 848 = .ok (.iconst 0, 1) := by decide +kernel
theorem dL_law_849 : decode cL_law 849 = .ok (.ireturn, 1) := by decide +kernel
theorem dL_law_850 : decode cL_law 850 = .ok (.iload 5, 2) := by decide +kernel
theorem dL_law_852 : decode cL_law 852 = .ok (.ifCond .ne 15, 3) := by decide +kernel
theorem dL_law_855 : decode cL_law 855 = .ok (.aload_n 3, 1) := by decide +kernel
theorem dL_law_856 : decode cL_law 856 = .ok (.iconst 0, 1) := by decide +kernel
theorem dL_law_857 : decode cL_law 857 = .ok (.laload, 1) := by decide +kernel
theorem dL_law_858 : decode cL_law 858 = .ok (.iload 6, 2) := by decide +kernel
theorem dL_law_860 : decode cL_law 860 = .ok (.i2l, 1) := by decide +kernel
theorem dL_law_861 : decode cL_law 861 = .ok (.lcmp, 1) := by decide +kernel
theorem dL_law_862 : decode cL_law 862 = .ok (.ifCond .eq 5, 3) := by decide +kernel
theorem dL_law_865 : decode cL_law 865 = .ok (.iconst 0, 1) := by decide +kernel
theorem dL_law_866 : decode cL_law 866 = .ok (.ireturn, 1) := by decide +kernel
theorem dL_law_867 : decode cL_law 867 = .ok (.goto 207, 3) := by decide +kernel
theorem dL_law_870 : decode cL_law 870 = .ok (.aload_n 1, 1) := by decide +kernel
theorem dL_law_871 : decode cL_law 871 = .ok (.aload_n 0, 1) := by decide +kernel
theorem dL_law_872 : decode cL_law 872 = .ok (.iload 4, 2) := by decide +kernel
theorem dL_law_874 : decode cL_law 874 = .ok (.iconst 1, 1) := by decide +kernel
theorem dL_law_875 : decode cL_law 875 = .ok (.iadd, 1) := by decide +kernel
theorem dL_law_876 : decode cL_law 876 = .ok (.iaload, 1) := by decide +kernel
theorem dL_law_877 : decode cL_law 877 = .ok (.aload_n 0, 1) := by decide +kernel
theorem dL_law_878 : decode cL_law 878 = .ok (.iload 4, 2) := by decide +kernel
theorem dL_law_880 : decode cL_law 880 = .ok (.iconst 2, 1) := by decide +kernel
theorem dL_law_881 : decode cL_law 881 = .ok (.iadd, 1) := by decide +kernel
theorem dL_law_882 : decode cL_law 882 = .ok (.iaload, 1) := by decide +kernel
theorem dL_law_883 : decode cL_law 883 = .ok (.aload_n 0, 1) := by decide +kernel
theorem dL_law_884 : decode cL_law 884 = .ok (.iload 4, 2) := by decide +kernel
theorem dL_law_886 : decode cL_law 886 = .ok (.iconst 3, 1) := by decide +kernel
theorem dL_law_887 : decode cL_law 887 = .ok (.iadd, 1) := by decide +kernel
theorem dL_law_888 : decode cL_law 888 = .ok (.iaload, 1) := by decide +kernel
theorem dL_law_889 : decode cL_law 889 = .ok (.aload_n 3, 1) := by decide +kernel
theorem dL_law_890 : decode cL_law 890 = .ok (.invokestatic 113, 3) := by decide +kernel
theorem dL_law_893 : decode cL_law 893 = .ok (.istore 5, 2) := by decide +kernel
theorem dL_law_895 : decode cL_law 895 = .ok (.aload_n 2, 1) := by decide +kernel
theorem dL_law_896 : decode cL_law 896 = .ok (.aload_n 0, 1) := by decide +kernel
theorem dL_law_897 : decode cL_law 897 = .ok (.iload 4, 2) := by decide +kernel
theorem dL_law_899 : decode cL_law 899 = .ok (.iconst 1, 1) := by decide +kernel
theorem dL_law_900 : decode cL_law 900 = .ok (.iadd, 1) := by decide +kernel
theorem dL_law_901 : decode cL_law 901 = .ok (.iaload, 1) := by decide +kernel
theorem dL_law_902 : decode cL_law 902 = .ok (.aload_n 0, 1) := by decide +kernel
theorem dL_law_903 : decode cL_law 903 = .ok (.iload 4, 2) := by decide +kernel
theorem dL_law_905 : decode cL_law 905 = .ok (.iconst 2, 1) := by decide +kernel
theorem dL_law_906 : decode cL_law 906 = .ok (.iadd, 1) := by decide +kernel
theorem dL_law_907 : decode cL_law 907 = .ok (.iaload, 1) := by decide +kernel
theorem dL_law_908 : decode cL_law 908 = .ok (.aload_n 0, 1) := by decide +kernel
theorem dL_law_909 : decode cL_law 909 = .ok (.iload 4, 2) := by decide +kernel
theorem dL_law_911 : decode cL_law 911 = .ok (.iconst 3, 1) := by decide +kernel
theorem dL_law_912 : decode cL_law 912 = .ok (.iadd, 1) := by decide +kernel
theorem dL_law_913 : decode cL_law 913 = .ok (.iaload, 1) := by decide +kernel
theorem dL_law_914 : decode cL_law 914 = .ok (.invokevirtual 115, 3) := by decide +kernel
theorem dL_law_917 : decode cL_law 917 = .ok (.istore 6, 2) := by decide +kernel
theorem dL_law_919 : decode cL_law 919 = .ok (.aload_n 2, 1) := by decide +kernel
theorem dL_law_920 : decode cL_law 920 = .ok (.invokevirtual 74, 3) := by decide +kernel
theorem dL_law_923 : decode cL_law 923 = .ok (.iload 5, 2) := by decide +kernel
theorem dL_law_925 : decode cL_law 925 = .ok (.if_icmp .eq 5, 3) := by decide +kernel
theorem dL_law_928 : decode cL_law 928 = .ok (.iconst 0, 1) := by decide +kernel
theorem dL_law_929 : decode cL_law 929 = .ok (.ireturn, 1) := by decide +kernel
theorem dL_law_930 : decode cL_law 930 = .ok (.iload 5, 2) := by decide +kernel
theorem dL_law_932 : decode cL_law 932 = .ok (.ifCond .ne 15, 3) := by decide +kernel
theorem dL_law_935 : decode cL_law 935 = .ok (.aload_n 3, 1) := by decide +kernel
theorem dL_law_936 : decode cL_law 936 = .ok (.iconst 0, 1) := by decide +kernel
theorem dL_law_937 : decode cL_law 937 = .ok (.laload, 1) := by decide +kernel
theorem dL_law_938 : decode cL_law 938 = .ok (.iload 6, 2) := by decide +kernel
theorem dL_law_940 : decode cL_law 940 = .ok (.i2l, 1) := by decide +kernel
theorem dL_law_941 : decode cL_law 941 = .ok (.lcmp, 1) := by decide +kernel
theorem dL_law_942 : decode cL_law 942 = .ok (.ifCond .eq 5, 3) := by decide +kernel
theorem dL_law_945 : decode cL_law 945 = .ok (.iconst 0, 1) := by decide +kernel
theorem dL_law_946 : decode cL_law 946 = .ok (.ireturn, 1) := by decide +kernel
theorem dL_law_947 : decode cL_law 947 = .ok (.goto 127, 3) := by decide +kernel
theorem dL_law_950 : decode cL_law 950 = .ok (.aload_n 1, 1) := by decide +kernel
theorem dL_law_951 : decode cL_law 951 = .ok (.aload_n 0, 1) := by decide +kernel
theorem dL_law_952 : decode cL_law 952 = .ok (.iload 4, 2) := by decide +kernel
theorem dL_law_954 : decode cL_law 954 = .ok (.iconst 1, 1) := by decide +kernel
theorem dL_law_955 : decode cL_law 955 = .ok (.iadd, 1) := by decide +kernel
theorem dL_law_956 : decode cL_law 956 = .ok (.iaload, 1) := by decide +kernel
theorem dL_law_957 : decode cL_law 957 = .ok (.aload_n 0, 1) := by decide +kernel
theorem dL_law_958 : decode cL_law 958 = .ok (.iload 4, 2) := by decide +kernel
theorem dL_law_960 : decode cL_law 960 = .ok (.iconst 2, 1) := by decide +kernel
theorem dL_law_961 : decode cL_law 961 = .ok (.iadd, 1) := by decide +kernel
theorem dL_law_962 : decode cL_law 962 = .ok (.iaload, 1) := by decide +kernel
theorem dL_law_963 : decode cL_law 963 = .ok (.aload_n 3, 1) := by decide +kernel
theorem dL_law_964 : decode cL_law 964 = .ok (.invokestatic 116, 3) := by decide +kernel
theorem dL_law_967 : decode cL_law 967 = .ok (.istore 5, 2) := by decide +kernel
theorem dL_law_969 : decode cL_law 969 = .ok (.aload_n 2, 1) := by decide +kernel
theorem dL_law_970 : decode cL_law 970 = .ok (.aload_n 0, 1) := by decide +kernel
theorem dL_law_971 : decode cL_law 971 = .ok (.iload 4, 2) := by decide +kernel
theorem dL_law_973 : decode cL_law 973 = .ok (.iconst 1, 1) := by decide +kernel
theorem dL_law_974 : decode cL_law 974 = .ok (.iadd, 1) := by decide +kernel
theorem dL_law_975 : decode cL_law 975 = .ok (.iaload, 1) := by decide +kernel
theorem dL_law_976 : decode cL_law 976 = .ok (.aload_n 0, 1) := by decide +kernel
theorem dL_law_977 : decode cL_law 977 = .ok (.iload 4, 2) := by decide +kernel
theorem dL_law_979 : decode cL_law 979 = .ok (.iconst 2, 1) := by decide +kernel
theorem dL_law_980 : decode cL_law 980 = .ok (.iadd, 1) := by decide +kernel
theorem dL_law_981 : decode cL_law 981 = .ok (.iaload, 1) := by decide +kernel
theorem dL_law_982 : decode cL_law 982 = .ok (.invokevirtual 118, 3) := by decide +kernel
theorem dL_law_985 : decode cL_law 985 = .ok (.istore 6, 2) := by decide +kernel
theorem dL_law_987 : decode cL_law 987 = .ok (.aload_n 2, 1) := by decide +kernel
theorem dL_law_988 : decode cL_law 988 = .ok (.invokevirtual 74, 3) := by decide +kernel
theorem dL_law_991 : decode cL_law 991 = .ok (.iload 5, 2) := by decide +kernel
theorem dL_law_993 : decode cL_law 993 = .ok (.if_icmp .eq 5, 3) := by decide +kernel
theorem dL_law_996 : decode cL_law 996 = .ok (.iconst 0, 1) := by decide +kernel
theorem dL_law_997 : decode cL_law 997 = .ok (.ireturn, 1) := by decide +kernel
theorem dL_law_998 : decode cL_law 998 = .ok (.iload 5, 2) := by decide +kernel
theorem dL_law_1000 : decode cL_law 1000 = .ok (.ifCond .ne 15, 3) := by decide +kernel
theorem dL_law_1003 : decode cL_law 1003 = .ok (.aload_n 3, 1) := by decide +kernel
theorem dL_law_1004 : decode cL_law 1004 = .ok (.iconst 0, 1) := by decide +kernel
theorem dL_law_1005 : decode cL_law 1005 = .ok (.laload, 1) := by decide +kernel
theorem dL_law_1006 : decode cL_law 1006 = .ok (.iload 6, 2) := by decide +kernel
theorem dL_law_1008 : decode cL_law 1008 = .ok (.i2l, 1) := by decide +kernel
theorem dL_law_1009 : decode cL_law 1009 = .ok (.lcmp, 1) := by decide +kernel
theorem dL_law_1010 : decode cL_law 1010 = .ok (.ifCond .eq 5, 3) := by decide +kernel
theorem dL_law_1013 : decode cL_law 1013 = .ok (.iconst 0, 1) := by decide +kernel
theorem dL_law_1014 : decode cL_law 1014 = .ok (.ireturn, 1) := by decide +kernel
theorem dL_law_1015 : decode cL_law 1015 = .ok (.goto 59, 3) := by decide +kernel
theorem dL_law_1018 : decode cL_law 1018 = .ok (.aload_n 1, 1) := by decide +kernel
theorem dL_law_1019 : decode cL_law 1019 = .ok (.aload_n 0, 1) := by decide +kernel
theorem dL_law_1020 : decode cL_law 1020 = .ok (.iload 4, 2) := by decide +kernel
theorem dL_law_1022 : decode cL_law 1022 = .ok (.iconst 1, 1) := by decide +kernel
theorem dL_law_1023 : decode cL_law 1023 = .ok (.iadd, 1) := by decide +kernel
theorem dL_law_1024 : decode cL_law 1024 = .ok (.iaload, 1) := by decide +kernel
theorem dL_law_1025 : decode cL_law 1025 = .ok (.aload_n 3, 1) := by decide +kernel
theorem dL_law_1026 : decode cL_law 1026 = .ok (.invokestatic 119, 3) := by decide +kernel
theorem dL_law_1029 : decode cL_law 1029 = .ok (.istore 5, 2) := by decide +kernel
theorem dL_law_1031 : decode cL_law 1031 = .ok (.aload_n 2, 1) := by decide +kernel
theorem dL_law_1032 : decode cL_law 1032 = .ok (.aload_n 0, 1) := by decide +kernel
theorem dL_law_1033 : decode cL_law 1033 = .ok (.iload 4, 2) := by decide +kernel
theorem dL_law_1035 : decode cL_law 1035 = .ok (.iconst 1, 1) := by decide +kernel
theorem dL_law_1036 : decode cL_law 1036 = .ok (.iadd, 1) := by decide +kernel
theorem dL_law_1037 : decode cL_law 1037 = .ok (.iaload, 1) := by decide +kernel
theorem dL_law_1038 : decode cL_law 1038 = .ok (.invokevirtual 121, 3) := by decide +kernel
theorem dL_law_1041 : decode cL_law 1041 = .ok (.istore 6, 2) := by decide +kernel
theorem dL_law_1043 : decode cL_law 1043 = .ok (.aload_n 2, 1) := by decide +kernel
theorem dL_law_1044 : decode cL_law 1044 = .ok (.invokevirtual 74, 3) := by decide +kernel
theorem dL_law_1047 : decode cL_law 1047 = .ok (.iload 5, 2) := by decide +kernel
theorem dL_law_1049 : decode cL_law 1049 = .ok (.if_icmp .eq 5, 3) := by decide +kernel
theorem dL_law_1052 : decode cL_law 1052 = .ok (.iconst 0, 1) := by decide +kernel
theorem dL_law_1053 : decode cL_law 1053 = .ok (.ireturn, 1) := by decide +kernel
theorem dL_law_1054 : decode cL_law 1054 = .ok (.iload 5, 2) := by decide +kernel
theorem dL_law_1056 : decode cL_law 1056 = .ok (.ifCond .ne 15, 3) := by decide +kernel
theorem dL_law_1059 : decode cL_law 1059 = .ok (.aload_n 3, 1) := by decide +kernel
theorem dL_law_1060 : decode cL_law 1060 = .ok (.iconst 0, 1) := by decide +kernel
theorem dL_law_1061 : decode cL_law 1061 = .ok (.laload, 1) := by decide +kernel
theorem dL_law_1062 : decode cL_law 1062 = .ok (.iload 6, 2) := by decide +kernel
theorem dL_law_1064 : decode cL_law 1064 = .ok (.i2l, 1) := by decide +kernel
theorem dL_law_1065 : decode cL_law 1065 = .ok (.lcmp, 1) := by decide +kernel
theorem dL_law_1066 : decode cL_law 1066 = .ok (.ifCond .eq 5, 3) := by decide +kernel
theorem dL_law_1069 : decode cL_law 1069 = .ok (.iconst 0, 1) := by decide +kernel
theorem dL_law_1070 : decode cL_law 1070 = .ok (.ireturn, 1) := by decide +kernel
theorem dL_law_1071 : decode cL_law 1071 = .ok (.goto 3, 3) := by decide +kernel
theorem dL_law_1074 : decode cL_law 1074 = .ok (.iinc 4 4, 3) := by decide +kernel
theorem dL_law_1077 : decode cL_law 1077 = .ok (.goto (-1054), 3) := by decide +kernel
theorem dL_law_1080 : decode cL_law 1080 = .ok (.iconst 1, 1) := by decide +kernel
theorem dL_law_1081 : decode cL_law 1081 = .ok (.ireturn, 1) := by decide +kernel
end
section
/-! THE WORDS: all of the tables' words that last, in one list for all methods -/
def hr_W : List Cond := lw_tbl.filter goodWord
theorem hr_W_mem {w : Cond} (h : w ∈ tables_1) (g : goodWord w = true) : w ∈ hr_W := List.mem_filter.mpr ⟨List.mem_append_right _ h, g⟩
theorem hr_W_sel {w : Cond} (h : w ∈ k2_sels lw_privs) (g : goodWord w = true) : w ∈ hr_W := List.mem_filter.mpr ⟨List.mem_append_left _ h, g⟩
theorem hr_W_ok {w : Cond} (h : w ∈ hr_W) : (w.onTables && w.keeps) = true ∨ ∃ ty, w = .arrayClass ty := good_of_word (List.mem_filter.mp h).2
theorem hr_t1 {w : Cond} {n : Nat} (h : tables_1_1[n]? = some w) : w ∈ tables_1 := List.mem_append_left _ (List.mem_of_getElem? h)
theorem hr_t2 {w : Cond} {n : Nat} (h : tables_1_2[n]? = some w) : w ∈ tables_1 := List.mem_append_right _ (List.mem_append_left _ (List.mem_of_getElem? h))
theorem hr_t3 {w : Cond} {n : Nat} (h : tables_1_3[n]? = some w) : w ∈ tables_1 := List.mem_append_right _ (List.mem_append_right _ (List.mem_append_left _ (List.mem_of_getElem? h)))
theorem hr_t4 {w : Cond} {n : Nat} (h : tables_1_4[n]? = some w) : w ∈ tables_1 := List.mem_append_right _ (List.mem_append_right _ (List.mem_append_right _ (List.mem_of_getElem? h)))
/-- a callee's words, by its links -/
theorem hr_gV {c0 cy : Cond} {own C : String} {idx : Nat} {y : MethodName} (h1 : Cond.methodLink own idx y ∈ hr_W) (h2 : Cond.instanceMethod y ∈ hr_W) (h3 : Cond.selects C y y ∈ hr_W) (h4 : Cond.initialized C ∈ hr_W) (h5 : cy ∈ hr_W) : GoodIn (c0 :: hr_W) (wsV own idx C y (cy :: hr_W)) := by
  intro w hw
  have key : w ∈ hr_W := by
    unfold wsV at hw
    simp only [List.cons_append, List.nil_append, List.mem_cons] at hw
    rcases hw with rfl | rfl | rfl | rfl | rfl | hw <;> assumption
  exact ⟨List.mem_cons_of_mem _ key, hr_W_ok key⟩
theorem hr_gS {c0 cy : Cond} {own : String} {idx : Nat} {y : MethodName} (h1 : Cond.methodLink own idx y ∈ hr_W) (h2 : Cond.static y ∈ hr_W) (h4 : Cond.initialized own ∈ hr_W) (h5 : cy ∈ hr_W) : GoodIn (c0 :: hr_W) (wsS own idx y (cy :: hr_W)) := by
  intro w hw
  have key : w ∈ hr_W := by
    unfold wsS at hw
    simp only [List.cons_append, List.nil_append, List.mem_cons] at hw
    rcases hw with rfl | rfl | rfl | rfl | hw <;> assumption
  exact ⟨List.mem_cons_of_mem _ key, hr_W_ok key⟩
theorem hr_gT {c0 cy : Cond} {own : String} {idx : Nat} {y : MethodName} (h1 : Cond.methodLink own idx y ∈ hr_W) (h2 : Cond.static y ∈ hr_W) (h4 : Cond.initialized y.cls ∈ hr_W) (h5 : cy ∈ hr_W) : GoodIn (c0 :: hr_W) (va_wsS own idx y (cy :: hr_W)) := by
  intro w hw
  have key : w ∈ hr_W := by
    unfold va_wsS at hw
    simp only [List.cons_append, List.nil_append, List.mem_cons] at hw
    rcases hw with rfl | rfl | rfl | rfl | hw <;> assumption
  exact ⟨List.mem_cons_of_mem _ key, hr_W_ok key⟩
theorem hr_gI {c0 cy : Cond} (h5 : cy ∈ hr_W) : GoodIn (c0 :: hr_W) (cy :: hr_W) := by
  intro w hw
  have key : w ∈ hr_W := (List.mem_cons.mp hw).elim (fun h => h ▸ h5) id
  exact ⟨List.mem_cons_of_mem _ key, hr_W_ok key⟩
theorem kN_L : Cond.initialized RL ∈ hr_W := hr_W_mem (hr_t1 (n := 0) rfl) rfl
theorem kN_X3 : Cond.initialized RX3 ∈ hr_W := hr_W_mem (hr_t1 (n := 1) rfl) rfl
theorem kN_X0 : Cond.initialized RX0 ∈ hr_W := hr_W_mem (hr_t1 (n := 2) rfl) rfl
theorem kN_X1 : Cond.initialized RX1 ∈ hr_W := hr_W_mem (hr_t1 (n := 3) rfl) rfl
theorem kN_X2 : Cond.initialized RX2 ∈ hr_W := hr_W_mem (hr_t1 (n := 4) rfl) rfl
theorem kN_Arrays : Cond.initialized "java/util/Arrays" ∈ hr_W := hr_W_mem (hr_t1 (n := 5) rfl) rfl
theorem kN_X4 : Cond.initialized RX4 ∈ hr_W := hr_W_mem (hr_t1 (n := 6) rfl) rfl
theorem kN_Throwable : Cond.initialized "java/lang/Throwable" ∈ hr_W := hr_W_mem (hr_t1 (n := 7) rfl) rfl
theorem kN_Exception : Cond.initialized "java/lang/Exception" ∈ hr_W := hr_W_mem (hr_t1 (n := 8) rfl) rfl
theorem kN_RuntimeException : Cond.initialized "java/lang/RuntimeException" ∈ hr_W := hr_W_mem (hr_t1 (n := 9) rfl) rfl
theorem kN_IndexOutOfBoundsException : Cond.initialized "java/lang/IndexOutOfBoundsException" ∈ hr_W := hr_W_mem (hr_t1 (n := 10) rfl) rfl
theorem kN_IllegalArgumentException : Cond.initialized "java/lang/IllegalArgumentException" ∈ hr_W := hr_W_mem (hr_t1 (n := 11) rfl) rfl
theorem kN_IllegalStateException : Cond.initialized "java/lang/IllegalStateException" ∈ hr_W := hr_W_mem (hr_t1 (n := 12) rfl) rfl
theorem kN_System : Cond.initialized "java/lang/System" ∈ hr_W := hr_W_mem (hr_t1 (n := 13) rfl) rfl
theorem kN_Math : Cond.initialized "java/lang/Math" ∈ hr_W := hr_W_mem (hr_t1 (n := 14) rfl) rfl
theorem kL_L_8 : Cond.classLink RL 8 RX3 ∈ hr_W := hr_W_mem (hr_t1 (n := 15) rfl) rfl
theorem kP_X3 : Cond.instantiable RX3 8 ∈ hr_W := hr_W_mem (hr_t1 (n := 16) rfl) rfl
theorem kM_L_64 : Cond.methodLink RL 64 yX3_init ∈ hr_W := hr_W_mem (hr_t1 (n := 17) rfl) rfl
theorem kI_X3_init : Cond.instanceMethod yX3_init ∈ hr_W := hr_W_mem (hr_t1 (n := 18) rfl) rfl
theorem kC_X3_init : Cond.code yX3_init cX3_init 2 none ∈ hr_W := hr_W_mem (hr_t1 (n := 19) rfl) rfl
theorem kM_X3_1 : Cond.methodLink RX3 1 objectInit ∈ hr_W := hr_W_mem (hr_t1 (n := 20) rfl) rfl
theorem kI_objinit : Cond.instanceMethod objectInit ∈ hr_W := hr_W_mem (hr_t1 (n := 21) rfl) rfl
theorem kC_objinit : Cond.code objectInit ⟨#[0xb1]⟩ 1 none ∈ hr_W := hr_W_mem (hr_t1 (n := 22) rfl) rfl
theorem kL_X3_13 : Cond.classLink RX3 13 RX2 ∈ hr_W := hr_W_mem (hr_t1 (n := 23) rfl) rfl
theorem kL_X3_19 : Cond.classLink RX3 19 RX0 ∈ hr_W := hr_W_mem (hr_t1 (n := 25) rfl) rfl
theorem kP_X0 : Cond.instantiable RX0 5 ∈ hr_W := hr_W_mem (hr_t1 (n := 26) rfl) rfl
theorem kM_X3_21 : Cond.methodLink RX3 21 yX0_init ∈ hr_W := hr_W_mem (hr_t1 (n := 27) rfl) rfl
theorem kI_X0_init : Cond.instanceMethod yX0_init ∈ hr_W := hr_W_mem (hr_t1 (n := 28) rfl) rfl
theorem kC_X0_init : Cond.code yX0_init cX0_init 2 none ∈ hr_W := hr_W_mem (hr_t1 (n := 29) rfl) rfl
theorem kM_X0_3 : Cond.methodLink RX0 3 objectInit ∈ hr_W := hr_W_mem (hr_t1 (n := 30) rfl) rfl
theorem kL_X0_9 : Cond.classLink RX0 9 RX1 ∈ hr_W := hr_W_mem (hr_t1 (n := 31) rfl) rfl
theorem kP_X1 : Cond.instantiable RX1 4 ∈ hr_W := hr_W_mem (hr_t1 (n := 33) rfl) rfl
theorem kI_X1_init : Cond.instanceMethod yX1_init ∈ hr_W := hr_W_mem (hr_t1 (n := 35) rfl) rfl
theorem kC_X1_init : Cond.code yX1_init cX1_init 1 none ∈ hr_W := hr_W_mem (hr_t1 (n := 36) rfl) rfl
theorem kM_X1_5 : Cond.methodLink RX1 5 objectInit ∈ hr_W := hr_W_mem (hr_t1 (n := 37) rfl) rfl
theorem kF_X1_15 : Cond.fieldLink RX1 15 "HopRouters$Packet" "from" "I" ∈ hr_W := hr_W_mem (hr_t1 (n := 38) rfl) rfl
theorem kF_X3_125 : Cond.fieldLink RX3 125 "HopRouters$Packet" "from" "I" ∈ hr_W := hr_W_mem (hr_t1 (n := 39) rfl) rfl
theorem kF_X1_19 : Cond.fieldLink RX1 19 "HopRouters$Packet" "to" "I" ∈ hr_W := hr_W_mem (hr_t1 (n := 40) rfl) rfl
theorem kF_X3_128 : Cond.fieldLink RX3 128 "HopRouters$Packet" "to" "I" ∈ hr_W := hr_W_mem (hr_t1 (n := 41) rfl) rfl
theorem kF_X1_22 : Cond.fieldLink RX1 22 "HopRouters$Packet" "length" "I" ∈ hr_W := hr_W_mem (hr_t1 (n := 42) rfl) rfl
theorem kF_X3_120 : Cond.fieldLink RX3 120 "HopRouters$Packet" "length" "I" ∈ hr_W := hr_W_mem (hr_t1 (n := 43) rfl) rfl
theorem kF_X1_11 : Cond.fieldLink RX1 11 "HopRouters$Packet" "words" "[I" ∈ hr_W := hr_W_mem (hr_t1 (n := 44) rfl) rfl
theorem kA_boolean : Cond.arrayClass .boolean ∈ hr_W := hr_W_mem (hr_t1 (n := 54) rfl) rfl
theorem kA_int : Cond.arrayClass .int ∈ hr_W := hr_W_mem (hr_t1 (n := 55) rfl) rfl
theorem kF_X0_11 : Cond.fieldLink RX0 11 "HopRouters$Air" "places" "[LHopRouters$Packet;" ∈ hr_W := hr_W_mem (hr_t1 (n := 56) rfl) rfl
theorem kF_X0_17 : Cond.fieldLink RX0 17 "HopRouters$Air" "order" "[I" ∈ hr_W := hr_W_mem (hr_t1 (n := 57) rfl) rfl
theorem kF_X0_26 : Cond.fieldLink RX0 26 "HopRouters$Air" "size" "I" ∈ hr_W := hr_W_mem (hr_t1 (n := 58) rfl) rfl
theorem kF_X3_79 : Cond.fieldLink RX3 79 "HopRouters$Air" "size" "I" ∈ hr_W := hr_W_mem (hr_t1 (n := 59) rfl) rfl
theorem kF_X0_22 : Cond.fieldLink RX0 22 "HopRouters$Air" "sent" "I" ∈ hr_W := hr_W_mem (hr_t1 (n := 60) rfl) rfl
theorem kF_X3_150 : Cond.fieldLink RX3 150 "HopRouters$Air" "sent" "I" ∈ hr_W := hr_W_mem (hr_t1 (n := 61) rfl) rfl
theorem kF_X0_29 : Cond.fieldLink RX0 29 "HopRouters$Air" "lost" "I" ∈ hr_W := hr_W_mem (hr_t1 (n := 62) rfl) rfl
theorem kF_X3_147 : Cond.fieldLink RX3 147 "HopRouters$Air" "lost" "I" ∈ hr_W := hr_W_mem (hr_t1 (n := 63) rfl) rfl
theorem kL_X3_26 : Cond.classLink RX3 26 RX1 ∈ hr_W := hr_W_mem (hr_t1 (n := 75) rfl) rfl
theorem kP_X2 : Cond.instantiable RX2 5 ∈ hr_W := hr_W_mem (hr_t1 (n := 77) rfl) rfl
theorem kM_X3_36 : Cond.methodLink RX3 36 yX2_init ∈ hr_W := hr_W_mem (hr_t1 (n := 78) rfl) rfl
theorem kI_X2_init : Cond.instanceMethod yX2_init ∈ hr_W := hr_W_mem (hr_t1 (n := 79) rfl) rfl
theorem kC_X2_init : Cond.code yX2_init cX2_init 1 none ∈ hr_W := hr_W_mem (hr_t1 (n := 80) rfl) rfl
theorem kM_X2_3 : Cond.methodLink RX2 3 objectInit ∈ hr_W := hr_W_mem (hr_t1 (n := 81) rfl) rfl
theorem kM_X2_28 : Cond.methodLink RX2 28 ⟨"java/util/Arrays", "fill", "([II)V"⟩ ∈ hr_W := hr_W_mem (hr_t1 (n := 82) rfl) rfl
theorem kT_fill : Cond.static yJ7_fill_53178 ∈ hr_W := hr_W_mem (hr_t1 (n := 83) rfl) rfl
theorem kC_fill : Cond.code yJ7_fill_53178 cJ7_fill_53178 4 none ∈ hr_W := hr_W_mem (hr_t1 (n := 84) rfl) rfl
theorem kF_X2_9 : Cond.fieldLink RX2 9 "HopRouters$Table" "metric" "[I" ∈ hr_W := hr_W_mem (hr_t1 (n := 85) rfl) rfl
theorem kF_X3_231 : Cond.fieldLink RX3 231 "HopRouters$Table" "metric" "[I" ∈ hr_W := hr_W_mem (hr_t1 (n := 86) rfl) rfl
theorem kF_X2_15 : Cond.fieldLink RX2 15 "HopRouters$Table" "next" "[I" ∈ hr_W := hr_W_mem (hr_t1 (n := 87) rfl) rfl
theorem kF_X3_143 : Cond.fieldLink RX3 143 "HopRouters$Table" "next" "[I" ∈ hr_W := hr_W_mem (hr_t1 (n := 88) rfl) rfl
theorem kF_X2_18 : Cond.fieldLink RX2 18 "HopRouters$Table" "age" "[I" ∈ hr_W := hr_W_mem (hr_t1 (n := 89) rfl) rfl
theorem kF_X2_21 : Cond.fieldLink RX2 21 "HopRouters$Table" "silent" "[I" ∈ hr_W := hr_W_mem (hr_t1 (n := 90) rfl) rfl
theorem kF_X2_24 : Cond.fieldLink RX2 24 "HopRouters$Table" "changed" "[Z" ∈ hr_W := hr_W_mem (hr_t1 (n := 91) rfl) rfl
theorem kF_X3_188 : Cond.fieldLink RX3 188 "HopRouters$Table" "changed" "[Z" ∈ hr_W := hr_W_mem (hr_t1 (n := 92) rfl) rfl
theorem kF_X3_9 : Cond.fieldLink RX3 9 "HopRouters" "linked" "[Z" ∈ hr_W := hr_W_mem (hr_t1 (n := 104) rfl) rfl
theorem kF_X3_15 : Cond.fieldLink RX3 15 "HopRouters" "tables" "[LHopRouters$Table;" ∈ hr_W := hr_W_mem (hr_t1 (n := 105) rfl) rfl
theorem kF_X3_22 : Cond.fieldLink RX3 22 "HopRouters" "air" "LHopRouters$Air;" ∈ hr_W := hr_W_mem (hr_t1 (n := 106) rfl) rfl
theorem kF_X3_29 : Cond.fieldLink RX3 29 "HopRouters" "draft" "LHopRouters$Packet;" ∈ hr_W := hr_W_mem (hr_t1 (n := 107) rfl) rfl
theorem kF_X3_33 : Cond.fieldLink RX3 33 "HopRouters" "arriving" "LHopRouters$Packet;" ∈ hr_W := hr_W_mem (hr_t1 (n := 108) rfl) rfl
theorem kF_X3_153 : Cond.fieldLink RX3 153 "HopRouters" "time" "I" ∈ hr_W := hr_W_mem (hr_t1 (n := 109) rfl) rfl
theorem kF_X3_45 : Cond.fieldLink RX3 45 "HopRouters" "linksUp" "I" ∈ hr_W := hr_W_mem (hr_t1 (n := 110) rfl) rfl
theorem kF_X3_156 : Cond.fieldLink RX3 156 "HopRouters" "unsoundPackets" "I" ∈ hr_W := hr_W_mem (hr_t1 (n := 111) rfl) rfl
theorem kM_L_68 : Cond.methodLink RL 68 yL_link ∈ hr_W := hr_W_mem (hr_t1 (n := 129) rfl) rfl
theorem kT_L_link : Cond.static yL_link ∈ hr_W := hr_W_mem (hr_t1 (n := 130) rfl) rfl
theorem kC_L_link : Cond.codeWith yL_link cL_link 6 (some .int) [(0, 19, 22, 13), (0, 19, 26, 15)] ∈ hr_W := hr_W_mem (hr_t1 (n := 131) rfl) rfl
theorem kL_L_13 : Cond.classLink RL 13 "java/lang/IndexOutOfBoundsException" ∈ hr_W := hr_W_mem (hr_t1 (n := 132) rfl) rfl
theorem kL_L_15 : Cond.classLink RL 15 "java/lang/IllegalArgumentException" ∈ hr_W := hr_W_mem (hr_t1 (n := 133) rfl) rfl
theorem kM_L_7 : Cond.methodLink RL 7 yX3_link ∈ hr_W := hr_W_mem (hr_t1 (n := 134) rfl) rfl
theorem kI_X3_link : Cond.instanceMethod yX3_link ∈ hr_W := hr_W_mem (hr_t1 (n := 135) rfl) rfl
theorem kS_X3_link : Cond.selects RX3 yX3_link yX3_link ∈ hr_W := hr_W_mem (hr_t1 (n := 136) rfl) rfl
theorem kC_X3_link : Cond.code yX3_link cX3_link 4 (some .boolean) ∈ hr_W := hr_W_mem (hr_t1 (n := 137) rfl) rfl
theorem kM_X3_37 : Cond.methodLink RX3 37 yX3_checkPair ∈ hr_W := hr_W_mem (hr_t1 (n := 138) rfl) rfl
theorem kT_X3_checkPair : Cond.static yX3_checkPair ∈ hr_W := hr_W_mem (hr_t1 (n := 139) rfl) rfl
theorem kC_X3_checkPair : Cond.code yX3_checkPair cX3_checkPair 2 none ∈ hr_W := hr_W_mem (hr_t1 (n := 140) rfl) rfl
theorem kM_X3_60 : Cond.methodLink RX3 60 yX3_checkRouter ∈ hr_W := hr_W_mem (hr_t1 (n := 141) rfl) rfl
theorem kT_X3_checkRouter : Cond.static yX3_checkRouter ∈ hr_W := hr_W_mem (hr_t1 (n := 142) rfl) rfl
theorem kC_X3_checkRouter : Cond.code yX3_checkRouter cX3_checkRouter 1 none ∈ hr_W := hr_W_mem (hr_t1 (n := 143) rfl) rfl
theorem kL_X3_131 : Cond.classLink RX3 131 "java/lang/IndexOutOfBoundsException" ∈ hr_W := hr_W_mem (hr_t1 (n := 144) rfl) rfl
theorem kM_X3_135 : Cond.methodLink RX3 135 ⟨"java/lang/IndexOutOfBoundsException", "<init>", "(Ljava/lang/String;)V"⟩ ∈ hr_W := hr_W_mem (hr_t1 (n := 186) rfl) rfl
theorem kA_byte : Cond.arrayClass .byte ∈ hr_W := hr_W_mem (hr_t1 (n := 211) rfl) rfl
theorem kL_X3_82 : Cond.classLink RX3 82 "java/lang/IllegalArgumentException" ∈ hr_W := hr_W_mem (hr_t1 (n := 212) rfl) rfl
theorem kM_X3_86 : Cond.methodLink RX3 86 ⟨"java/lang/IllegalArgumentException", "<init>", "(Ljava/lang/String;)V"⟩ ∈ hr_W := hr_W_mem (hr_t1 (n := 222) rfl) rfl
theorem kM_X3_41 : Cond.methodLink RX3 41 yX3_isUp ∈ hr_W := hr_W_mem (hr_t1 (n := 228) rfl) rfl
theorem kI_X3_isUp : Cond.instanceMethod yX3_isUp ∈ hr_W := hr_W_mem (hr_t1 (n := 230) rfl) rfl
theorem kC_X3_isUp : Cond.code yX3_isUp cX3_isUp 3 (some .boolean) ∈ hr_W := hr_W_mem (hr_t1 (n := 231) rfl) rfl
theorem kM_L_78 : Cond.methodLink RL 78 yL_sees ∈ hr_W := hr_W_mem (hr_t1 (n := 232) rfl) rfl
theorem kT_L_sees : Cond.static yL_sees ∈ hr_W := hr_W_mem (hr_t1 (n := 233) rfl) rfl
theorem kC_L_sees : Cond.codeWith yL_sees cL_sees 5 (some .int) [(0, 10, 13, 13), (0, 10, 17, 15), (0, 10, 21, 21)] ∈ hr_W := hr_W_mem (hr_t1 (n := 234) rfl) rfl
theorem kL_L_21 : Cond.classLink RL 21 "java/lang/IllegalStateException" ∈ hr_W := hr_W_mem (hr_t1 (n := 235) rfl) rfl
theorem kM_L_17 : Cond.methodLink RL 17 yX3_sees ∈ hr_W := hr_W_mem (hr_t1 (n := 236) rfl) rfl
theorem kI_X3_sees : Cond.instanceMethod yX3_sees ∈ hr_W := hr_W_mem (hr_t1 (n := 237) rfl) rfl
theorem kS_X3_sees : Cond.selects RX3 yX3_sees yX3_sees ∈ hr_W := hr_W_mem (hr_t1 (n := 238) rfl) rfl
theorem kC_X3_sees : Cond.code yX3_sees cX3_sees 3 (some .int) ∈ hr_W := hr_W_mem (hr_t1 (n := 239) rfl) rfl
theorem kL_X3_49 : Cond.classLink RX3 49 "java/lang/IllegalStateException" ∈ hr_W := hr_W_mem (hr_t2 (n := 0) rfl) rfl
theorem kM_X3_53 : Cond.methodLink RX3 53 ⟨"java/lang/IllegalStateException", "<init>", "(Ljava/lang/String;)V"⟩ ∈ hr_W := hr_W_mem (hr_t2 (n := 10) rfl) rfl
theorem kM_X3_56 : Cond.methodLink RX3 56 yX2_loseNext ∈ hr_W := hr_W_mem (hr_t2 (n := 16) rfl) rfl
theorem kI_X2_loseNext : Cond.instanceMethod yX2_loseNext ∈ hr_W := hr_W_mem (hr_t2 (n := 17) rfl) rfl
theorem kS_X2_loseNext : Cond.selects RX2 yX2_loseNext yX2_loseNext ∈ hr_W := hr_W_mem (hr_t2 (n := 18) rfl) rfl
theorem kC_X2_loseNext : Cond.code yX2_loseNext cX2_loseNext 4 (some .int) ∈ hr_W := hr_W_mem (hr_t2 (n := 19) rfl) rfl
theorem kM_X2_59 : Cond.methodLink RX2 59 yX2_reaches ∈ hr_W := hr_W_mem (hr_t2 (n := 20) rfl) rfl
theorem kI_X2_reaches : Cond.instanceMethod yX2_reaches ∈ hr_W := hr_W_mem (hr_t2 (n := 21) rfl) rfl
theorem kS_X2_reaches : Cond.selects RX2 yX2_reaches yX2_reaches ∈ hr_W := hr_W_mem (hr_t2 (n := 22) rfl) rfl
theorem kC_X2_reaches : Cond.code yX2_reaches cX2_reaches 2 (some .boolean) ∈ hr_W := hr_W_mem (hr_t2 (n := 23) rfl) rfl
theorem kM_X2_34 : Cond.methodLink RX2 34 yX2_has ∈ hr_W := hr_W_mem (hr_t2 (n := 24) rfl) rfl
theorem kI_X2_has : Cond.instanceMethod yX2_has ∈ hr_W := hr_W_mem (hr_t2 (n := 25) rfl) rfl
theorem kS_X2_has : Cond.selects RX2 yX2_has yX2_has ∈ hr_W := hr_W_mem (hr_t2 (n := 26) rfl) rfl
theorem kC_X2_has : Cond.code yX2_has cX2_has 2 (some .boolean) ∈ hr_W := hr_W_mem (hr_t2 (n := 27) rfl) rfl
theorem kM_X2_52 : Cond.methodLink RX2 52 yX2_becomeGone ∈ hr_W := hr_W_mem (hr_t2 (n := 28) rfl) rfl
theorem kI_X2_becomeGone : Cond.instanceMethod yX2_becomeGone ∈ hr_W := hr_W_mem (hr_t2 (n := 30) rfl) rfl
theorem kC_X2_becomeGone : Cond.code yX2_becomeGone cX2_becomeGone 2 none ∈ hr_W := hr_W_mem (hr_t2 (n := 31) rfl) rfl
theorem kM_L_82 : Cond.methodLink RL 82 yL_restart ∈ hr_W := hr_W_mem (hr_t2 (n := 32) rfl) rfl
theorem kT_L_restart : Cond.static yL_restart ∈ hr_W := hr_W_mem (hr_t2 (n := 33) rfl) rfl
theorem kC_L_restart : Cond.codeWith yL_restart cL_restart 4 (some .int) [(0, 9, 12, 13)] ∈ hr_W := hr_W_mem (hr_t2 (n := 34) rfl) rfl
theorem kM_L_23 : Cond.methodLink RL 23 yX3_restart ∈ hr_W := hr_W_mem (hr_t2 (n := 35) rfl) rfl
theorem kI_X3_restart : Cond.instanceMethod yX3_restart ∈ hr_W := hr_W_mem (hr_t2 (n := 36) rfl) rfl
theorem kS_X3_restart : Cond.selects RX3 yX3_restart yX3_restart ∈ hr_W := hr_W_mem (hr_t2 (n := 37) rfl) rfl
theorem kC_X3_restart : Cond.code yX3_restart cX3_restart 3 (some .int) ∈ hr_W := hr_W_mem (hr_t2 (n := 38) rfl) rfl
theorem kM_X3_64 : Cond.methodLink RX3 64 yX2_forgetAll ∈ hr_W := hr_W_mem (hr_t2 (n := 39) rfl) rfl
theorem kI_X2_forgetAll : Cond.instanceMethod yX2_forgetAll ∈ hr_W := hr_W_mem (hr_t2 (n := 40) rfl) rfl
theorem kS_X2_forgetAll : Cond.selects RX2 yX2_forgetAll yX2_forgetAll ∈ hr_W := hr_W_mem (hr_t2 (n := 41) rfl) rfl
theorem kC_X2_forgetAll : Cond.code yX2_forgetAll cX2_forgetAll 2 none ∈ hr_W := hr_W_mem (hr_t2 (n := 42) rfl) rfl
theorem kM_X2_56 : Cond.methodLink RX2 56 yX2_forget ∈ hr_W := hr_W_mem (hr_t2 (n := 43) rfl) rfl
theorem kI_X2_forget : Cond.instanceMethod yX2_forget ∈ hr_W := hr_W_mem (hr_t2 (n := 45) rfl) rfl
theorem kC_X2_forget : Cond.code yX2_forget cX2_forget 2 none ∈ hr_W := hr_W_mem (hr_t2 (n := 46) rfl) rfl
theorem kK_X3_67 : Cond.constant RX3 67 (16908288) ∈ hr_W := hr_W_mem (hr_t2 (n := 47) rfl) rfl
theorem kM_X3_68 : Cond.methodLink RX3 68 yX1_begin ∈ hr_W := hr_W_mem (hr_t2 (n := 48) rfl) rfl
theorem kI_X1_begin : Cond.instanceMethod yX1_begin ∈ hr_W := hr_W_mem (hr_t2 (n := 49) rfl) rfl
theorem kS_X1_begin : Cond.selects RX1 yX1_begin yX1_begin ∈ hr_W := hr_W_mem (hr_t2 (n := 50) rfl) rfl
theorem kC_X1_begin : Cond.code yX1_begin cX1_begin 4 none ∈ hr_W := hr_W_mem (hr_t2 (n := 51) rfl) rfl
theorem kM_X3_72 : Cond.methodLink RX3 72 yX1_addEntry ∈ hr_W := hr_W_mem (hr_t2 (n := 52) rfl) rfl
theorem kI_X1_addEntry : Cond.instanceMethod yX1_addEntry ∈ hr_W := hr_W_mem (hr_t2 (n := 53) rfl) rfl
theorem kS_X1_addEntry : Cond.selects RX1 yX1_addEntry yX1_addEntry ∈ hr_W := hr_W_mem (hr_t2 (n := 54) rfl) rfl
theorem kC_X1_addEntry : Cond.code yX1_addEntry cX1_addEntry 5 none ∈ hr_W := hr_W_mem (hr_t2 (n := 55) rfl) rfl
theorem kM_X1_25 : Cond.methodLink RX1 25 yX1_entries ∈ hr_W := hr_W_mem (hr_t2 (n := 56) rfl) rfl
theorem kI_X1_entries : Cond.instanceMethod yX1_entries ∈ hr_W := hr_W_mem (hr_t2 (n := 57) rfl) rfl
theorem kS_X1_entries : Cond.selects RX1 yX1_entries yX1_entries ∈ hr_W := hr_W_mem (hr_t2 (n := 58) rfl) rfl
theorem kC_X1_entries : Cond.code yX1_entries cX1_entries 1 (some .int) ∈ hr_W := hr_W_mem (hr_t2 (n := 59) rfl) rfl
theorem kM_X1_29 : Cond.methodLink RX1 29 yX1_firstWord ∈ hr_W := hr_W_mem (hr_t2 (n := 60) rfl) rfl
theorem kT_X1_firstWord : Cond.static yX1_firstWord ∈ hr_W := hr_W_mem (hr_t2 (n := 61) rfl) rfl
theorem kC_X1_firstWord : Cond.code yX1_firstWord cX1_firstWord 1 (some .int) ∈ hr_W := hr_W_mem (hr_t2 (n := 62) rfl) rfl
theorem kK_X1_33 : Cond.constant RX1 33 (167772160) ∈ hr_W := hr_W_mem (hr_t2 (n := 63) rfl) rfl
theorem kM_X3_75 : Cond.methodLink RX3 75 yX0_launch ∈ hr_W := hr_W_mem (hr_t2 (n := 64) rfl) rfl
theorem kI_X0_launch : Cond.instanceMethod yX0_launch ∈ hr_W := hr_W_mem (hr_t2 (n := 65) rfl) rfl
theorem kS_X0_launch : Cond.selects RX0 yX0_launch yX0_launch ∈ hr_W := hr_W_mem (hr_t2 (n := 66) rfl) rfl
theorem kC_X0_launch : Cond.code yX0_launch cX0_launch 2 none ∈ hr_W := hr_W_mem (hr_t2 (n := 67) rfl) rfl
theorem kM_X0_32 : Cond.methodLink RX0 32 yX1_become ∈ hr_W := hr_W_mem (hr_t2 (n := 68) rfl) rfl
theorem kI_X1_become : Cond.instanceMethod yX1_become ∈ hr_W := hr_W_mem (hr_t2 (n := 69) rfl) rfl
theorem kS_X1_become : Cond.selects RX1 yX1_become yX1_become ∈ hr_W := hr_W_mem (hr_t2 (n := 70) rfl) rfl
theorem kC_X1_become : Cond.code yX1_become cX1_become 2 none ∈ hr_W := hr_W_mem (hr_t2 (n := 71) rfl) rfl
theorem kM_X1_34 : Cond.methodLink RX1 34 arraycopyName ∈ hr_W := hr_W_mem (hr_t2 (n := 72) rfl) rfl
theorem kT_arraycopy : Cond.static arraycopyName ∈ hr_W := hr_W_mem (hr_t2 (n := 73) rfl) rfl
theorem kV_arraycopy : Cond.native arraycopyName ∈ hr_W := hr_W_mem (hr_t2 (n := 74) rfl) rfl
theorem kM_L_86 : Cond.methodLink RL 86 yL_ask ∈ hr_W := hr_W_mem (hr_t2 (n := 75) rfl) rfl
theorem kT_L_ask : Cond.static yL_ask ∈ hr_W := hr_W_mem (hr_t2 (n := 76) rfl) rfl
theorem kC_L_ask : Cond.codeWith yL_ask cL_ask 6 (some .int) [(0, 12, 15, 13), (0, 12, 19, 15), (0, 12, 23, 21)] ∈ hr_W := hr_W_mem (hr_t2 (n := 77) rfl) rfl
theorem kM_L_27 : Cond.methodLink RL 27 yX3_ask ∈ hr_W := hr_W_mem (hr_t2 (n := 78) rfl) rfl
theorem kI_X3_ask : Cond.instanceMethod yX3_ask ∈ hr_W := hr_W_mem (hr_t2 (n := 79) rfl) rfl
theorem kS_X3_ask : Cond.selects RX3 yX3_ask yX3_ask ∈ hr_W := hr_W_mem (hr_t2 (n := 80) rfl) rfl
theorem kC_X3_ask : Cond.code yX3_ask cX3_ask 5 (some .int) ∈ hr_W := hr_W_mem (hr_t2 (n := 81) rfl) rfl
theorem kM_L_90 : Cond.methodLink RL 90 yL_tick ∈ hr_W := hr_W_mem (hr_t2 (n := 84) rfl) rfl
theorem kT_L_tick : Cond.static yL_tick ∈ hr_W := hr_W_mem (hr_t2 (n := 85) rfl) rfl
theorem kC_L_tick : Cond.codeWith yL_tick cL_tick 5 (some .int) [(0, 10, 13, 15)] ∈ hr_W := hr_W_mem (hr_t2 (n := 86) rfl) rfl
theorem kM_L_31 : Cond.methodLink RL 31 yX3_tick ∈ hr_W := hr_W_mem (hr_t2 (n := 87) rfl) rfl
theorem kI_X3_tick : Cond.instanceMethod yX3_tick ∈ hr_W := hr_W_mem (hr_t2 (n := 88) rfl) rfl
theorem kS_X3_tick : Cond.selects RX3 yX3_tick yX3_tick ∈ hr_W := hr_W_mem (hr_t2 (n := 89) rfl) rfl
theorem kC_X3_tick : Cond.code yX3_tick cX3_tick 5 (some .int) ∈ hr_W := hr_W_mem (hr_t2 (n := 90) rfl) rfl
theorem kM_X3_91 : Cond.methodLink RX3 91 yX3_passTime ∈ hr_W := hr_W_mem (hr_t2 (n := 92) rfl) rfl
theorem kI_X3_passTime : Cond.instanceMethod yX3_passTime ∈ hr_W := hr_W_mem (hr_t2 (n := 94) rfl) rfl
theorem kC_X3_passTime : Cond.code yX3_passTime cX3_passTime 2 none ∈ hr_W := hr_W_mem (hr_t2 (n := 95) rfl) rfl
theorem kM_X3_167 : Cond.methodLink RX3 167 yX2_growOlder ∈ hr_W := hr_W_mem (hr_t2 (n := 96) rfl) rfl
theorem kI_X2_growOlder : Cond.instanceMethod yX2_growOlder ∈ hr_W := hr_W_mem (hr_t2 (n := 97) rfl) rfl
theorem kS_X2_growOlder : Cond.selects RX2 yX2_growOlder yX2_growOlder ∈ hr_W := hr_W_mem (hr_t2 (n := 98) rfl) rfl
theorem kC_X2_growOlder : Cond.code yX2_growOlder cX2_growOlder 2 none ∈ hr_W := hr_W_mem (hr_t2 (n := 99) rfl) rfl
theorem kM_X2_62 : Cond.methodLink RX2 62 yX2_ageRoute ∈ hr_W := hr_W_mem (hr_t2 (n := 100) rfl) rfl
theorem kI_X2_ageRoute : Cond.instanceMethod yX2_ageRoute ∈ hr_W := hr_W_mem (hr_t2 (n := 102) rfl) rfl
theorem kC_X2_ageRoute : Cond.code yX2_ageRoute cX2_ageRoute 2 none ∈ hr_W := hr_W_mem (hr_t2 (n := 103) rfl) rfl
theorem kM_X3_170 : Cond.methodLink RX3 170 yX3_tellInTurn ∈ hr_W := hr_W_mem (hr_t2 (n := 104) rfl) rfl
theorem kI_X3_tellInTurn : Cond.instanceMethod yX3_tellInTurn ∈ hr_W := hr_W_mem (hr_t2 (n := 106) rfl) rfl
theorem kC_X3_tellInTurn : Cond.code yX3_tellInTurn cX3_tellInTurn 5 none ∈ hr_W := hr_W_mem (hr_t2 (n := 107) rfl) rfl
theorem kM_X3_173 : Cond.methodLink RX3 173 yX2_hasChanges ∈ hr_W := hr_W_mem (hr_t2 (n := 108) rfl) rfl
theorem kI_X2_hasChanges : Cond.instanceMethod yX2_hasChanges ∈ hr_W := hr_W_mem (hr_t2 (n := 109) rfl) rfl
theorem kS_X2_hasChanges : Cond.selects RX2 yX2_hasChanges yX2_hasChanges ∈ hr_W := hr_W_mem (hr_t2 (n := 110) rfl) rfl
theorem kC_X2_hasChanges : Cond.code yX2_hasChanges cX2_hasChanges 2 (some .boolean) ∈ hr_W := hr_W_mem (hr_t2 (n := 111) rfl) rfl
theorem kM_X3_177 : Cond.methodLink RX3 177 yX3_tell ∈ hr_W := hr_W_mem (hr_t2 (n := 112) rfl) rfl
theorem kI_X3_tell : Cond.instanceMethod yX3_tell ∈ hr_W := hr_W_mem (hr_t2 (n := 114) rfl) rfl
theorem kC_X3_tell : Cond.code yX3_tell cX3_tell 6 none ∈ hr_W := hr_W_mem (hr_t2 (n := 115) rfl) rfl
theorem kK_X3_184 : Cond.constant RX3 184 (33685504) ∈ hr_W := hr_W_mem (hr_t2 (n := 116) rfl) rfl
theorem kM_X3_185 : Cond.methodLink RX3 185 yX2_has ∈ hr_W := hr_W_mem (hr_t2 (n := 117) rfl) rfl
theorem kM_X3_191 : Cond.methodLink RX3 191 yX2_metricTold ∈ hr_W := hr_W_mem (hr_t2 (n := 118) rfl) rfl
theorem kI_X2_metricTold : Cond.instanceMethod yX2_metricTold ∈ hr_W := hr_W_mem (hr_t2 (n := 119) rfl) rfl
theorem kS_X2_metricTold : Cond.selects RX2 yX2_metricTold yX2_metricTold ∈ hr_W := hr_W_mem (hr_t2 (n := 120) rfl) rfl
theorem kC_X2_metricTold : Cond.code yX2_metricTold cX2_metricTold 3 (some .int) ∈ hr_W := hr_W_mem (hr_t2 (n := 121) rfl) rfl
theorem kM_X2_38 : Cond.methodLink RX2 38 Lib.Math.min.name ∈ hr_W := hr_W_mem (hr_t2 (n := 122) rfl) rfl
theorem kT_min : Cond.static Lib.Math.min.name ∈ hr_W := hr_W_mem (hr_t2 (n := 123) rfl) rfl
theorem kC_min : Cond.code Lib.Math.min.name Lib.Math.min.code 2 (some .int) ∈ hr_W := hr_W_mem (hr_t2 (n := 124) rfl) rfl
theorem kM_X3_181 : Cond.methodLink RX3 181 yX2_clearChanges ∈ hr_W := hr_W_mem (hr_t2 (n := 125) rfl) rfl
theorem kI_X2_clearChanges : Cond.instanceMethod yX2_clearChanges ∈ hr_W := hr_W_mem (hr_t2 (n := 126) rfl) rfl
theorem kS_X2_clearChanges : Cond.selects RX2 yX2_clearChanges yX2_clearChanges ∈ hr_W := hr_W_mem (hr_t2 (n := 127) rfl) rfl
theorem kC_X2_clearChanges : Cond.code yX2_clearChanges cX2_clearChanges 2 none ∈ hr_W := hr_W_mem (hr_t2 (n := 128) rfl) rfl
theorem kM_X3_94 : Cond.methodLink RX3 94 yX3_bring ∈ hr_W := hr_W_mem (hr_t2 (n := 129) rfl) rfl
theorem kI_X3_bring : Cond.instanceMethod yX3_bring ∈ hr_W := hr_W_mem (hr_t2 (n := 131) rfl) rfl
theorem kC_X3_bring : Cond.code yX3_bring cX3_bring 2 (some .boolean) ∈ hr_W := hr_W_mem (hr_t2 (n := 132) rfl) rfl
theorem kM_X3_104 : Cond.methodLink RX3 104 yX0_at ∈ hr_W := hr_W_mem (hr_t2 (n := 133) rfl) rfl
theorem kI_X0_at : Cond.instanceMethod yX0_at ∈ hr_W := hr_W_mem (hr_t2 (n := 134) rfl) rfl
theorem kS_X0_at : Cond.selects RX0 yX0_at yX0_at ∈ hr_W := hr_W_mem (hr_t2 (n := 135) rfl) rfl
theorem kC_X0_at : Cond.code yX0_at cX0_at 2 (some (.object "HopRouters$Packet")) ∈ hr_W := hr_W_mem (hr_t2 (n := 136) rfl) rfl
theorem kM_X3_194 : Cond.methodLink RX3 194 yX1_become ∈ hr_W := hr_W_mem (hr_t2 (n := 137) rfl) rfl
theorem kM_X3_101 : Cond.methodLink RX3 101 yX0_remove ∈ hr_W := hr_W_mem (hr_t2 (n := 138) rfl) rfl
theorem kI_X0_remove : Cond.instanceMethod yX0_remove ∈ hr_W := hr_W_mem (hr_t2 (n := 139) rfl) rfl
theorem kS_X0_remove : Cond.selects RX0 yX0_remove yX0_remove ∈ hr_W := hr_W_mem (hr_t2 (n := 140) rfl) rfl
theorem kC_X0_remove : Cond.code yX0_remove cX0_remove 3 none ∈ hr_W := hr_W_mem (hr_t2 (n := 141) rfl) rfl
theorem kM_X0_36 : Cond.methodLink RX0 36 arraycopyName ∈ hr_W := hr_W_mem (hr_t2 (n := 142) rfl) rfl
theorem kM_X3_197 : Cond.methodLink RX3 197 yX1_isSound ∈ hr_W := hr_W_mem (hr_t2 (n := 143) rfl) rfl
theorem kI_X1_isSound : Cond.instanceMethod yX1_isSound ∈ hr_W := hr_W_mem (hr_t2 (n := 144) rfl) rfl
theorem kS_X1_isSound : Cond.selects RX1 yX1_isSound yX1_isSound ∈ hr_W := hr_W_mem (hr_t2 (n := 145) rfl) rfl
theorem kC_X1_isSound : Cond.code yX1_isSound cX1_isSound 1 (some .boolean) ∈ hr_W := hr_W_mem (hr_t2 (n := 146) rfl) rfl
theorem kK_X1_43 : Cond.constant RX1 43 (16908288) ∈ hr_W := hr_W_mem (hr_t2 (n := 147) rfl) rfl
theorem kK_X1_44 : Cond.constant RX1 44 (33685504) ∈ hr_W := hr_W_mem (hr_t2 (n := 148) rfl) rfl
theorem kM_X3_200 : Cond.methodLink RX3 200 yX1_isRequest ∈ hr_W := hr_W_mem (hr_t2 (n := 149) rfl) rfl
theorem kI_X1_isRequest : Cond.instanceMethod yX1_isRequest ∈ hr_W := hr_W_mem (hr_t2 (n := 150) rfl) rfl
theorem kS_X1_isRequest : Cond.selects RX1 yX1_isRequest yX1_isRequest ∈ hr_W := hr_W_mem (hr_t2 (n := 151) rfl) rfl
theorem kC_X1_isRequest : Cond.code yX1_isRequest cX1_isRequest 1 (some .boolean) ∈ hr_W := hr_W_mem (hr_t2 (n := 152) rfl) rfl
theorem kM_X3_203 : Cond.methodLink RX3 203 yX3_answerRequest ∈ hr_W := hr_W_mem (hr_t2 (n := 153) rfl) rfl
theorem kI_X3_answerRequest : Cond.instanceMethod yX3_answerRequest ∈ hr_W := hr_W_mem (hr_t2 (n := 155) rfl) rfl
theorem kC_X3_answerRequest : Cond.code yX3_answerRequest cX3_answerRequest 5 none ∈ hr_W := hr_W_mem (hr_t2 (n := 156) rfl) rfl
theorem kM_X3_225 : Cond.methodLink RX3 225 yX1_asksForAll ∈ hr_W := hr_W_mem (hr_t2 (n := 157) rfl) rfl
theorem kI_X1_asksForAll : Cond.instanceMethod yX1_asksForAll ∈ hr_W := hr_W_mem (hr_t2 (n := 158) rfl) rfl
theorem kS_X1_asksForAll : Cond.selects RX1 yX1_asksForAll yX1_asksForAll ∈ hr_W := hr_W_mem (hr_t2 (n := 159) rfl) rfl
theorem kC_X1_asksForAll : Cond.code yX1_asksForAll cX1_asksForAll 1 (some .boolean) ∈ hr_W := hr_W_mem (hr_t2 (n := 160) rfl) rfl
theorem kK_X1_53 : Cond.constant RX1 53 (65280) ∈ hr_W := hr_W_mem (hr_t2 (n := 161) rfl) rfl
theorem kM_X1_49 : Cond.methodLink RX1 49 yX1_hasPlainFields ∈ hr_W := hr_W_mem (hr_t2 (n := 162) rfl) rfl
theorem kI_X1_hasPlainFields : Cond.instanceMethod yX1_hasPlainFields ∈ hr_W := hr_W_mem (hr_t2 (n := 164) rfl) rfl
theorem kC_X1_hasPlainFields : Cond.code yX1_hasPlainFields cX1_hasPlainFields 4 (some .boolean) ∈ hr_W := hr_W_mem (hr_t2 (n := 165) rfl) rfl
theorem kM_X1_45 : Cond.methodLink RX1 45 yX1_metric ∈ hr_W := hr_W_mem (hr_t2 (n := 166) rfl) rfl
theorem kI_X1_metric : Cond.instanceMethod yX1_metric ∈ hr_W := hr_W_mem (hr_t2 (n := 167) rfl) rfl
theorem kS_X1_metric : Cond.selects RX1 yX1_metric yX1_metric ∈ hr_W := hr_W_mem (hr_t2 (n := 168) rfl) rfl
theorem kC_X1_metric : Cond.code yX1_metric cX1_metric 2 (some .int) ∈ hr_W := hr_W_mem (hr_t2 (n := 169) rfl) rfl
theorem kM_X3_209 : Cond.methodLink RX3 209 yX1_entries ∈ hr_W := hr_W_mem (hr_t2 (n := 170) rfl) rfl
theorem kM_X3_213 : Cond.methodLink RX3 213 yX1_isSoundEntry ∈ hr_W := hr_W_mem (hr_t2 (n := 171) rfl) rfl
theorem kI_X1_isSoundEntry : Cond.instanceMethod yX1_isSoundEntry ∈ hr_W := hr_W_mem (hr_t2 (n := 172) rfl) rfl
theorem kS_X1_isSoundEntry : Cond.selects RX1 yX1_isSoundEntry yX1_isSoundEntry ∈ hr_W := hr_W_mem (hr_t2 (n := 173) rfl) rfl
theorem kC_X1_isSoundEntry : Cond.code yX1_isSoundEntry cX1_isSoundEntry 3 (some .boolean) ∈ hr_W := hr_W_mem (hr_t2 (n := 174) rfl) rfl
theorem kK_X1_48 : Cond.constant RX1 48 (131072) ∈ hr_W := hr_W_mem (hr_t2 (n := 175) rfl) rfl
theorem kM_X3_216 : Cond.methodLink RX3 216 yX1_destination ∈ hr_W := hr_W_mem (hr_t2 (n := 176) rfl) rfl
theorem kI_X1_destination : Cond.instanceMethod yX1_destination ∈ hr_W := hr_W_mem (hr_t2 (n := 177) rfl) rfl
theorem kS_X1_destination : Cond.selects RX1 yX1_destination yX1_destination ∈ hr_W := hr_W_mem (hr_t2 (n := 178) rfl) rfl
theorem kC_X1_destination : Cond.code yX1_destination cX1_destination 2 (some .int) ∈ hr_W := hr_W_mem (hr_t2 (n := 179) rfl) rfl
theorem kM_X3_228 : Cond.methodLink RX3 228 yX3_metricAnswered ∈ hr_W := hr_W_mem (hr_t2 (n := 180) rfl) rfl
theorem kI_X3_metricAnswered : Cond.instanceMethod yX3_metricAnswered ∈ hr_W := hr_W_mem (hr_t2 (n := 182) rfl) rfl
theorem kC_X3_metricAnswered : Cond.code yX3_metricAnswered cX3_metricAnswered 3 (some .int) ∈ hr_W := hr_W_mem (hr_t2 (n := 183) rfl) rfl
theorem kM_X3_206 : Cond.methodLink RX3 206 yX3_hearResponse ∈ hr_W := hr_W_mem (hr_t2 (n := 184) rfl) rfl
theorem kI_X3_hearResponse : Cond.instanceMethod yX3_hearResponse ∈ hr_W := hr_W_mem (hr_t2 (n := 186) rfl) rfl
theorem kC_X3_hearResponse : Cond.code yX3_hearResponse cX3_hearResponse 5 none ∈ hr_W := hr_W_mem (hr_t2 (n := 187) rfl) rfl
theorem kM_X3_219 : Cond.methodLink RX3 219 yX1_metric ∈ hr_W := hr_W_mem (hr_t2 (n := 188) rfl) rfl
theorem kM_X3_222 : Cond.methodLink RX3 222 yX2_hear ∈ hr_W := hr_W_mem (hr_t2 (n := 189) rfl) rfl
theorem kI_X2_hear : Cond.instanceMethod yX2_hear ∈ hr_W := hr_W_mem (hr_t2 (n := 190) rfl) rfl
theorem kS_X2_hear : Cond.selects RX2 yX2_hear yX2_hear ∈ hr_W := hr_W_mem (hr_t2 (n := 191) rfl) rfl
theorem kC_X2_hear : Cond.code yX2_hear cX2_hear 4 none ∈ hr_W := hr_W_mem (hr_t2 (n := 192) rfl) rfl
theorem kM_X2_44 : Cond.methodLink RX2 44 yX2_adopt ∈ hr_W := hr_W_mem (hr_t2 (n := 193) rfl) rfl
theorem kI_X2_adopt : Cond.instanceMethod yX2_adopt ∈ hr_W := hr_W_mem (hr_t2 (n := 195) rfl) rfl
theorem kC_X2_adopt : Cond.code yX2_adopt cX2_adopt 4 none ∈ hr_W := hr_W_mem (hr_t2 (n := 196) rfl) rfl
theorem kM_X2_48 : Cond.methodLink RX2 48 yX2_hearFromNext ∈ hr_W := hr_W_mem (hr_t2 (n := 197) rfl) rfl
theorem kI_X2_hearFromNext : Cond.instanceMethod yX2_hearFromNext ∈ hr_W := hr_W_mem (hr_t2 (n := 199) rfl) rfl
theorem kC_X2_hearFromNext : Cond.code yX2_hearFromNext cX2_hearFromNext 3 none ∈ hr_W := hr_W_mem (hr_t2 (n := 200) rfl) rfl
theorem kM_L_94 : Cond.methodLink RL 94 yL_deliver ∈ hr_W := hr_W_mem (hr_t2 (n := 201) rfl) rfl
theorem kT_L_deliver : Cond.static yL_deliver ∈ hr_W := hr_W_mem (hr_t2 (n := 202) rfl) rfl
theorem kC_L_deliver : Cond.codeWith yL_deliver cL_deliver 4 (some .int) [(0, 16, 19, 13)] ∈ hr_W := hr_W_mem (hr_t2 (n := 203) rfl) rfl
theorem kM_L_35 : Cond.methodLink RL 35 yX3_deliver ∈ hr_W := hr_W_mem (hr_t2 (n := 204) rfl) rfl
theorem kI_X3_deliver : Cond.instanceMethod yX3_deliver ∈ hr_W := hr_W_mem (hr_t2 (n := 205) rfl) rfl
theorem kS_X3_deliver : Cond.selects RX3 yX3_deliver yX3_deliver ∈ hr_W := hr_W_mem (hr_t2 (n := 206) rfl) rfl
theorem kC_X3_deliver : Cond.code yX3_deliver cX3_deliver 2 (some .boolean) ∈ hr_W := hr_W_mem (hr_t2 (n := 207) rfl) rfl
theorem kM_X3_98 : Cond.methodLink RX3 98 yX3_checkPacket ∈ hr_W := hr_W_mem (hr_t2 (n := 208) rfl) rfl
theorem kI_X3_checkPacket : Cond.instanceMethod yX3_checkPacket ∈ hr_W := hr_W_mem (hr_t2 (n := 210) rfl) rfl
theorem kC_X3_checkPacket : Cond.code yX3_checkPacket cX3_checkPacket 2 none ∈ hr_W := hr_W_mem (hr_t2 (n := 211) rfl) rfl
theorem kM_L_97 : Cond.methodLink RL 97 yL_lose ∈ hr_W := hr_W_mem (hr_t2 (n := 213) rfl) rfl
theorem kT_L_lose : Cond.static yL_lose ∈ hr_W := hr_W_mem (hr_t2 (n := 214) rfl) rfl
theorem kC_L_lose : Cond.codeWith yL_lose cL_lose 4 (some .int) [(0, 9, 12, 13)] ∈ hr_W := hr_W_mem (hr_t2 (n := 215) rfl) rfl
theorem kM_L_39 : Cond.methodLink RL 39 yX3_lose ∈ hr_W := hr_W_mem (hr_t2 (n := 216) rfl) rfl
theorem kI_X3_lose : Cond.instanceMethod yX3_lose ∈ hr_W := hr_W_mem (hr_t2 (n := 217) rfl) rfl
theorem kS_X3_lose : Cond.selects RX3 yX3_lose yX3_lose ∈ hr_W := hr_W_mem (hr_t2 (n := 218) rfl) rfl
theorem kC_X3_lose : Cond.code yX3_lose cX3_lose 2 (some .int) ∈ hr_W := hr_W_mem (hr_t2 (n := 219) rfl) rfl
theorem kM_L_100 : Cond.methodLink RL 100 yL_twice ∈ hr_W := hr_W_mem (hr_t2 (n := 220) rfl) rfl
theorem kT_L_twice : Cond.static yL_twice ∈ hr_W := hr_W_mem (hr_t2 (n := 221) rfl) rfl
theorem kC_L_twice : Cond.codeWith yL_twice cL_twice 4 (some .int) [(0, 9, 12, 13)] ∈ hr_W := hr_W_mem (hr_t2 (n := 222) rfl) rfl
theorem kM_L_42 : Cond.methodLink RL 42 yX3_twice ∈ hr_W := hr_W_mem (hr_t2 (n := 223) rfl) rfl
theorem kI_X3_twice : Cond.instanceMethod yX3_twice ∈ hr_W := hr_W_mem (hr_t2 (n := 224) rfl) rfl
theorem kS_X3_twice : Cond.selects RX3 yX3_twice yX3_twice ∈ hr_W := hr_W_mem (hr_t2 (n := 225) rfl) rfl
theorem kC_X3_twice : Cond.code yX3_twice cX3_twice 2 (some .int) ∈ hr_W := hr_W_mem (hr_t2 (n := 226) rfl) rfl
theorem kM_L_103 : Cond.methodLink RL 103 yL_poke ∈ hr_W := hr_W_mem (hr_t2 (n := 227) rfl) rfl
theorem kT_L_poke : Cond.static yL_poke ∈ hr_W := hr_W_mem (hr_t2 (n := 228) rfl) rfl
theorem kC_L_poke : Cond.codeWith yL_poke cL_poke 6 (some .int) [(0, 12, 15, 13), (0, 12, 19, 15)] ∈ hr_W := hr_W_mem (hr_t2 (n := 229) rfl) rfl
theorem kM_L_45 : Cond.methodLink RL 45 yX3_poke ∈ hr_W := hr_W_mem (hr_t2 (n := 230) rfl) rfl
theorem kI_X3_poke : Cond.instanceMethod yX3_poke ∈ hr_W := hr_W_mem (hr_t2 (n := 231) rfl) rfl
theorem kS_X3_poke : Cond.selects RX3 yX3_poke yX3_poke ∈ hr_W := hr_W_mem (hr_t2 (n := 232) rfl) rfl
theorem kC_X3_poke : Cond.code yX3_poke cX3_poke 6 (some .int) ∈ hr_W := hr_W_mem (hr_t2 (n := 233) rfl) rfl
theorem kM_X3_108 : Cond.methodLink RX3 108 yX3_checkByte ∈ hr_W := hr_W_mem (hr_t2 (n := 234) rfl) rfl
theorem kT_X3_checkByte : Cond.static yX3_checkByte ∈ hr_W := hr_W_mem (hr_t2 (n := 235) rfl) rfl
theorem kC_X3_checkByte : Cond.code yX3_checkByte cX3_checkByte 2 none ∈ hr_W := hr_W_mem (hr_t2 (n := 236) rfl) rfl
theorem kM_X3_114 : Cond.methodLink RX3 114 yX1_byteAt ∈ hr_W := hr_W_mem (hr_t2 (n := 239) rfl) rfl
theorem kI_X1_byteAt : Cond.instanceMethod yX1_byteAt ∈ hr_W := hr_W_mem (hr_t3 (n := 0) rfl) rfl
theorem kS_X1_byteAt : Cond.selects RX1 yX1_byteAt yX1_byteAt ∈ hr_W := hr_W_mem (hr_t3 (n := 1) rfl) rfl
theorem kC_X1_byteAt : Cond.code yX1_byteAt cX1_byteAt 2 (some .int) ∈ hr_W := hr_W_mem (hr_t3 (n := 2) rfl) rfl
theorem kM_X1_40 : Cond.methodLink RX1 40 yX1_shiftOf ∈ hr_W := hr_W_mem (hr_t3 (n := 3) rfl) rfl
theorem kT_X1_shiftOf : Cond.static yX1_shiftOf ∈ hr_W := hr_W_mem (hr_t3 (n := 4) rfl) rfl
theorem kC_X1_shiftOf : Cond.code yX1_shiftOf cX1_shiftOf 1 (some .int) ∈ hr_W := hr_W_mem (hr_t3 (n := 5) rfl) rfl
theorem kM_X3_117 : Cond.methodLink RX3 117 yX1_setByte ∈ hr_W := hr_W_mem (hr_t3 (n := 6) rfl) rfl
theorem kI_X1_setByte : Cond.instanceMethod yX1_setByte ∈ hr_W := hr_W_mem (hr_t3 (n := 7) rfl) rfl
theorem kS_X1_setByte : Cond.selects RX1 yX1_setByte yX1_setByte ∈ hr_W := hr_W_mem (hr_t3 (n := 8) rfl) rfl
theorem kC_X1_setByte : Cond.code yX1_setByte cX1_setByte 4 none ∈ hr_W := hr_W_mem (hr_t3 (n := 9) rfl) rfl
theorem kM_L_106 : Cond.methodLink RL 106 yL_cut ∈ hr_W := hr_W_mem (hr_t3 (n := 10) rfl) rfl
theorem kT_L_cut : Cond.static yL_cut ∈ hr_W := hr_W_mem (hr_t3 (n := 11) rfl) rfl
theorem kC_L_cut : Cond.codeWith yL_cut cL_cut 4 (some .int) [(0, 6, 9, 13), (0, 6, 12, 15)] ∈ hr_W := hr_W_mem (hr_t3 (n := 12) rfl) rfl
theorem kM_L_48 : Cond.methodLink RL 48 yX3_cut ∈ hr_W := hr_W_mem (hr_t3 (n := 13) rfl) rfl
theorem kI_X3_cut : Cond.instanceMethod yX3_cut ∈ hr_W := hr_W_mem (hr_t3 (n := 14) rfl) rfl
theorem kS_X3_cut : Cond.selects RX3 yX3_cut yX3_cut ∈ hr_W := hr_W_mem (hr_t3 (n := 15) rfl) rfl
theorem kC_X3_cut : Cond.code yX3_cut cX3_cut 4 none ∈ hr_W := hr_W_mem (hr_t3 (n := 16) rfl) rfl
theorem kM_L_110 : Cond.methodLink RL 110 yL_packet ∈ hr_W := hr_W_mem (hr_t3 (n := 18) rfl) rfl
theorem kT_L_packet : Cond.static yL_packet ∈ hr_W := hr_W_mem (hr_t3 (n := 19) rfl) rfl
theorem kC_L_packet : Cond.codeWith yL_packet cL_packet 5 (some .int) [(0, 10, 13, 13)] ∈ hr_W := hr_W_mem (hr_t3 (n := 20) rfl) rfl
theorem kM_L_52 : Cond.methodLink RL 52 yX3_packet ∈ hr_W := hr_W_mem (hr_t3 (n := 21) rfl) rfl
theorem kI_X3_packet : Cond.instanceMethod yX3_packet ∈ hr_W := hr_W_mem (hr_t3 (n := 22) rfl) rfl
theorem kS_X3_packet : Cond.selects RX3 yX3_packet yX3_packet ∈ hr_W := hr_W_mem (hr_t3 (n := 23) rfl) rfl
theorem kC_X3_packet : Cond.code yX3_packet cX3_packet 4 (some .int) ∈ hr_W := hr_W_mem (hr_t3 (n := 24) rfl) rfl
theorem kM_L_113 : Cond.methodLink RL 113 yL_route ∈ hr_W := hr_W_mem (hr_t3 (n := 25) rfl) rfl
theorem kT_L_route : Cond.static yL_route ∈ hr_W := hr_W_mem (hr_t3 (n := 26) rfl) rfl
theorem kC_L_route : Cond.codeWith yL_route cL_route 6 (some .int) [(0, 12, 15, 13)] ∈ hr_W := hr_W_mem (hr_t3 (n := 27) rfl) rfl
theorem kM_L_55 : Cond.methodLink RL 55 yX3_route ∈ hr_W := hr_W_mem (hr_t3 (n := 28) rfl) rfl
theorem kI_X3_route : Cond.instanceMethod yX3_route ∈ hr_W := hr_W_mem (hr_t3 (n := 29) rfl) rfl
theorem kS_X3_route : Cond.selects RX3 yX3_route yX3_route ∈ hr_W := hr_W_mem (hr_t3 (n := 30) rfl) rfl
theorem kC_X3_route : Cond.code yX3_route cX3_route 4 (some .int) ∈ hr_W := hr_W_mem (hr_t3 (n := 31) rfl) rfl
theorem kM_X3_136 : Cond.methodLink RX3 136 yX2_read ∈ hr_W := hr_W_mem (hr_t3 (n := 33) rfl) rfl
theorem kI_X2_read : Cond.instanceMethod yX2_read ∈ hr_W := hr_W_mem (hr_t3 (n := 34) rfl) rfl
theorem kS_X2_read : Cond.selects RX2 yX2_read yX2_read ∈ hr_W := hr_W_mem (hr_t3 (n := 35) rfl) rfl
theorem kC_X2_read : Cond.code yX2_read cX2_read 3 (some .int) ∈ hr_W := hr_W_mem (hr_t3 (n := 36) rfl) rfl
theorem kM_L_116 : Cond.methodLink RL 116 yL_send ∈ hr_W := hr_W_mem (hr_t3 (n := 37) rfl) rfl
theorem kT_L_send : Cond.static yL_send ∈ hr_W := hr_W_mem (hr_t3 (n := 38) rfl) rfl
theorem kC_L_send : Cond.codeWith yL_send cL_send 5 (some .int) [(0, 10, 13, 13)] ∈ hr_W := hr_W_mem (hr_t3 (n := 39) rfl) rfl
theorem kM_L_58 : Cond.methodLink RL 58 yX3_send ∈ hr_W := hr_W_mem (hr_t3 (n := 40) rfl) rfl
theorem kI_X3_send : Cond.instanceMethod yX3_send ∈ hr_W := hr_W_mem (hr_t3 (n := 41) rfl) rfl
theorem kS_X3_send : Cond.selects RX3 yX3_send yX3_send ∈ hr_W := hr_W_mem (hr_t3 (n := 42) rfl) rfl
theorem kC_X3_send : Cond.code yX3_send cX3_send 7 (some .int) ∈ hr_W := hr_W_mem (hr_t3 (n := 43) rfl) rfl
theorem kM_X3_140 : Cond.methodLink RX3 140 yX2_reaches ∈ hr_W := hr_W_mem (hr_t3 (n := 44) rfl) rfl
theorem kM_L_119 : Cond.methodLink RL 119 yL_count ∈ hr_W := hr_W_mem (hr_t3 (n := 45) rfl) rfl
theorem kT_L_count : Cond.static yL_count ∈ hr_W := hr_W_mem (hr_t3 (n := 46) rfl) rfl
theorem kC_L_count : Cond.codeWith yL_count cL_count 4 (some .int) [(0, 9, 12, 13)] ∈ hr_W := hr_W_mem (hr_t3 (n := 47) rfl) rfl
theorem kM_L_61 : Cond.methodLink RL 61 yX3_count ∈ hr_W := hr_W_mem (hr_t3 (n := 48) rfl) rfl
theorem kI_X3_count : Cond.instanceMethod yX3_count ∈ hr_W := hr_W_mem (hr_t3 (n := 49) rfl) rfl
theorem kS_X3_count : Cond.selects RX3 yX3_count yX3_count ∈ hr_W := hr_W_mem (hr_t3 (n := 50) rfl) rfl
theorem kC_X3_count : Cond.code yX3_count cX3_count 2 (some .int) ∈ hr_W := hr_W_mem (hr_t3 (n := 51) rfl) rfl
theorem kL_L_65 : Cond.classLink RL 65 RX4 ∈ hr_W := hr_W_mem (hr_t3 (n := 52) rfl) rfl
theorem kP_X4 : Cond.instantiable RX4 20 ∈ hr_W := hr_W_mem (hr_t3 (n := 53) rfl) rfl
theorem kM_L_67 : Cond.methodLink RL 67 yX4_init ∈ hr_W := hr_W_mem (hr_t3 (n := 54) rfl) rfl
theorem kI_X4_init : Cond.instanceMethod yX4_init ∈ hr_W := hr_W_mem (hr_t3 (n := 55) rfl) rfl
theorem kC_X4_init : Cond.code yX4_init cX4_init 1 none ∈ hr_W := hr_W_mem (hr_t3 (n := 56) rfl) rfl
theorem kM_X4_1 : Cond.methodLink RX4 1 objectInit ∈ hr_W := hr_W_mem (hr_t3 (n := 57) rfl) rfl
theorem kK_X4_38 : Cond.constant RX4 38 (32800) ∈ hr_W := hr_W_mem (hr_t3 (n := 58) rfl) rfl
theorem kF_X4_48 : Cond.fieldLink RX4 48 "HopRoutersModel" "thrown" "I" ∈ hr_W := hr_W_mem (hr_t3 (n := 59) rfl) rfl
theorem kF_X4_114 : Cond.fieldLink RX4 114 "HopRoutersModel" "time" "I" ∈ hr_W := hr_W_mem (hr_t3 (n := 60) rfl) rfl
theorem kF_X4_69 : Cond.fieldLink RX4 69 "HopRoutersModel" "lost" "I" ∈ hr_W := hr_W_mem (hr_t3 (n := 61) rfl) rfl
theorem kF_X4_63 : Cond.fieldLink RX4 63 "HopRoutersModel" "sent" "I" ∈ hr_W := hr_W_mem (hr_t3 (n := 62) rfl) rfl
theorem kF_X4_104 : Cond.fieldLink RX4 104 "HopRoutersModel" "unsound" "I" ∈ hr_W := hr_W_mem (hr_t3 (n := 63) rfl) rfl
theorem kF_X4_7 : Cond.fieldLink RX4 7 "HopRoutersModel" "up" "[Z" ∈ hr_W := hr_W_mem (hr_t3 (n := 64) rfl) rfl
theorem kF_X4_13 : Cond.fieldLink RX4 13 "HopRoutersModel" "metric" "[I" ∈ hr_W := hr_W_mem (hr_t3 (n := 65) rfl) rfl
theorem kF_X4_17 : Cond.fieldLink RX4 17 "HopRoutersModel" "next" "[I" ∈ hr_W := hr_W_mem (hr_t3 (n := 66) rfl) rfl
theorem kF_X4_20 : Cond.fieldLink RX4 20 "HopRoutersModel" "age" "[I" ∈ hr_W := hr_W_mem (hr_t3 (n := 67) rfl) rfl
theorem kF_X4_23 : Cond.fieldLink RX4 23 "HopRoutersModel" "isChanged" "[Z" ∈ hr_W := hr_W_mem (hr_t3 (n := 68) rfl) rfl
theorem kF_X4_26 : Cond.fieldLink RX4 26 "HopRoutersModel" "silent" "[I" ∈ hr_W := hr_W_mem (hr_t3 (n := 69) rfl) rfl
theorem kF_X4_66 : Cond.fieldLink RX4 66 "HopRoutersModel" "packets" "I" ∈ hr_W := hr_W_mem (hr_t3 (n := 70) rfl) rfl
theorem kF_X4_29 : Cond.fieldLink RX4 29 "HopRoutersModel" "from" "[I" ∈ hr_W := hr_W_mem (hr_t3 (n := 71) rfl) rfl
theorem kF_X4_32 : Cond.fieldLink RX4 32 "HopRoutersModel" "to" "[I" ∈ hr_W := hr_W_mem (hr_t3 (n := 72) rfl) rfl
theorem kF_X4_35 : Cond.fieldLink RX4 35 "HopRoutersModel" "size" "[I" ∈ hr_W := hr_W_mem (hr_t3 (n := 73) rfl) rfl
theorem kF_X4_39 : Cond.fieldLink RX4 39 "HopRoutersModel" "bytes" "[I" ∈ hr_W := hr_W_mem (hr_t3 (n := 74) rfl) rfl
theorem kF_X4_56 : Cond.fieldLink RX4 56 "HopRoutersModel" "made" "I" ∈ hr_W := hr_W_mem (hr_t3 (n := 75) rfl) rfl
theorem kF_X4_42 : Cond.fieldLink RX4 42 "HopRoutersModel" "draft" "[I" ∈ hr_W := hr_W_mem (hr_t3 (n := 76) rfl) rfl
theorem kF_X4_90 : Cond.fieldLink RX4 90 "HopRoutersModel" "came" "I" ∈ hr_W := hr_W_mem (hr_t3 (n := 77) rfl) rfl
theorem kF_X4_45 : Cond.fieldLink RX4 45 "HopRoutersModel" "coming" "[I" ∈ hr_W := hr_W_mem (hr_t3 (n := 78) rfl) rfl
theorem kM_L_74 : Cond.methodLink RL 74 yX4_thrown ∈ hr_W := hr_W_mem (hr_t3 (n := 120) rfl) rfl
theorem kI_X4_thrown : Cond.instanceMethod yX4_thrown ∈ hr_W := hr_W_mem (hr_t3 (n := 121) rfl) rfl
theorem kS_X4_thrown : Cond.selects RX4 yX4_thrown yX4_thrown ∈ hr_W := hr_W_mem (hr_t3 (n := 122) rfl) rfl
theorem kC_X4_thrown : Cond.code yX4_thrown cX4_thrown 1 (some .int) ∈ hr_W := hr_W_mem (hr_t3 (n := 123) rfl) rfl
theorem kM_L_73 : Cond.methodLink RL 73 yX4_link ∈ hr_W := hr_W_mem (hr_t3 (n := 124) rfl) rfl
theorem kI_X4_link : Cond.instanceMethod yX4_link ∈ hr_W := hr_W_mem (hr_t3 (n := 125) rfl) rfl
theorem kS_X4_link : Cond.selects RX4 yX4_link yX4_link ∈ hr_W := hr_W_mem (hr_t3 (n := 126) rfl) rfl
theorem kC_X4_link : Cond.code yX4_link cX4_link 5 (some .boolean) ∈ hr_W := hr_W_mem (hr_t3 (n := 127) rfl) rfl
theorem kM_X4_120 : Cond.methodLink RX4 120 yX4_isRouter ∈ hr_W := hr_W_mem (hr_t3 (n := 128) rfl) rfl
theorem kT_X4_isRouter : Cond.static yX4_isRouter ∈ hr_W := hr_W_mem (hr_t3 (n := 129) rfl) rfl
theorem kC_X4_isRouter : Cond.code yX4_isRouter cX4_isRouter 1 (some .boolean) ∈ hr_W := hr_W_mem (hr_t3 (n := 130) rfl) rfl
theorem kM_X4_52 : Cond.methodLink RX4 52 yX4_in ∈ hr_W := hr_W_mem (hr_t3 (n := 131) rfl) rfl
theorem kT_X4_in : Cond.static yX4_in ∈ hr_W := hr_W_mem (hr_t3 (n := 132) rfl) rfl
theorem kC_X4_in : Cond.code yX4_in cX4_in 3 (some .boolean) ∈ hr_W := hr_W_mem (hr_t3 (n := 133) rfl) rfl
theorem kM_X4_123 : Cond.methodLink RX4 123 yX4_refuses ∈ hr_W := hr_W_mem (hr_t3 (n := 134) rfl) rfl
theorem kI_X4_refuses : Cond.instanceMethod yX4_refuses ∈ hr_W := hr_W_mem (hr_t3 (n := 136) rfl) rfl
theorem kC_X4_refuses : Cond.code yX4_refuses cX4_refuses 3 (some .boolean) ∈ hr_W := hr_W_mem (hr_t3 (n := 137) rfl) rfl
theorem kM_L_81 : Cond.methodLink RL 81 yX4_sees ∈ hr_W := hr_W_mem (hr_t3 (n := 138) rfl) rfl
theorem kI_X4_sees : Cond.instanceMethod yX4_sees ∈ hr_W := hr_W_mem (hr_t3 (n := 139) rfl) rfl
theorem kS_X4_sees : Cond.selects RX4 yX4_sees yX4_sees ∈ hr_W := hr_W_mem (hr_t3 (n := 140) rfl) rfl
theorem kC_X4_sees : Cond.code yX4_sees cX4_sees 5 (some .int) ∈ hr_W := hr_W_mem (hr_t3 (n := 141) rfl) rfl
theorem kM_X4_87 : Cond.methodLink RX4 87 yX4_gone ∈ hr_W := hr_W_mem (hr_t3 (n := 142) rfl) rfl
theorem kI_X4_gone : Cond.instanceMethod yX4_gone ∈ hr_W := hr_W_mem (hr_t3 (n := 144) rfl) rfl
theorem kC_X4_gone : Cond.code yX4_gone cX4_gone 2 none ∈ hr_W := hr_W_mem (hr_t3 (n := 145) rfl) rfl
theorem kM_L_85 : Cond.methodLink RL 85 yX4_restart ∈ hr_W := hr_W_mem (hr_t3 (n := 146) rfl) rfl
theorem kI_X4_restart : Cond.instanceMethod yX4_restart ∈ hr_W := hr_W_mem (hr_t3 (n := 147) rfl) rfl
theorem kS_X4_restart : Cond.selects RX4 yX4_restart yX4_restart ∈ hr_W := hr_W_mem (hr_t3 (n := 148) rfl) rfl
theorem kC_X4_restart : Cond.code yX4_restart cX4_restart 3 (some .int) ∈ hr_W := hr_W_mem (hr_t3 (n := 149) rfl) rfl
theorem kM_X4_72 : Cond.methodLink RX4 72 yX4_begin ∈ hr_W := hr_W_mem (hr_t3 (n := 150) rfl) rfl
theorem kI_X4_begin : Cond.instanceMethod yX4_begin ∈ hr_W := hr_W_mem (hr_t3 (n := 152) rfl) rfl
theorem kC_X4_begin : Cond.code yX4_begin cX4_begin 2 none ∈ hr_W := hr_W_mem (hr_t3 (n := 153) rfl) rfl
theorem kM_X4_59 : Cond.methodLink RX4 59 yX4_put ∈ hr_W := hr_W_mem (hr_t3 (n := 154) rfl) rfl
theorem kI_X4_put : Cond.instanceMethod yX4_put ∈ hr_W := hr_W_mem (hr_t3 (n := 156) rfl) rfl
theorem kC_X4_put : Cond.code yX4_put cX4_put 2 none ∈ hr_W := hr_W_mem (hr_t3 (n := 157) rfl) rfl
theorem kM_X4_75 : Cond.methodLink RX4 75 yX4_entry ∈ hr_W := hr_W_mem (hr_t3 (n := 158) rfl) rfl
theorem kI_X4_entry : Cond.instanceMethod yX4_entry ∈ hr_W := hr_W_mem (hr_t3 (n := 160) rfl) rfl
theorem kC_X4_entry : Cond.code yX4_entry cX4_entry 5 none ∈ hr_W := hr_W_mem (hr_t3 (n := 161) rfl) rfl
theorem kM_X4_79 : Cond.methodLink RX4 79 yX4_post ∈ hr_W := hr_W_mem (hr_t3 (n := 162) rfl) rfl
theorem kI_X4_post : Cond.instanceMethod yX4_post ∈ hr_W := hr_W_mem (hr_t3 (n := 164) rfl) rfl
theorem kC_X4_post : Cond.code yX4_post cX4_post 4 none ∈ hr_W := hr_W_mem (hr_t3 (n := 165) rfl) rfl
theorem kM_L_89 : Cond.methodLink RL 89 yX4_ask ∈ hr_W := hr_W_mem (hr_t3 (n := 166) rfl) rfl
theorem kI_X4_ask : Cond.instanceMethod yX4_ask ∈ hr_W := hr_W_mem (hr_t3 (n := 167) rfl) rfl
theorem kS_X4_ask : Cond.selects RX4 yX4_ask yX4_ask ∈ hr_W := hr_W_mem (hr_t3 (n := 168) rfl) rfl
theorem kC_X4_ask : Cond.code yX4_ask cX4_ask 5 (some .int) ∈ hr_W := hr_W_mem (hr_t3 (n := 169) rfl) rfl
theorem kM_L_93 : Cond.methodLink RL 93 yX4_tick ∈ hr_W := hr_W_mem (hr_t3 (n := 170) rfl) rfl
theorem kI_X4_tick : Cond.instanceMethod yX4_tick ∈ hr_W := hr_W_mem (hr_t3 (n := 171) rfl) rfl
theorem kS_X4_tick : Cond.selects RX4 yX4_tick yX4_tick ∈ hr_W := hr_W_mem (hr_t3 (n := 172) rfl) rfl
theorem kC_X4_tick : Cond.code yX4_tick cX4_tick 6 (some .int) ∈ hr_W := hr_W_mem (hr_t3 (n := 173) rfl) rfl
theorem kM_X4_127 : Cond.methodLink RX4 127 yX4_turn ∈ hr_W := hr_W_mem (hr_t3 (n := 174) rfl) rfl
theorem kI_X4_turn : Cond.instanceMethod yX4_turn ∈ hr_W := hr_W_mem (hr_t3 (n := 176) rfl) rfl
theorem kC_X4_turn : Cond.code yX4_turn cX4_turn 2 none ∈ hr_W := hr_W_mem (hr_t3 (n := 177) rfl) rfl
theorem kM_X4_117 : Cond.methodLink RX4 117 yX4_turnRouter ∈ hr_W := hr_W_mem (hr_t3 (n := 178) rfl) rfl
theorem kI_X4_turnRouter : Cond.instanceMethod yX4_turnRouter ∈ hr_W := hr_W_mem (hr_t3 (n := 180) rfl) rfl
theorem kC_X4_turnRouter : Cond.code yX4_turnRouter cX4_turnRouter 5 none ∈ hr_W := hr_W_mem (hr_t3 (n := 181) rfl) rfl
theorem kM_X4_93 : Cond.methodLink RX4 93 yX4_tell ∈ hr_W := hr_W_mem (hr_t3 (n := 182) rfl) rfl
theorem kI_X4_tell : Cond.instanceMethod yX4_tell ∈ hr_W := hr_W_mem (hr_t3 (n := 184) rfl) rfl
theorem kC_X4_tell : Cond.code yX4_tell cX4_tell 8 none ∈ hr_W := hr_W_mem (hr_t3 (n := 185) rfl) rfl
theorem kM_X4_130 : Cond.methodLink RX4 130 yX4_arrive ∈ hr_W := hr_W_mem (hr_t3 (n := 186) rfl) rfl
theorem kI_X4_arrive : Cond.instanceMethod yX4_arrive ∈ hr_W := hr_W_mem (hr_t3 (n := 188) rfl) rfl
theorem kC_X4_arrive : Cond.code yX4_arrive cX4_arrive 6 (some .boolean) ∈ hr_W := hr_W_mem (hr_t3 (n := 189) rfl) rfl
theorem kM_X4_101 : Cond.methodLink RX4 101 yX4_takeOut ∈ hr_W := hr_W_mem (hr_t3 (n := 190) rfl) rfl
theorem kI_X4_takeOut : Cond.instanceMethod yX4_takeOut ∈ hr_W := hr_W_mem (hr_t3 (n := 192) rfl) rfl
theorem kC_X4_takeOut : Cond.code yX4_takeOut cX4_takeOut 4 none ∈ hr_W := hr_W_mem (hr_t3 (n := 193) rfl) rfl
theorem kM_X4_107 : Cond.methodLink RX4 107 yX4_answer ∈ hr_W := hr_W_mem (hr_t3 (n := 194) rfl) rfl
theorem kI_X4_answer : Cond.instanceMethod yX4_answer ∈ hr_W := hr_W_mem (hr_t3 (n := 196) rfl) rfl
theorem kC_X4_answer : Cond.code yX4_answer cX4_answer 6 none ∈ hr_W := hr_W_mem (hr_t3 (n := 197) rfl) rfl
theorem kM_X4_83 : Cond.methodLink RX4 83 yX4_isFilled ∈ hr_W := hr_W_mem (hr_t3 (n := 198) rfl) rfl
theorem kI_X4_isFilled : Cond.instanceMethod yX4_isFilled ∈ hr_W := hr_W_mem (hr_t3 (n := 200) rfl) rfl
theorem kC_X4_isFilled : Cond.code yX4_isFilled cX4_isFilled 5 (some .boolean) ∈ hr_W := hr_W_mem (hr_t3 (n := 201) rfl) rfl
theorem kM_X4_97 : Cond.methodLink RX4 97 yX4_isSound ∈ hr_W := hr_W_mem (hr_t3 (n := 202) rfl) rfl
theorem kI_X4_isSound : Cond.instanceMethod yX4_isSound ∈ hr_W := hr_W_mem (hr_t3 (n := 204) rfl) rfl
theorem kC_X4_isSound : Cond.code yX4_isSound cX4_isSound 2 (some .boolean) ∈ hr_W := hr_W_mem (hr_t3 (n := 205) rfl) rfl
theorem kM_X4_110 : Cond.methodLink RX4 110 yX4_hear ∈ hr_W := hr_W_mem (hr_t3 (n := 206) rfl) rfl
theorem kI_X4_hear : Cond.instanceMethod yX4_hear ∈ hr_W := hr_W_mem (hr_t3 (n := 208) rfl) rfl
theorem kC_X4_hear : Cond.code yX4_hear cX4_hear 6 none ∈ hr_W := hr_W_mem (hr_t3 (n := 209) rfl) rfl
theorem kM_L_96 : Cond.methodLink RL 96 yX4_deliver ∈ hr_W := hr_W_mem (hr_t3 (n := 210) rfl) rfl
theorem kI_X4_deliver : Cond.instanceMethod yX4_deliver ∈ hr_W := hr_W_mem (hr_t3 (n := 211) rfl) rfl
theorem kS_X4_deliver : Cond.selects RX4 yX4_deliver yX4_deliver ∈ hr_W := hr_W_mem (hr_t3 (n := 212) rfl) rfl
theorem kC_X4_deliver : Cond.code yX4_deliver cX4_deliver 2 (some .boolean) ∈ hr_W := hr_W_mem (hr_t3 (n := 213) rfl) rfl
theorem kM_X4_133 : Cond.methodLink RX4 133 yX4_lacks ∈ hr_W := hr_W_mem (hr_t3 (n := 214) rfl) rfl
theorem kI_X4_lacks : Cond.instanceMethod yX4_lacks ∈ hr_W := hr_W_mem (hr_t3 (n := 216) rfl) rfl
theorem kC_X4_lacks : Cond.code yX4_lacks cX4_lacks 2 (some .boolean) ∈ hr_W := hr_W_mem (hr_t3 (n := 217) rfl) rfl
theorem kM_L_99 : Cond.methodLink RL 99 yX4_lose ∈ hr_W := hr_W_mem (hr_t3 (n := 218) rfl) rfl
theorem kI_X4_lose : Cond.instanceMethod yX4_lose ∈ hr_W := hr_W_mem (hr_t3 (n := 219) rfl) rfl
theorem kS_X4_lose : Cond.selects RX4 yX4_lose yX4_lose ∈ hr_W := hr_W_mem (hr_t3 (n := 220) rfl) rfl
theorem kC_X4_lose : Cond.code yX4_lose cX4_lose 2 (some .int) ∈ hr_W := hr_W_mem (hr_t3 (n := 221) rfl) rfl
theorem kM_L_102 : Cond.methodLink RL 102 yX4_twice ∈ hr_W := hr_W_mem (hr_t3 (n := 222) rfl) rfl
theorem kI_X4_twice : Cond.instanceMethod yX4_twice ∈ hr_W := hr_W_mem (hr_t3 (n := 223) rfl) rfl
theorem kS_X4_twice : Cond.selects RX4 yX4_twice yX4_twice ∈ hr_W := hr_W_mem (hr_t3 (n := 224) rfl) rfl
theorem kC_X4_twice : Cond.code yX4_twice cX4_twice 3 (some .int) ∈ hr_W := hr_W_mem (hr_t3 (n := 225) rfl) rfl
theorem kM_L_105 : Cond.methodLink RL 105 yX4_poke ∈ hr_W := hr_W_mem (hr_t3 (n := 226) rfl) rfl
theorem kI_X4_poke : Cond.instanceMethod yX4_poke ∈ hr_W := hr_W_mem (hr_t3 (n := 227) rfl) rfl
theorem kS_X4_poke : Cond.selects RX4 yX4_poke yX4_poke ∈ hr_W := hr_W_mem (hr_t3 (n := 228) rfl) rfl
theorem kC_X4_poke : Cond.code yX4_poke cX4_poke 5 (some .int) ∈ hr_W := hr_W_mem (hr_t3 (n := 229) rfl) rfl
theorem kM_L_109 : Cond.methodLink RL 109 yX4_cut ∈ hr_W := hr_W_mem (hr_t3 (n := 230) rfl) rfl
theorem kI_X4_cut : Cond.instanceMethod yX4_cut ∈ hr_W := hr_W_mem (hr_t3 (n := 231) rfl) rfl
theorem kS_X4_cut : Cond.selects RX4 yX4_cut yX4_cut ∈ hr_W := hr_W_mem (hr_t3 (n := 232) rfl) rfl
theorem kC_X4_cut : Cond.code yX4_cut cX4_cut 3 none ∈ hr_W := hr_W_mem (hr_t3 (n := 233) rfl) rfl
theorem kM_L_112 : Cond.methodLink RL 112 yX4_packet ∈ hr_W := hr_W_mem (hr_t3 (n := 234) rfl) rfl
theorem kI_X4_packet : Cond.instanceMethod yX4_packet ∈ hr_W := hr_W_mem (hr_t3 (n := 235) rfl) rfl
theorem kS_X4_packet : Cond.selects RX4 yX4_packet yX4_packet ∈ hr_W := hr_W_mem (hr_t3 (n := 236) rfl) rfl
theorem kC_X4_packet : Cond.code yX4_packet cX4_packet 3 (some .int) ∈ hr_W := hr_W_mem (hr_t3 (n := 237) rfl) rfl
theorem kM_L_115 : Cond.methodLink RL 115 yX4_route ∈ hr_W := hr_W_mem (hr_t3 (n := 238) rfl) rfl
theorem kI_X4_route : Cond.instanceMethod yX4_route ∈ hr_W := hr_W_mem (hr_t3 (n := 239) rfl) rfl
theorem kS_X4_route : Cond.selects RX4 yX4_route yX4_route ∈ hr_W := hr_W_mem (hr_t4 (n := 0) rfl) rfl
theorem kC_X4_route : Cond.code yX4_route cX4_route 5 (some .int) ∈ hr_W := hr_W_mem (hr_t4 (n := 1) rfl) rfl
theorem kM_L_118 : Cond.methodLink RL 118 yX4_send ∈ hr_W := hr_W_mem (hr_t4 (n := 2) rfl) rfl
theorem kI_X4_send : Cond.instanceMethod yX4_send ∈ hr_W := hr_W_mem (hr_t4 (n := 3) rfl) rfl
theorem kS_X4_send : Cond.selects RX4 yX4_send yX4_send ∈ hr_W := hr_W_mem (hr_t4 (n := 4) rfl) rfl
theorem kC_X4_send : Cond.code yX4_send cX4_send 6 (some .int) ∈ hr_W := hr_W_mem (hr_t4 (n := 5) rfl) rfl
theorem kM_L_121 : Cond.methodLink RL 121 yX4_count ∈ hr_W := hr_W_mem (hr_t4 (n := 6) rfl) rfl
theorem kI_X4_count : Cond.instanceMethod yX4_count ∈ hr_W := hr_W_mem (hr_t4 (n := 7) rfl) rfl
theorem kS_X4_count : Cond.selects RX4 yX4_count yX4_count ∈ hr_W := hr_W_mem (hr_t4 (n := 8) rfl) rfl
theorem kC_X4_count : Cond.code yX4_count cX4_count 4 (some .int) ∈ hr_W := hr_W_mem (hr_t4 (n := 9) rfl) rfl
theorem kA_long : Cond.arrayClass .long ∈ hr_W := hr_W_mem (hr_t4 (n := 10) rfl) rfl
theorem kS_X3_isUp : Cond.selects RX3 yX3_isUp yX3_isUp ∈ hr_W := hr_W_sel (List.mem_of_getElem? (i := 1) rfl) rfl
theorem kS_X2_becomeGone : Cond.selects RX2 yX2_becomeGone yX2_becomeGone ∈ hr_W := hr_W_sel (List.mem_of_getElem? (i := 2) rfl) rfl
theorem kS_X2_forget : Cond.selects RX2 yX2_forget yX2_forget ∈ hr_W := hr_W_sel (List.mem_of_getElem? (i := 3) rfl) rfl
theorem kS_X3_passTime : Cond.selects RX3 yX3_passTime yX3_passTime ∈ hr_W := hr_W_sel (List.mem_of_getElem? (i := 4) rfl) rfl
theorem kS_X2_ageRoute : Cond.selects RX2 yX2_ageRoute yX2_ageRoute ∈ hr_W := hr_W_sel (List.mem_of_getElem? (i := 5) rfl) rfl
theorem kS_X3_tellInTurn : Cond.selects RX3 yX3_tellInTurn yX3_tellInTurn ∈ hr_W := hr_W_sel (List.mem_of_getElem? (i := 6) rfl) rfl
theorem kS_X3_tell : Cond.selects RX3 yX3_tell yX3_tell ∈ hr_W := hr_W_sel (List.mem_of_getElem? (i := 7) rfl) rfl
theorem kS_X3_bring : Cond.selects RX3 yX3_bring yX3_bring ∈ hr_W := hr_W_sel (List.mem_of_getElem? (i := 8) rfl) rfl
theorem kS_X3_answerRequest : Cond.selects RX3 yX3_answerRequest yX3_answerRequest ∈ hr_W := hr_W_sel (List.mem_of_getElem? (i := 9) rfl) rfl
theorem kS_X1_hasPlainFields : Cond.selects RX1 yX1_hasPlainFields yX1_hasPlainFields ∈ hr_W := hr_W_sel (List.mem_of_getElem? (i := 10) rfl) rfl
theorem kS_X3_metricAnswered : Cond.selects RX3 yX3_metricAnswered yX3_metricAnswered ∈ hr_W := hr_W_sel (List.mem_of_getElem? (i := 11) rfl) rfl
theorem kS_X3_hearResponse : Cond.selects RX3 yX3_hearResponse yX3_hearResponse ∈ hr_W := hr_W_sel (List.mem_of_getElem? (i := 12) rfl) rfl
theorem kS_X2_adopt : Cond.selects RX2 yX2_adopt yX2_adopt ∈ hr_W := hr_W_sel (List.mem_of_getElem? (i := 13) rfl) rfl
theorem kS_X2_hearFromNext : Cond.selects RX2 yX2_hearFromNext yX2_hearFromNext ∈ hr_W := hr_W_sel (List.mem_of_getElem? (i := 14) rfl) rfl
theorem kS_X3_checkPacket : Cond.selects RX3 yX3_checkPacket yX3_checkPacket ∈ hr_W := hr_W_sel (List.mem_of_getElem? (i := 15) rfl) rfl
theorem kS_X4_refuses : Cond.selects RX4 yX4_refuses yX4_refuses ∈ hr_W := hr_W_sel (List.mem_of_getElem? (i := 16) rfl) rfl
theorem kS_X4_gone : Cond.selects RX4 yX4_gone yX4_gone ∈ hr_W := hr_W_sel (List.mem_of_getElem? (i := 17) rfl) rfl
theorem kS_X4_begin : Cond.selects RX4 yX4_begin yX4_begin ∈ hr_W := hr_W_sel (List.mem_of_getElem? (i := 18) rfl) rfl
theorem kS_X4_put : Cond.selects RX4 yX4_put yX4_put ∈ hr_W := hr_W_sel (List.mem_of_getElem? (i := 19) rfl) rfl
theorem kS_X4_entry : Cond.selects RX4 yX4_entry yX4_entry ∈ hr_W := hr_W_sel (List.mem_of_getElem? (i := 20) rfl) rfl
theorem kS_X4_post : Cond.selects RX4 yX4_post yX4_post ∈ hr_W := hr_W_sel (List.mem_of_getElem? (i := 21) rfl) rfl
theorem kS_X4_turn : Cond.selects RX4 yX4_turn yX4_turn ∈ hr_W := hr_W_sel (List.mem_of_getElem? (i := 22) rfl) rfl
theorem kS_X4_turnRouter : Cond.selects RX4 yX4_turnRouter yX4_turnRouter ∈ hr_W := hr_W_sel (List.mem_of_getElem? (i := 23) rfl) rfl
theorem kS_X4_tell : Cond.selects RX4 yX4_tell yX4_tell ∈ hr_W := hr_W_sel (List.mem_of_getElem? (i := 24) rfl) rfl
theorem kS_X4_arrive : Cond.selects RX4 yX4_arrive yX4_arrive ∈ hr_W := hr_W_sel (List.mem_of_getElem? (i := 25) rfl) rfl
theorem kS_X4_takeOut : Cond.selects RX4 yX4_takeOut yX4_takeOut ∈ hr_W := hr_W_sel (List.mem_of_getElem? (i := 26) rfl) rfl
theorem kS_X4_answer : Cond.selects RX4 yX4_answer yX4_answer ∈ hr_W := hr_W_sel (List.mem_of_getElem? (i := 27) rfl) rfl
theorem kS_X4_isFilled : Cond.selects RX4 yX4_isFilled yX4_isFilled ∈ hr_W := hr_W_sel (List.mem_of_getElem? (i := 28) rfl) rfl
theorem kS_X4_isSound : Cond.selects RX4 yX4_isSound yX4_isSound ∈ hr_W := hr_W_sel (List.mem_of_getElem? (i := 29) rfl) rfl
theorem kS_X4_hear : Cond.selects RX4 yX4_hear yX4_hear ∈ hr_W := hr_W_sel (List.mem_of_getElem? (i := 30) rfl) rfl
theorem kS_X4_lacks : Cond.selects RX4 yX4_lacks yX4_lacks ∈ hr_W := hr_W_sel (List.mem_of_getElem? (i := 31) rfl) rfl
theorem kU_X0 : ∀ w ∈ u_ws RX0 TX0 5, w ∈ hr_W := by decide +kernel
theorem kU_X1 : ∀ w ∈ u_ws RX1 TX1 4, w ∈ hr_W := by decide +kernel
theorem kU_X2 : ∀ w ∈ u_ws RX2 TX2 5, w ∈ hr_W := by decide +kernel
theorem kU_X3 : ∀ w ∈ u_ws RX3 TX3 8, w ∈ hr_W := by decide +kernel
theorem kU_X4 : ∀ w ∈ u_ws RX4 TX4 20, w ∈ hr_W := by decide +kernel
end
section
/-! THE WORLD: one heap of cells by kind and number, for the class, the reference and the law's own array.
kinds: 0 HopRouters, 1 linked, 2 tables, 3 Air, 4 places, 5 order, 6 Packet (0..199 in the air, 200 draft, 201 arriving), 7 words, 8 Table, 9 metric, 10 next, 11 age, 12 silent, 13 changed;
14 HopRoutersModel, 15 up, 16 metric, 17 next, 18 age, 19 isChanged, 20 silent, 21 from, 22 to, 23 size, 24 bytes, 25 draft, 26 coming; 27 the law's out -/
abbrev hr_S : Type := Nat → Nat → Nat → Int32
abbrev hr_E : Type := va_G × (Nat → Nat → Nat) × (Nat → ClassId) × (Nat → Prop) × (Nat → Nat)
abbrev hr_ad (E : hr_E) : Nat → Nat → Nat := E.2.1
abbrev hr_A (E : hr_E) : Nat → Prop := E.2.2.2.1
def hr_cnt (k : Nat) : Nat := if k = 6 ∨ k = 7 then 202 else if 8 ≤ k ∧ k ≤ 13 then 8 else if k < 28 then 1 else 0
def hr_ix : List (Nat × Nat) := (List.range 28).flatMap (fun k => (List.range (hr_cnt k)).map (fun i => (k, i)))
theorem hr_ix_mem {k i : Nat} (h : i < hr_cnt k) : (k, i) ∈ hr_ix := by
  have hk : k < 28 := by
    unfold hr_cnt at h
    split at h
    · omega
    · split at h
      · omega
      · split at h
        · assumption
        · omega
  exact List.mem_flatMap.mpr ⟨k, List.mem_range.mpr hk, List.mem_map.mpr ⟨i, List.mem_range.mpr h, rfl⟩⟩
theorem hr_ix_of {c : Nat × Nat} (h : c ∈ hr_ix) : c.2 < hr_cnt c.1 := by
  obtain ⟨k, -, h2⟩ := List.mem_flatMap.mp h
  obtain ⟨i, h3, rfl⟩ := List.mem_map.mp h2
  exact List.mem_range.mp h3
theorem hr_ix_nd : hr_ix.Nodup := by decide +kernel
/-- what the cell of kind k, number i holds -/
def hr_cell (E : hr_E) (S : hr_S) (o : Int64) (k i : Nat) : va_E := match k with
  | 0 => .inr (3, [.ref (hr_ad E 1 0), .ref (hr_ad E 2 0), .ref (hr_ad E 3 0), .ref (hr_ad E 6 200), .ref (hr_ad E 6 201), .int (S 0 i 5), .int (S 0 i 6), .int (S 0 i 7)])
  | 1 => .inl (E.2.2.1 1, 64, .inl (S 1 i))
  | 2 => .inl (E.2.2.1 4, 8, .inr (.inr (.inr (.inr (fun j => some (hr_ad E 8 j))))))
  | 3 => .inr (0, [.ref (hr_ad E 4 0), .ref (hr_ad E 5 0), .int (S 3 i 2), .int (S 3 i 3), .int (S 3 i 4)])
  | 4 => .inl (E.2.2.1 3, 200, .inr (.inr (.inr (.inr (fun j => some (hr_ad E 6 j))))))
  | 5 => .inl (E.2.2.1 0, 200, .inl (S 5 i))
  | 6 => .inr (1, [.int (S 6 i 0), .int (S 6 i 1), .int (S 6 i 2), .ref (hr_ad E 7 i)])
  | 7 => .inl (E.2.2.1 0, 41, .inl (S 7 i))
  | 8 => .inr (2, [.ref (hr_ad E 9 i), .ref (hr_ad E 10 i), .ref (hr_ad E 11 i), .ref (hr_ad E 12 i), .ref (hr_ad E 13 i)])
  | 9 => .inl (E.2.2.1 0, 8, .inl (S 9 i))
  | 10 => .inl (E.2.2.1 0, 8, .inl (S 10 i))
  | 11 => .inl (E.2.2.1 0, 8, .inl (S 11 i))
  | 12 => .inl (E.2.2.1 0, 8, .inl (S 12 i))
  | 13 => .inl (E.2.2.1 1, 8, .inl (S 13 i))
  | 14 => .inr (4, [.int (S 14 i 0), .int (S 14 i 1), .int (S 14 i 2), .int (S 14 i 3), .int (S 14 i 4), .ref (hr_ad E 15 0), .ref (hr_ad E 16 0), .ref (hr_ad E 17 0), .ref (hr_ad E 18 0), .ref (hr_ad E 19 0), .ref (hr_ad E 20 0), .int (S 14 i 11), .ref (hr_ad E 21 0), .ref (hr_ad E 22 0), .ref (hr_ad E 23 0), .ref (hr_ad E 24 0), .int (S 14 i 16), .ref (hr_ad E 25 0), .int (S 14 i 18), .ref (hr_ad E 26 0)])
  | 15 => .inl (E.2.2.1 1, 64, .inl (S 15 i))
  | 16 => .inl (E.2.2.1 0, 64, .inl (S 16 i))
  | 17 => .inl (E.2.2.1 0, 64, .inl (S 17 i))
  | 18 => .inl (E.2.2.1 0, 64, .inl (S 18 i))
  | 19 => .inl (E.2.2.1 1, 64, .inl (S 19 i))
  | 20 => .inl (E.2.2.1 0, 64, .inl (S 20 i))
  | 21 => .inl (E.2.2.1 0, 200, .inl (S 21 i))
  | 22 => .inl (E.2.2.1 0, 200, .inl (S 22 i))
  | 23 => .inl (E.2.2.1 0, 200, .inl (S 23 i))
  | 24 => .inl (E.2.2.1 0, 32800, .inl (S 24 i))
  | 25 => .inl (E.2.2.1 0, 164, .inl (S 25 i))
  | 26 => .inl (E.2.2.1 0, 164, .inl (S 26 i))
  | _ => .inl (E.2.2.1 2, 1, .inr (.inl (fun _ => o)))
/-- one whole row of numbers is another -/
def hr_wA (S : hr_S) (k i : Nat) (f : Nat → Int32) : hr_S := fun k' i' => if k' = k ∧ i' = i then f else S k' i'
/-- one number is another -/
def hr_w (S : hr_S) (k i j : Nat) (v : Int32) : hr_S := hr_wA S k i (upd (S k i) j v)
theorem hr_wA_self (S : hr_S) (k i : Nat) (f : Nat → Int32) : hr_wA S k i f k i = f := by simp [hr_wA]
theorem hr_wA_ne (S : hr_S) {k i k' i' : Nat} (f : Nat → Int32) (h : ¬ (k' = k ∧ i' = i)) : hr_wA S k i f k' i' = S k' i' := by simp [hr_wA, h]
theorem hr_cell_wA (E : hr_E) (S : hr_S) (o : Int64) {k i k' i' : Nat} (f : Nat → Int32) (h : ¬ (k' = k ∧ i' = i)) : hr_cell E (hr_wA S k i f) o k' i' = hr_cell E S o k' i' := by
  unfold hr_cell
  split <;> simp only [hr_wA_ne S f h]
def hr_P (E : hr_E) (S : hr_S) (o : Int64) (H : Heap) : Prop := ∀ k i, i < hr_cnt k → va_at E.1 vwCl (hr_ad E k i, hr_cell E S o k i) H
def hr_D (E : hr_E) : Prop := (∀ k i k' i', i < hr_cnt k → i' < hr_cnt k' → hr_ad E k i = hr_ad E k' i' → k = k' ∧ i = i') ∧ ∀ k i, i < hr_cnt k → hr_A E (hr_ad E k i)
def hr_tys (E : hr_E) : List (ClassId × FieldType) := [(E.2.2.1 0, .int), (E.2.2.1 1, .boolean), (E.2.2.1 2, .long), (E.2.2.1 3, .object "HopRouters$Packet"), (E.2.2.1 4, .object "HopRouters$Table")]
def hr_strs : List (Nat × String) := [(51, "the link is up"), (84, "destinations are not 1 .. 255"), (87, "the link is down"), (89, "n is not 0 .. 1000"), (112, "v is not 0 .. 255"), (123, "the packet has not so many bytes"), (133, "no such what"), (159, "no such router"), (161, "both routers are the same"), (163, "no such packet"), (165, "no such byte")]
/-- the tables' words that last but are not 'good' ones: what can be cast to what, what is declared -/
def hr_isX (w : Cond) : Bool := match w with | .castable .. => true | .declares .. => true | _ => false
def hr_Wx : List Cond := lw_tbl.filter hr_isX
theorem hr_Wx_on : ∀ w ∈ hr_Wx, w.onTables = true := by
  intro w hw
  have h := (List.mem_filter.mp hw).2
  cases w <;> first | rfl | (simp [hr_isX] at h)
theorem hr_Wx_warm {w : Cond} (hw : w ∈ hr_Wx) {s U : State} (hW : s.WarmedH U.vm) (h : va_Nw w s) : va_Nw w U := by
  have h0 := (List.mem_filter.mp hw).2
  cases w with
  | castable a b =>
    have h1 : (Cond.castable a b).before #[] (s.setVm U.vm) = true := by rw [Cond.castable_setVm hW.alike]; exact h
    exact va_tabs rfl (rfl : (s.setVm U.vm).vm = U.vm) h1
  | declares x => exact va_Nw.warmD hW h
  | _ => simp [hr_isX] at h0
theorem hr_Nc_moved {a b : String} {s U : State} (hvm : s.vm.Alike U.vm) (h : va_Nc a b s) : va_Nc a b U := by
  obtain ⟨c, t, h1, h2, h3⟩ := h
  exact ⟨c, t, by rw [hvm.findClass]; exact h1, by rw [hvm.findClass]; exact h2, by rw [hvm.assignable]; exact h3⟩
def hr_nc : List (String × String) := [("java/lang/IllegalArgumentException", "java/lang/IndexOutOfBoundsException"), ("java/lang/IllegalStateException", "java/lang/IndexOutOfBoundsException"), ("java/lang/IllegalStateException", "java/lang/IllegalArgumentException")]
def hr_K (E : hr_E) (U : State) : Prop := va_K E.1 vwCl (hr_tys E) U ∧ hr_D E ∧ vx_Zq Bundle.tN "UNASSIGNED_STACK" Bundle.steD (hr_A E) U U.heap ∧ vx_Zq Bundle.tN "SUPPRESSED_SENTINEL" Bundle.listD (hr_A E) U U.heap ∧ (∀ q ∈ hr_strs, vk_R RX3 q.1 q.2 (E.2.2.2.2 q.1) U) ∧ (∀ q, U.heap.size ≤ q → hr_A E q) ∧ (∀ w ∈ hr_Wx, va_Nw w U) ∧ ∀ q ∈ hr_nc, va_Nc q.1 q.2 U
def hr_Ok (E : hr_E) (S : hr_S) (o : Int64) (U : State) : Prop := hr_K E U ∧ hr_P E S o U.heap
theorem hr_K_moved {E : hr_E} {s U : State} {H : Heap} {locs : List Loc} (h : hr_K E s) (hW : s.WarmedH U.vm) (hS : va_S (hr_A E) s.heap H locs) (hU : U.heap = H) : hr_K E U := by
  obtain ⟨h1, h2, h3, h4, h5, h6, h7, h8⟩ := h
  refine ⟨va_K.moved hW.alike h1, h2, ?_, ?_, fun q hq => vk_R.warm hW (h5 q hq), fun q hq => h6 q (Nat.le_trans hS.1 (by rw [← hU]; exact hq)), fun w hw => hr_Wx_warm hw hW (h7 w hw), fun q hq => hr_Nc_moved hW.alike (h8 q hq)⟩
  · rw [hU]; exact vx_Zq.moved hW.alike (h3.kept hS.2.1)
  · rw [hU]; exact vx_Zq.moved hW.alike (h4.kept hS.2.1)
theorem hr_blind (E : hr_E) (S : hr_S) (o : Int64) (av : List Value) : FrameBlind (va_Pc av (hr_Ok E S o)) := by
  intro a U g mk h
  obtain ⟨h0, h1, h2⟩ := h
  exact ⟨h0, hr_K_moved (s := U) (U := U.calling g mk a) (H := U.heap) (locs := []) h1 (State.WarmedH.refl U) va_S.rf rfl, h2⟩
/-- the world as a list, for the kit's rows -/
def hr_L (E : hr_E) (S : hr_S) (o : Int64) : va_W := hr_ix.map (fun c => (hr_ad E c.1 c.2, hr_cell E S o c.1 c.2))
theorem hr_L_get (E : hr_E) (S : hr_S) (o : Int64) {k i : Nat} (h : i < hr_cnt k) : ∃ q0 : Nat, (hr_L E S o)[q0]? = some (hr_ad E k i, hr_cell E S o k i) :=
  List.getElem?_of_mem (List.mem_map.mpr ⟨(k, i), hr_ix_mem h, rfl⟩)
theorem hr_L_of {E : hr_E} {S : hr_S} {o : Int64} {n : Nat} {q : Nat × va_E} (h : (hr_L E S o)[n]? = some q) : ∃ c, hr_ix[n]? = some c ∧ q = (hr_ad E c.1 c.2, hr_cell E S o c.1 c.2) ∧ c.2 < hr_cnt c.1 := by
  unfold hr_L at h
  rw [List.getElem?_map] at h
  cases hc : hr_ix[n]? with
  | none => rw [hc] at h; cases h
  | some c => rw [hc] at h; cases h; exact ⟨c, rfl, rfl, hr_ix_of (List.mem_of_getElem? hc)⟩
theorem hr_P.list {E : hr_E} {S : hr_S} {o : Int64} {H : Heap} (h : hr_P E S o H) : va_P E.1 vwCl (hr_L E S o) H := by
  intro n q hq
  obtain ⟨c, -, rfl, hc⟩ := hr_L_of hq
  exact h c.1 c.2 hc
theorem hr_D.list {E : hr_E} (h : hr_D E) (S : hr_S) (o : Int64) : va_D (hr_A E) (hr_L E S o) := by
  refine ⟨fun i j x y hi hj hxy => ?_, fun n q hq => ?_⟩
  · obtain ⟨c, h1, rfl, hc⟩ := hr_L_of hi
    obtain ⟨d, h2, rfl, hd⟩ := hr_L_of hj
    obtain ⟨e1, e2⟩ := h.1 c.1 c.2 d.1 d.2 hc hd hxy
    have hcd : c = d := Prod.ext e1 e2
    subst hcd
    obtain ⟨l1, g1⟩ := List.getElem?_eq_some_iff.mp h1
    obtain ⟨l2, g2⟩ := List.getElem?_eq_some_iff.mp h2
    exact (List.getElem_inj hr_ix_nd).mp (g1.trans g2.symm)
  · obtain ⟨c, -, rfl, hc⟩ := hr_L_of hq
    exact h.2 c.1 c.2 hc
/-- behind a kit's row that set one cell -/
theorem hr_P_set {E : hr_E} {S S' : hr_S} {o o' : Int64} {H1 : Heap} {k i q0 : Nat} {e' : va_E} (hD : hr_D E) (hk : i < hr_cnt k) (hq : (hr_L E S o)[q0]? = some (hr_ad E k i, hr_cell E S o k i))
    (hP : va_P E.1 vwCl ((hr_L E S o).set q0 (hr_ad E k i, e')) H1) (he : hr_cell E S' o' k i = e') (ho : ∀ k' i', i' < hr_cnt k' → ¬ (k' = k ∧ i' = i) → hr_cell E S' o' k' i' = hr_cell E S o k' i') : hr_P E S' o' H1 := by
  have hl := (List.getElem?_eq_some_iff.mp hq).1
  intro k' i' hk'
  by_cases hc : k' = k ∧ i' = i
  · obtain ⟨rfl, rfl⟩ := hc
    rw [he]
    exact hP q0 _ (List.getElem?_set_self hl)
  · obtain ⟨q1, h1⟩ := hr_L_get E S o hk'
    have hne : q0 ≠ q1 := by
      intro h
      subst h
      have h2 := Option.some.inj (hq.symm.trans h1)
      have h3 : hr_ad E k i = hr_ad E k' i' := congrArg Prod.fst h2
      obtain ⟨e1, e2⟩ := hD.1 _ _ _ _ hk hk' h3
      exact hc ⟨e1.symm, e2.symm⟩
    rw [ho k' i' hk' hc]
    exact hP q1 _ (by rw [List.getElem?_set_ne hne]; exact h1)
theorem hr_P_wA {E : hr_E} {S : hr_S} {o : Int64} {H1 : Heap} {k i q0 : Nat} {e' : va_E} {f : Nat → Int32} (hD : hr_D E) (hk : i < hr_cnt k) (hq : (hr_L E S o)[q0]? = some (hr_ad E k i, hr_cell E S o k i))
    (hP : va_P E.1 vwCl ((hr_L E S o).set q0 (hr_ad E k i, e')) H1) (he : hr_cell E (hr_wA S k i f) o k i = e') : hr_P E (hr_wA S k i f) o H1 :=
  hr_P_set hD hk hq hP he (fun k' i' _ h => hr_cell_wA E S o f h)
end
section
/-! THE JUDGEMENT: the machine at a pc with these numbers (S, o), locals and stack comes to a state with Q; heap, frame and written places are spoken of once, here -/
def hr_G (p : Program) (l : Launch) (e : Env) (R : Room) (s : State) (m : MethodId) (args : Array Value) (below : List Frame) (meth : Method) (c : Code) (Q : State → Prop) (E : hr_E) (nL cells slots : Nat) (S : hr_S) (o : Int64) (lv : List (Nat × Value)) (pc : Nat) (st : List Value) : Prop :=
  ∀ (H : Heap) (locs : List Loc) (ls : Array Slot), hr_P E S o H → va_S (hr_A E) s.heap H locs → lv_has ls nL lv → W p l e R s m args below meth c H locs cells slots Q (F0 m pc ls st)
/-- what a walk of a method's body rests on -/
def hr_C (p : Program) (s : State) (m : MethodId) (args : Array Value) (meth : Method) (c : Code) (cc : ByteArray) (own : String) (c0 : Cond) (nL : Nat) (E : hr_E) : Prop := CallFix p m c cc nL s args (c0 :: hr_W) own ∧ meth.locks = false ∧ hr_K E s
section HG
variable {p : Program} {l : Launch} {e : Env} {R : Room} {s : State} {m : MethodId} {args : Array Value} {below : List Frame} {meth : Method} {c : Code} {Q : State → Prop} {E : hr_E} {nL cells slots pc : Nat} {S : hr_S} {o : Int64} {lv : List (Nat × Value)} {st : List Value} {cc : ByteArray} {own : String} {c0 : Cond}
theorem hr_iconst {n : Int} {v : Int32} (C : hr_C p s m args meth c cc own c0 nL E) (d : decode cc pc = .ok (.iconst n, 1)) (hv : Int32.ofInt n = v) (K : hr_G p l e R s m args below meth c Q E nL cells slots S o lv (pc + 1) (.int v :: st)) : hr_G p l e R s m args below meth c Q E nL cells slots S o lv (pc) (st) := fun H locs ls hP hS hl =>
  lv_iconst C.1.1 C.1.2.1 d hv (K H locs ls hP hS hl)
theorem hr_bipush {n : Int} {v : Int32} (C : hr_C p s m args meth c cc own c0 nL E) (d : decode cc pc = .ok (.bipush n, 2)) (hv : (Int8.ofInt n).toInt32 = v) (K : hr_G p l e R s m args below meth c Q E nL cells slots S o lv (pc + 2) (.int v :: st)) : hr_G p l e R s m args below meth c Q E nL cells slots S o lv (pc) (st) := fun H locs ls hP hS hl =>
  lv_bipush C.1.1 C.1.2.1 d hv (K H locs ls hP hS hl)
theorem hr_sipush {n : Int} {v : Int32} (C : hr_C p s m args meth c cc own c0 nL E) (d : decode cc pc = .ok (.sipush n, 3)) (hv : (Int16.ofInt n).toInt32 = v) (K : hr_G p l e R s m args below meth c Q E nL cells slots S o lv (pc + 3) (.int v :: st)) : hr_G p l e R s m args below meth c Q E nL cells slots S o lv (pc) (st) := fun H locs ls hP hS hl =>
  lv_sipush C.1.1 C.1.2.1 d hv (K H locs ls hP hS hl)
theorem hr_ldc {index : Nat} {v : Int32} (C : hr_C p s m args meth c cc own c0 nL E) (d : decode cc pc = .ok (.ldc index, 2)) (hw : Jvm.Cond.constant own index v ∈ hr_W) (K : hr_G p l e R s m args below meth c Q E nL cells slots S o lv (pc + 2) (.int v :: st)) : hr_G p l e R s m args below meth c Q E nL cells slots S o lv (pc) (st) := fun H locs ls hP hS hl =>
  lv_ldc C.1.1 C.1.2.1 C.1.2.2.2.1 (C.1.2.2.2.2 _ (List.mem_cons_of_mem _ hw)) d (K H locs ls hP hS hl)
theorem hr_lconst {n : Fin 2} {v : Int64} (C : hr_C p s m args meth c cc own c0 nL E) (d : decode cc pc = .ok (.lconst n, 1)) (hv : Int64.ofNat (n : Nat) = v) (K : hr_G p l e R s m args below meth c Q E nL cells slots S o lv (pc + 1) (.long v :: st)) : hr_G p l e R s m args below meth c Q E nL cells slots S o lv (pc) (st) := fun H locs ls hP hS hl =>
  lv_lconst C.1.1 C.1.2.1 d hv (K H locs ls hP hS hl)
theorem hr_iload_n {k : Fin 4} {i : Nat} {x : Int32} (C : hr_C p s m args meth c cc own c0 nL E) (d : decode cc pc = .ok (.iload_n k, 1)) (hi : (k : Nat) = i) (j : Nat) (hj : lv[j]? = some (i, .int x)) (K : hr_G p l e R s m args below meth c Q E nL cells slots S o lv (pc + 1) (.int x :: st)) : hr_G p l e R s m args below meth c Q E nL cells slots S o lv (pc) (st) := fun H locs ls hP hS hl =>
  lv_iload_n C.1.1 C.1.2.1 d hi (lv_at hl j hj) (K H locs ls hP hS hl)
theorem hr_iload {i : Nat} {x : Int32} (C : hr_C p s m args meth c cc own c0 nL E) (d : decode cc pc = .ok (.iload i, 2)) (j : Nat) (hj : lv[j]? = some (i, .int x)) (K : hr_G p l e R s m args below meth c Q E nL cells slots S o lv (pc + 2) (.int x :: st)) : hr_G p l e R s m args below meth c Q E nL cells slots S o lv (pc) (st) := fun H locs ls hP hS hl =>
  lv_iload C.1.1 C.1.2.1 d (lv_at hl j hj) (K H locs ls hP hS hl)
theorem hr_istore_n {k : Fin 4} {i : Nat} {x : Int32} (C : hr_C p s m args meth c cc own c0 nL E) (lv' : List (Nat × Value)) (d : decode cc pc = .ok (.istore_n k, 1)) (hi : (k : Nat) = i) (hn : i < nL) (hf : (i, Value.int x) :: lv.filter (fun q => !(q.1 == i) && !(q.1 + 1 == i && q.2.category == 2)) = lv') (K : hr_G p l e R s m args below meth c Q E nL cells slots S o lv' (pc + 1) (st)) : hr_G p l e R s m args below meth c Q E nL cells slots S o lv (pc) (.int x :: st) := fun H locs ls hP hS hl =>
  lv_istore_n C.1.1 C.1.2.1 d hi hl hn hf (fun ls' hl' => K H locs ls' hP hS hl')
theorem hr_istore {i : Nat} {x : Int32} (C : hr_C p s m args meth c cc own c0 nL E) (lv' : List (Nat × Value)) (d : decode cc pc = .ok (.istore i, 2)) (hn : i < nL) (hf : (i, Value.int x) :: lv.filter (fun q => !(q.1 == i) && !(q.1 + 1 == i && q.2.category == 2)) = lv') (K : hr_G p l e R s m args below meth c Q E nL cells slots S o lv' (pc + 2) (st)) : hr_G p l e R s m args below meth c Q E nL cells slots S o lv (pc) (.int x :: st) := fun H locs ls hP hS hl =>
  lv_istore C.1.1 C.1.2.1 d hl hn hf (fun ls' hl' => K H locs ls' hP hS hl')
theorem hr_aload_n {k : Fin 4} {i : Nat} {x : Nat} (C : hr_C p s m args meth c cc own c0 nL E) (d : decode cc pc = .ok (.aload_n k, 1)) (hi : (k : Nat) = i) (j : Nat) (hj : lv[j]? = some (i, .ref x)) (K : hr_G p l e R s m args below meth c Q E nL cells slots S o lv (pc + 1) (.ref x :: st)) : hr_G p l e R s m args below meth c Q E nL cells slots S o lv (pc) (st) := fun H locs ls hP hS hl =>
  lv_aload_n C.1.1 C.1.2.1 d hi (lv_at hl j hj) (K H locs ls hP hS hl)
theorem hr_aload {i : Nat} {x : Nat} (C : hr_C p s m args meth c cc own c0 nL E) (d : decode cc pc = .ok (.aload i, 2)) (j : Nat) (hj : lv[j]? = some (i, .ref x)) (K : hr_G p l e R s m args below meth c Q E nL cells slots S o lv (pc + 2) (.ref x :: st)) : hr_G p l e R s m args below meth c Q E nL cells slots S o lv (pc) (st) := fun H locs ls hP hS hl =>
  lv_aload C.1.1 C.1.2.1 d (lv_at hl j hj) (K H locs ls hP hS hl)
theorem hr_astore_n {k : Fin 4} {i : Nat} {x : Nat} (C : hr_C p s m args meth c cc own c0 nL E) (lv' : List (Nat × Value)) (d : decode cc pc = .ok (.astore_n k, 1)) (hi : (k : Nat) = i) (hn : i < nL) (hf : (i, Value.ref x) :: lv.filter (fun q => !(q.1 == i) && !(q.1 + 1 == i && q.2.category == 2)) = lv') (K : hr_G p l e R s m args below meth c Q E nL cells slots S o lv' (pc + 1) (st)) : hr_G p l e R s m args below meth c Q E nL cells slots S o lv (pc) (.ref x :: st) := fun H locs ls hP hS hl =>
  lv_astore_n C.1.1 C.1.2.1 d hi hl hn hf (fun ls' hl' => K H locs ls' hP hS hl')
theorem hr_astore {i : Nat} {x : Nat} (C : hr_C p s m args meth c cc own c0 nL E) (lv' : List (Nat × Value)) (d : decode cc pc = .ok (.astore i, 2)) (hn : i < nL) (hf : (i, Value.ref x) :: lv.filter (fun q => !(q.1 == i) && !(q.1 + 1 == i && q.2.category == 2)) = lv') (K : hr_G p l e R s m args below meth c Q E nL cells slots S o lv' (pc + 2) (st)) : hr_G p l e R s m args below meth c Q E nL cells slots S o lv (pc) (.ref x :: st) := fun H locs ls hP hS hl =>
  lv_astore C.1.1 C.1.2.1 d hl hn hf (fun ls' hl' => K H locs ls' hP hS hl')
theorem hr_iinc {i : Nat} {n : Int} {x v : Int32} (C : hr_C p s m args meth c cc own c0 nL E) (lv' : List (Nat × Value)) (d : decode cc pc = .ok (.iinc i n, 3)) (j : Nat) (hj : lv[j]? = some (i, .int x)) (hv : x + Int32.ofInt n = v) (hn : i < nL) (hf : (i, Value.int v) :: lv.filter (fun q => !(q.1 == i) && !(q.1 + 1 == i && q.2.category == 2)) = lv') (K : hr_G p l e R s m args below meth c Q E nL cells slots S o lv' (pc + 3) (st)) : hr_G p l e R s m args below meth c Q E nL cells slots S o lv (pc) (st) := fun H locs ls hP hS hl =>
  lv_iinc C.1.1 C.1.2.1 d hl hj hv hn hf (fun ls' hl' => K H locs ls' hP hS hl')
theorem hr_iadd {x y v : Int32} (C : hr_C p s m args meth c cc own c0 nL E) (d : decode cc pc = .ok (.iadd, 1)) (hv : x + y = v) (K : hr_G p l e R s m args below meth c Q E nL cells slots S o lv (pc + 1) (.int v :: st)) : hr_G p l e R s m args below meth c Q E nL cells slots S o lv (pc) (.int y :: .int x :: st) := fun H locs ls hP hS hl =>
  lv_iadd C.1.1 C.1.2.1 d (by rw [hv]; exact (K H locs ls hP hS hl))
theorem hr_isub {x y v : Int32} (C : hr_C p s m args meth c cc own c0 nL E) (d : decode cc pc = .ok (.isub, 1)) (hv : x - y = v) (K : hr_G p l e R s m args below meth c Q E nL cells slots S o lv (pc + 1) (.int v :: st)) : hr_G p l e R s m args below meth c Q E nL cells slots S o lv (pc) (.int y :: .int x :: st) := fun H locs ls hP hS hl =>
  lv_isub C.1.1 C.1.2.1 d (by rw [hv]; exact (K H locs ls hP hS hl))
theorem hr_imul {x y v : Int32} (C : hr_C p s m args meth c cc own c0 nL E) (d : decode cc pc = .ok (.imul, 1)) (hv : x * y = v) (K : hr_G p l e R s m args below meth c Q E nL cells slots S o lv (pc + 1) (.int v :: st)) : hr_G p l e R s m args below meth c Q E nL cells slots S o lv (pc) (.int y :: .int x :: st) := fun H locs ls hP hS hl =>
  lv_imul C.1.1 C.1.2.1 d (by rw [hv]; exact (K H locs ls hP hS hl))
theorem hr_iand {x y v : Int32} (C : hr_C p s m args meth c cc own c0 nL E) (d : decode cc pc = .ok (.iand, 1)) (hv : x &&& y = v) (K : hr_G p l e R s m args below meth c Q E nL cells slots S o lv (pc + 1) (.int v :: st)) : hr_G p l e R s m args below meth c Q E nL cells slots S o lv (pc) (.int y :: .int x :: st) := fun H locs ls hP hS hl =>
  lv_iand C.1.1 C.1.2.1 d (by rw [hv]; exact (K H locs ls hP hS hl))
theorem hr_ior {x y v : Int32} (C : hr_C p s m args meth c cc own c0 nL E) (d : decode cc pc = .ok (.ior, 1)) (hv : x ||| y = v) (K : hr_G p l e R s m args below meth c Q E nL cells slots S o lv (pc + 1) (.int v :: st)) : hr_G p l e R s m args below meth c Q E nL cells slots S o lv (pc) (.int y :: .int x :: st) := fun H locs ls hP hS hl =>
  lv_ior C.1.1 C.1.2.1 d (by rw [hv]; exact (K H locs ls hP hS hl))
theorem hr_ixor {x y v : Int32} (C : hr_C p s m args meth c cc own c0 nL E) (d : decode cc pc = .ok (.ixor, 1)) (hv : x ^^^ y = v) (K : hr_G p l e R s m args below meth c Q E nL cells slots S o lv (pc + 1) (.int v :: st)) : hr_G p l e R s m args below meth c Q E nL cells slots S o lv (pc) (.int y :: .int x :: st) := fun H locs ls hP hS hl =>
  lv_ixor C.1.1 C.1.2.1 d (by rw [hv]; exact (K H locs ls hP hS hl))
theorem hr_ishl {x y v : Int32} (C : hr_C p s m args meth c cc own c0 nL E) (d : decode cc pc = .ok (.ishl, 1)) (hv : x <<< (y &&& 31) = v) (K : hr_G p l e R s m args below meth c Q E nL cells slots S o lv (pc + 1) (.int v :: st)) : hr_G p l e R s m args below meth c Q E nL cells slots S o lv (pc) (.int y :: .int x :: st) := fun H locs ls hP hS hl =>
  lv_ishl C.1.1 C.1.2.1 d (by rw [hv]; exact (K H locs ls hP hS hl))
theorem hr_ishr {x y v : Int32} (C : hr_C p s m args meth c cc own c0 nL E) (d : decode cc pc = .ok (.ishr, 1)) (hv : x >>> (y &&& 31) = v) (K : hr_G p l e R s m args below meth c Q E nL cells slots S o lv (pc + 1) (.int v :: st)) : hr_G p l e R s m args below meth c Q E nL cells slots S o lv (pc) (.int y :: .int x :: st) := fun H locs ls hP hS hl =>
  lv_ishr C.1.1 C.1.2.1 d (by rw [hv]; exact (K H locs ls hP hS hl))
theorem hr_iushr {x y v : Int32} (C : hr_C p s m args meth c cc own c0 nL E) (d : decode cc pc = .ok (.iushr, 1)) (hv : (x.toUInt32 >>> (y.toUInt32 &&& Int32.toUInt32 31)).toInt32 = v) (K : hr_G p l e R s m args below meth c Q E nL cells slots S o lv (pc + 1) (.int v :: st)) : hr_G p l e R s m args below meth c Q E nL cells slots S o lv (pc) (.int y :: .int x :: st) := fun H locs ls hP hS hl =>
  lv_iushr C.1.1 C.1.2.1 d hv (K H locs ls hP hS hl)
theorem hr_idiv {x y v : Int32} (C : hr_C p s m args meth c cc own c0 nL E) (d : decode cc pc = .ok (.idiv, 1)) (hne : ¬ y = 0) (hv : x / y = v) (K : hr_G p l e R s m args below meth c Q E nL cells slots S o lv (pc + 1) (.int v :: st)) : hr_G p l e R s m args below meth c Q E nL cells slots S o lv (pc) (.int y :: .int x :: st) := fun H locs ls hP hS hl =>
  lv_idiv C.1.1 C.1.2.1 d hne (by rw [hv]; exact (K H locs ls hP hS hl))
theorem hr_irem {x y v : Int32} (C : hr_C p s m args meth c cc own c0 nL E) (d : decode cc pc = .ok (.irem, 1)) (hne : ¬ y = 0) (hv : x - x / y * y = v) (K : hr_G p l e R s m args below meth c Q E nL cells slots S o lv (pc + 1) (.int v :: st)) : hr_G p l e R s m args below meth c Q E nL cells slots S o lv (pc) (.int y :: .int x :: st) := fun H locs ls hP hS hl =>
  lv_irem C.1.1 C.1.2.1 d hne (by rw [hv]; exact (K H locs ls hP hS hl))
theorem hr_i2l {x : Int32} {v : Int64} (C : hr_C p s m args meth c cc own c0 nL E) (d : decode cc pc = .ok (.i2l, 1)) (hv : x.toInt64 = v) (K : hr_G p l e R s m args below meth c Q E nL cells slots S o lv (pc + 1) (.long v :: st)) : hr_G p l e R s m args below meth c Q E nL cells slots S o lv (pc) (.int x :: st) := fun H locs ls hP hS hl =>
  lv_i2l C.1.1 C.1.2.1 d hv (K H locs ls hP hS hl)
theorem hr_lcmp {x y : Int64} {v : Int32} (C : hr_C p s m args meth c cc own c0 nL E) (d : decode cc pc = .ok (.lcmp, 1)) (hv : lg_cmp x y = v) (K : hr_G p l e R s m args below meth c Q E nL cells slots S o lv (pc + 1) (.int v :: st)) : hr_G p l e R s m args below meth c Q E nL cells slots S o lv (pc) (.long y :: .long x :: st) := fun H locs ls hP hS hl =>
  W.lcmp C.1.1 C.1.2.1 d (by rw [hv]; exact (K H locs ls hP hS hl))
theorem hr_dup {a : Value} (C : hr_C p s m args meth c cc own c0 nL E) (d : decode cc pc = .ok (.dup, 1)) (ha : a.category = 1) (K : hr_G p l e R s m args below meth c Q E nL cells slots S o lv (pc + 1) (a :: a :: st)) : hr_G p l e R s m args below meth c Q E nL cells slots S o lv (pc) (a :: st) := fun H locs ls hP hS hl =>
  lv_dup C.1.1 C.1.2.1 d ha (K H locs ls hP hS hl)
theorem hr_dup2 {a b : Value} (C : hr_C p s m args meth c cc own c0 nL E) (d : decode cc pc = .ok (.dup2, 1)) (ha : a.category = 1) (hb : b.category = 1) (K : hr_G p l e R s m args below meth c Q E nL cells slots S o lv (pc + 1) (a :: b :: a :: b :: st)) : hr_G p l e R s m args below meth c Q E nL cells slots S o lv (pc) (a :: b :: st) := fun H locs ls hP hS hl =>
  lv_dup2_11 C.1.1 C.1.2.1 d ha hb (K H locs ls hP hS hl)
theorem hr_pop {a : Value} (C : hr_C p s m args meth c cc own c0 nL E) (d : decode cc pc = .ok (.pop, 1)) (ha : a.category = 1) (K : hr_G p l e R s m args below meth c Q E nL cells slots S o lv (pc + 1) (st)) : hr_G p l e R s m args below meth c Q E nL cells slots S o lv (pc) (a :: st) := fun H locs ls hP hS hl =>
  lv_pop C.1.1 C.1.2.1 d ha (K H locs ls hP hS hl)
theorem hr_icmp_eq {x y : Int32} {off : Int} (C : hr_C p s m args meth c cc own c0 nL E) (tgt : Nat) (d : decode cc pc = .ok (.if_icmp .eq off, 3)) (ht : (pc : Int) + off = (tgt : Int)) (Kt : x = y → hr_G p l e R s m args below meth c Q E nL cells slots S o lv (tgt) (st)) (Kf : ¬ x = y → hr_G p l e R s m args below meth c Q E nL cells slots S o lv (pc + 3) (st)) : hr_G p l e R s m args below meth c Q E nL cells slots S o lv (pc) (.int y :: .int x :: st) := fun H locs ls hP hS hl =>
  lv_icmp_eq C.1.1 C.1.2.1 d ht (fun h => Kt h H locs ls hP hS hl) (fun h => Kf h H locs ls hP hS hl)
theorem hr_if_eq {x : Int32} {off : Int} (C : hr_C p s m args meth c cc own c0 nL E) (tgt : Nat) (d : decode cc pc = .ok (.ifCond .eq off, 3)) (ht : (pc : Int) + off = (tgt : Int)) (Kt : x = 0 → hr_G p l e R s m args below meth c Q E nL cells slots S o lv (tgt) (st)) (Kf : ¬ x = 0 → hr_G p l e R s m args below meth c Q E nL cells slots S o lv (pc + 3) (st)) : hr_G p l e R s m args below meth c Q E nL cells slots S o lv (pc) (.int x :: st) := fun H locs ls hP hS hl =>
  lv_if_eq C.1.1 C.1.2.1 d ht (fun h => Kt h H locs ls hP hS hl) (fun h => Kf h H locs ls hP hS hl)
theorem hr_icmp_ne {x y : Int32} {off : Int} (C : hr_C p s m args meth c cc own c0 nL E) (tgt : Nat) (d : decode cc pc = .ok (.if_icmp .ne off, 3)) (ht : (pc : Int) + off = (tgt : Int)) (Kt : ¬ x = y → hr_G p l e R s m args below meth c Q E nL cells slots S o lv (tgt) (st)) (Kf : x = y → hr_G p l e R s m args below meth c Q E nL cells slots S o lv (pc + 3) (st)) : hr_G p l e R s m args below meth c Q E nL cells slots S o lv (pc) (.int y :: .int x :: st) := fun H locs ls hP hS hl =>
  lv_icmp_ne C.1.1 C.1.2.1 d ht (fun h => Kt h H locs ls hP hS hl) (fun h => Kf h H locs ls hP hS hl)
theorem hr_if_ne {x : Int32} {off : Int} (C : hr_C p s m args meth c cc own c0 nL E) (tgt : Nat) (d : decode cc pc = .ok (.ifCond .ne off, 3)) (ht : (pc : Int) + off = (tgt : Int)) (Kt : ¬ x = 0 → hr_G p l e R s m args below meth c Q E nL cells slots S o lv (tgt) (st)) (Kf : x = 0 → hr_G p l e R s m args below meth c Q E nL cells slots S o lv (pc + 3) (st)) : hr_G p l e R s m args below meth c Q E nL cells slots S o lv (pc) (.int x :: st) := fun H locs ls hP hS hl =>
  lv_if_ne C.1.1 C.1.2.1 d ht (fun h => Kt h H locs ls hP hS hl) (fun h => Kf h H locs ls hP hS hl)
theorem hr_icmp_lt {x y : Int32} {off : Int} (C : hr_C p s m args meth c cc own c0 nL E) (tgt : Nat) (d : decode cc pc = .ok (.if_icmp .lt off, 3)) (ht : (pc : Int) + off = (tgt : Int)) (Kt : x < y → hr_G p l e R s m args below meth c Q E nL cells slots S o lv (tgt) (st)) (Kf : ¬ x < y → hr_G p l e R s m args below meth c Q E nL cells slots S o lv (pc + 3) (st)) : hr_G p l e R s m args below meth c Q E nL cells slots S o lv (pc) (.int y :: .int x :: st) := fun H locs ls hP hS hl =>
  lv_icmp_lt C.1.1 C.1.2.1 d ht (fun h => Kt h H locs ls hP hS hl) (fun h => Kf h H locs ls hP hS hl)
theorem hr_if_lt {x : Int32} {off : Int} (C : hr_C p s m args meth c cc own c0 nL E) (tgt : Nat) (d : decode cc pc = .ok (.ifCond .lt off, 3)) (ht : (pc : Int) + off = (tgt : Int)) (Kt : x < 0 → hr_G p l e R s m args below meth c Q E nL cells slots S o lv (tgt) (st)) (Kf : ¬ x < 0 → hr_G p l e R s m args below meth c Q E nL cells slots S o lv (pc + 3) (st)) : hr_G p l e R s m args below meth c Q E nL cells slots S o lv (pc) (.int x :: st) := fun H locs ls hP hS hl =>
  lv_if_lt C.1.1 C.1.2.1 d ht (fun h => Kt h H locs ls hP hS hl) (fun h => Kf h H locs ls hP hS hl)
theorem hr_icmp_ge {x y : Int32} {off : Int} (C : hr_C p s m args meth c cc own c0 nL E) (tgt : Nat) (d : decode cc pc = .ok (.if_icmp .ge off, 3)) (ht : (pc : Int) + off = (tgt : Int)) (Kt : y ≤ x → hr_G p l e R s m args below meth c Q E nL cells slots S o lv (tgt) (st)) (Kf : ¬ y ≤ x → hr_G p l e R s m args below meth c Q E nL cells slots S o lv (pc + 3) (st)) : hr_G p l e R s m args below meth c Q E nL cells slots S o lv (pc) (.int y :: .int x :: st) := fun H locs ls hP hS hl =>
  lv_icmp_ge C.1.1 C.1.2.1 d ht (fun h => Kt h H locs ls hP hS hl) (fun h => Kf h H locs ls hP hS hl)
theorem hr_if_ge {x : Int32} {off : Int} (C : hr_C p s m args meth c cc own c0 nL E) (tgt : Nat) (d : decode cc pc = .ok (.ifCond .ge off, 3)) (ht : (pc : Int) + off = (tgt : Int)) (Kt : 0 ≤ x → hr_G p l e R s m args below meth c Q E nL cells slots S o lv (tgt) (st)) (Kf : ¬ 0 ≤ x → hr_G p l e R s m args below meth c Q E nL cells slots S o lv (pc + 3) (st)) : hr_G p l e R s m args below meth c Q E nL cells slots S o lv (pc) (.int x :: st) := fun H locs ls hP hS hl =>
  lv_if_ge C.1.1 C.1.2.1 d ht (fun h => Kt h H locs ls hP hS hl) (fun h => Kf h H locs ls hP hS hl)
theorem hr_icmp_gt {x y : Int32} {off : Int} (C : hr_C p s m args meth c cc own c0 nL E) (tgt : Nat) (d : decode cc pc = .ok (.if_icmp .gt off, 3)) (ht : (pc : Int) + off = (tgt : Int)) (Kt : y < x → hr_G p l e R s m args below meth c Q E nL cells slots S o lv (tgt) (st)) (Kf : ¬ y < x → hr_G p l e R s m args below meth c Q E nL cells slots S o lv (pc + 3) (st)) : hr_G p l e R s m args below meth c Q E nL cells slots S o lv (pc) (.int y :: .int x :: st) := fun H locs ls hP hS hl =>
  lv_icmp_gt C.1.1 C.1.2.1 d ht (fun h => Kt h H locs ls hP hS hl) (fun h => Kf h H locs ls hP hS hl)
theorem hr_if_gt {x : Int32} {off : Int} (C : hr_C p s m args meth c cc own c0 nL E) (tgt : Nat) (d : decode cc pc = .ok (.ifCond .gt off, 3)) (ht : (pc : Int) + off = (tgt : Int)) (Kt : 0 < x → hr_G p l e R s m args below meth c Q E nL cells slots S o lv (tgt) (st)) (Kf : ¬ 0 < x → hr_G p l e R s m args below meth c Q E nL cells slots S o lv (pc + 3) (st)) : hr_G p l e R s m args below meth c Q E nL cells slots S o lv (pc) (.int x :: st) := fun H locs ls hP hS hl =>
  lv_if_gt C.1.1 C.1.2.1 d ht (fun h => Kt h H locs ls hP hS hl) (fun h => Kf h H locs ls hP hS hl)
theorem hr_icmp_le {x y : Int32} {off : Int} (C : hr_C p s m args meth c cc own c0 nL E) (tgt : Nat) (d : decode cc pc = .ok (.if_icmp .le off, 3)) (ht : (pc : Int) + off = (tgt : Int)) (Kt : x ≤ y → hr_G p l e R s m args below meth c Q E nL cells slots S o lv (tgt) (st)) (Kf : ¬ x ≤ y → hr_G p l e R s m args below meth c Q E nL cells slots S o lv (pc + 3) (st)) : hr_G p l e R s m args below meth c Q E nL cells slots S o lv (pc) (.int y :: .int x :: st) := fun H locs ls hP hS hl =>
  lv_icmp_le C.1.1 C.1.2.1 d ht (fun h => Kt h H locs ls hP hS hl) (fun h => Kf h H locs ls hP hS hl)
theorem hr_if_le {x : Int32} {off : Int} (C : hr_C p s m args meth c cc own c0 nL E) (tgt : Nat) (d : decode cc pc = .ok (.ifCond .le off, 3)) (ht : (pc : Int) + off = (tgt : Int)) (Kt : x ≤ 0 → hr_G p l e R s m args below meth c Q E nL cells slots S o lv (tgt) (st)) (Kf : ¬ x ≤ 0 → hr_G p l e R s m args below meth c Q E nL cells slots S o lv (pc + 3) (st)) : hr_G p l e R s m args below meth c Q E nL cells slots S o lv (pc) (.int x :: st) := fun H locs ls hP hS hl =>
  lv_if_le C.1.1 C.1.2.1 d ht (fun h => Kt h H locs ls hP hS hl) (fun h => Kf h H locs ls hP hS hl)
theorem hr_goto {off : Int} (C : hr_C p s m args meth c cc own c0 nL E) (tgt : Nat) (d : decode cc pc = .ok (.goto off, 3)) (ht : (pc : Int) + off = (tgt : Int)) (K : hr_G p l e R s m args below meth c Q E nL cells slots S o lv (tgt) (st)) : hr_G p l e R s m args below meth c Q E nL cells slots S o lv (pc) (st) := fun H locs ls hP hS hl =>
  lv_goto C.1.1 C.1.2.1 d ht (K H locs ls hP hS hl)
theorem hr_tabIn {dflt lo hi : Int} {offs : Array Int} {len : Nat} {x : Int32} {off : Int} (C : hr_C p s m args meth c cc own c0 nL E) (tgt : Nat) (d : decode cc pc = .ok (.tableswitch dflt lo hi offs, len)) (h1 : ¬ x.toInt < lo) (h2 : ¬ hi < x.toInt) (ho : offs[(x.toInt - lo).toNat]? = some off) (ht : (pc : Int) + off = (tgt : Int)) (K : hr_G p l e R s m args below meth c Q E nL cells slots S o lv (tgt) (st)) : hr_G p l e R s m args below meth c Q E nL cells slots S o lv (pc) (.int x :: st) := fun H locs ls hP hS hl =>
  lv_tableIn C.1.1 C.1.2.1 d h1 h2 ho ht (K H locs ls hP hS hl)
theorem hr_tabOut {dflt lo hi : Int} {offs : Array Int} {len : Nat} {x : Int32} (C : hr_C p s m args meth c cc own c0 nL E) (tgt : Nat) (d : decode cc pc = .ok (.tableswitch dflt lo hi offs, len)) (h : x.toInt < lo ∨ hi < x.toInt) (ht : (pc : Int) + dflt = (tgt : Int)) (K : hr_G p l e R s m args below meth c Q E nL cells slots S o lv (tgt) (st)) : hr_G p l e R s m args below meth c Q E nL cells slots S o lv (pc) (.int x :: st) := fun H locs ls hP hS hl =>
  lv_tableOut C.1.1 C.1.2.1 d h ht (K H locs ls hP hS hl)
theorem hr_nm {x : Int32} (K : ∀ y : Int32, y = x → hr_G p l e R s m args below meth c Q E nL cells slots S o lv (pc) (.int y :: st)) : hr_G p l e R s m args below meth c Q E nL cells slots S o lv (pc) (.int x :: st) := K x rfl
theorem hr_st {S1 : hr_S} (h : S = S1) (K : hr_G p l e R s m args below meth c Q E nL cells slots S1 o lv (pc) (st)) : hr_G p l e R s m args below meth c Q E nL cells slots S o lv (pc) (st) := h ▸ K
theorem hr_tp {x y : Int32} (h : x = y) (K : hr_G p l e R s m args below meth c Q E nL cells slots S o lv (pc) (.int y :: st)) : hr_G p l e R s m args below meth c Q E nL cells slots S o lv (pc) (.int x :: st) := h ▸ K
theorem hr_wd {k n : Nat} (h1 : cells ≤ k) (h2 : slots ≤ n) (K : hr_G p l e R s m args below meth c Q E nL k n S o lv pc st) : hr_G p l e R s m args below meth c Q E nL cells slots S o lv (pc) (st) := fun H locs ls hP hS hl => W.widen h1 h2 (K H locs ls hP hS hl)
theorem hr_sub (ks : List Nat) {lv' : List (Nat × Value)} (h : lv_pick lv ks = lv') (K : hr_G p l e R s m args below meth c Q E nL cells slots S o lv' (pc) (st)) : hr_G p l e R s m args below meth c Q E nL cells slots S o lv (pc) (st) := fun H locs ls hP hS hl => K H locs ls hP hS (lv_sub hl ks h)
theorem hr_cl (k : Nat) : k < 2 ^ 31 → (nI k).toNatClampNeg = k := nI_clamp
/-- a one-cell view of the world -/
theorem hr_one {H : Heap} (hP : hr_P E S o H) {k i : Nat} (hk : i < hr_cnt k) {x : va_E} (hx : hr_cell E S o k i = x) : va_P E.1 vwCl [(hr_ad E k i, x)] H := by
  intro n q hq
  have hz : n < 1 := (List.getElem?_eq_some_iff.mp hq).1
  rw [show n = 0 by omega] at hq
  cases hq
  rw [← hx]
  exact hP k i hk
theorem hr_get {k i fld ci N index : Nat} {ref Cn : String} {T : u_T} {fs : List Value} {v : Value} (C : hr_C p s m args meth c cc own c0 nL E) (hk : i < hr_cnt k) (hx : hr_cell E S o k i = .inr (ci, fs)) (hc : vwCl[ci]? = some (Cn, T, N)) (hf : fld < N) (hin : ∀ w ∈ u_ws Cn T N, w ∈ hr_W) (hw : Cond.fieldLink own index ref (T fld).2.1 (T fld).2.2.1 ∈ hr_W) (hr : (T fld).1 = ref) (hv : fs[fld]? = some v) (d : decode cc pc = .ok (.getfield index, 3)) (K : hr_G p l e R s m args below meth c Q E nL cells slots S o lv (pc + 3) (v :: st)) : hr_G p l e R s m args below meth c Q E nL cells slots S o lv (pc) (.ref (hr_ad E k i) :: st) := fun H locs ls hP hS hl =>
  va_get C.1.1 C.1.2.1 C.1.2.2.2.2 (fun w h => List.mem_cons_of_mem _ (hin w h)) C.1.2.2.2.1 C.2.2.1 (hr_one hP hk hx) 0 rfl hc fld hf (C.1.2.2.2.2 _ (List.mem_cons_of_mem _ hw)) (fun x h => by rw [← hr]; exact h) hv d (K H locs ls hP hS hl)
theorem hr_put {k i fld ci N index : Nat} {ref Cn : String} {T : u_T} {fs : List Value} {x : Int32} {S1 : hr_S} (C : hr_C p s m args meth c cc own c0 nL E) (hk : i < hr_cnt k) (hx : hr_cell E S o k i = .inr (ci, fs)) (hc : vwCl[ci]? = some (Cn, T, N)) (hf : fld < N) (hin : ∀ w ∈ u_ws Cn T N, w ∈ hr_W) (hw : Cond.fieldLink own index ref (T fld).2.1 (T fld).2.2.1 ∈ hr_W) (hr : (T fld).1 = ref) (ty0 : Nat → FieldType) (hty : ∀ k, k < N → parseFieldDescriptor (T k).2.2.1 = some (ty0 k)) (hnm : ∀ a, a < N → ∀ b, b < N → a ≠ b → (T a).2.1 ≠ (T b).2.1) (hfin : (T fld).2.2.2 = false) (hd : parseFieldDescriptor (T fld).2.2.1 = some .int) (hlen : fld < fs.length)
    (hnew : hr_cell E (hr_w S k i fld x) o k i = .inr (ci, fs.set fld (.int x))) (hS1 : hr_w S k i fld x = S1) (d : decode cc pc = .ok (.putfield index, 3)) (K : hr_G p l e R s m args below meth c Q E nL cells slots S1 o lv (pc + 3) (st)) : hr_G p l e R s m args below meth c Q E nL cells slots S o lv (pc) (.int x :: .ref (hr_ad E k i) :: st) := fun H locs ls hP hS hl => by
  obtain ⟨q0, hq⟩ := hr_L_get E S o hk
  refine va_put (v := .int x) (ty := .int) C.1.1 C.1.2.1 C.1.2.2.2.2 (fun w h => List.mem_cons_of_mem _ (hin w h)) ty0 hty hnm C.1.2.2.2.1 C.2.2.1 hP.list (C.2.2.2.1.list S o) hS q0 (by rw [hq, hx]) hc fld hf (C.1.2.2.2.2 _ (List.mem_cons_of_mem _ hw)) (fun x h => by rw [← hr]; exact h) hfin hd rfl rfl hlen d (fun H1 locs1 hP1 hD1 hS1' => ?_)
  subst hS1
  exact K H1 locs1 ls (hr_P_wA C.2.2.2.1 hk hq hP1 hnew) hS1' hl
theorem hr_iald {k i n : Nat} {f : Nat → Int32} {x : Int32} (j : Nat) (C : hr_C p s m args meth c cc own c0 nL E) (hk : i < hr_cnt k) (hx : hr_cell E S o k i = .inl (E.2.2.1 0, n, .inl f)) (hj : x = nI j) (hlt : j < n) (hn : n < 2 ^ 31) (d : decode cc pc = .ok (.iaload, 1)) (K : hr_G p l e R s m args below meth c Q E nL cells slots S o lv (pc + 1) (.int (f j) :: st)) : hr_G p l e R s m args below meth c Q E nL cells slots S o lv (pc) (.int x :: .ref (hr_ad E k i) :: st) := fun H locs ls hP hS hl => by
  subst hj
  refine va_iald C.1.1 C.1.2.1 C.2.2.1 (hr_one hP hk hx) 0 0 rfl rfl (vp_in_nI hlt hn) d ?_
  rw [nI_clamp (by omega)]
  exact (K H locs ls hP hS hl)
theorem hr_zald {k i n : Nat} {f : Nat → Int32} {x : Int32} (j : Nat) (C : hr_C p s m args meth c cc own c0 nL E) (hk : i < hr_cnt k) (hx : hr_cell E S o k i = .inl (E.2.2.1 1, n, .inl f)) (hj : x = nI j) (hlt : j < n) (hn : n < 2 ^ 31) (d : decode cc pc = .ok (.baload, 1)) (K : hr_G p l e R s m args below meth c Q E nL cells slots S o lv (pc + 1) (.int (f j) :: st)) : hr_G p l e R s m args below meth c Q E nL cells slots S o lv (pc) (.int x :: .ref (hr_ad E k i) :: st) := fun H locs ls hP hS hl => by
  subst hj
  refine va_zald C.1.1 C.1.2.1 C.2.2.1 (hr_one hP hk hx) 0 1 rfl rfl (vp_in_nI hlt hn) d ?_
  rw [nI_clamp (by omega)]
  exact (K H locs ls hP hS hl)
theorem hr_iast {k i n : Nat} {f : Nat → Int32} {y x : Int32} {S1 : hr_S} (j : Nat) (C : hr_C p s m args meth c cc own c0 nL E) (hk : i < hr_cnt k) (hx : hr_cell E S o k i = .inl (E.2.2.1 0, n, .inl f)) (hj : y = nI j) (hlt : j < n) (hn : n < 2 ^ 31) (hnew : hr_cell E (hr_wA S k i (upd f j x)) o k i = .inl (E.2.2.1 0, n, .inl (upd f j x))) (hS1 : hr_wA S k i (upd f j x) = S1) (d : decode cc pc = .ok (.iastore, 1)) (K : hr_G p l e R s m args below meth c Q E nL cells slots S1 o lv (pc + 1) (st)) : hr_G p l e R s m args below meth c Q E nL cells slots S o lv (pc) (.int x :: .int y :: .ref (hr_ad E k i) :: st) := fun H locs ls hP hS hl => by
  subst hj
  obtain ⟨q0, hq⟩ := hr_L_get E S o hk
  refine va_iast C.1.1 C.1.2.1 C.2.2.1 hP.list (C.2.2.2.1.list S o) hS q0 0 (by rw [hq, hx]) rfl (vp_in_nI hlt hn) d (fun H1 locs1 hP1 hD1 hS1' => ?_)
  rw [nI_clamp (by omega)] at hP1
  subst hS1
  exact K H1 locs1 ls (hr_P_wA C.2.2.2.1 hk hq hP1 hnew) hS1' hl
theorem hr_zast {k i n : Nat} {f : Nat → Int32} {y x : Int32} {S1 : hr_S} (j : Nat) (C : hr_C p s m args meth c cc own c0 nL E) (hk : i < hr_cnt k) (hx : hr_cell E S o k i = .inl (E.2.2.1 1, n, .inl f)) (hj : y = nI j) (hlt : j < n) (hn : n < 2 ^ 31) (hnew : hr_cell E (hr_wA S k i (upd f j (vp_nar .boolean x))) o k i = .inl (E.2.2.1 1, n, .inl (upd f j (vp_nar .boolean x)))) (hS1 : hr_wA S k i (upd f j (vp_nar .boolean x)) = S1) (d : decode cc pc = .ok (.bastore, 1)) (K : hr_G p l e R s m args below meth c Q E nL cells slots S1 o lv (pc + 1) (st)) : hr_G p l e R s m args below meth c Q E nL cells slots S o lv (pc) (.int x :: .int y :: .ref (hr_ad E k i) :: st) := fun H locs ls hP hS hl => by
  subst hj
  obtain ⟨q0, hq⟩ := hr_L_get E S o hk
  refine va_zast C.1.1 C.1.2.1 C.2.2.1 hP.list (C.2.2.2.1.list S o) hS q0 1 (by rw [hq, hx]) rfl (vp_in_nI hlt hn) d (fun H1 locs1 hP1 hD1 hS1' => ?_)
  rw [nI_clamp (by omega)] at hP1
  subst hS1
  exact K H1 locs1 ls (hr_P_wA C.2.2.2.1 hk hq hP1 hnew) hS1' hl
theorem hr_aald {k i n t0 k2 : Nat} {Cn : String} {x : Int32} (j : Nat) (C : hr_C p s m args meth c cc own c0 nL E) (hk : i < hr_cnt k) (ht : (hr_tys E)[t0]? = some (E.2.2.1 t0, .object Cn)) (hx : hr_cell E S o k i = .inl (E.2.2.1 t0, n, .inr (.inr (.inr (.inr (fun j => some (hr_ad E k2 j))))))) (hj : x = nI j) (hlt : j < n) (hn : n < 2 ^ 31) (d : decode cc pc = .ok (.aaload, 1)) (K : hr_G p l e R s m args below meth c Q E nL cells slots S o lv (pc + 1) (.ref (hr_ad E k2 j) :: st)) : hr_G p l e R s m args below meth c Q E nL cells slots S o lv (pc) (.int x :: .ref (hr_ad E k i) :: st) := fun H locs ls hP hS hl => by
  subst hj
  refine va_aldq C.1.1 C.1.2.1 C.2.2.1 (hr_one hP hk hx) 0 t0 rfl ht (vp_in_nI hlt hn) d ?_
  rw [nI_clamp (by omega)]
  exact (K H locs ls hP hS hl)
theorem hr_alen {k i n t0 : Nat} {ty : FieldType} {r : (Nat → Int32) ⊕ (Nat → Int64) ⊕ (Nat → UInt32) ⊕ (Nat → UInt64) ⊕ (Nat → Option Nat)} (C : hr_C p s m args meth c cc own c0 nL E) (hk : i < hr_cnt k) (ht : (hr_tys E)[t0]? = some (E.2.2.1 t0, ty)) (hx : hr_cell E S o k i = .inl (E.2.2.1 t0, n, r)) (d : decode cc pc = .ok (.arraylength, 1)) (K : hr_G p l e R s m args below meth c Q E nL cells slots S o lv (pc + 1) (.int (nI n) :: st)) : hr_G p l e R s m args below meth c Q E nL cells slots S o lv (pc) (.ref (hr_ad E k i) :: st) := fun H locs ls hP hS hl =>
  va_alen (x := (n, r)) (v := nI n) C.1.1 C.1.2.1 C.2.2.1 (hr_one hP hk hx) 0 t0 rfl ht rfl d (K H locs ls hP hS hl)
theorem hr_copy {k0 i0 k i n0 n index : Nat} {f g : Nat → Int32} {sp dp ln : Int32} {S1 : hr_S} (sj dj lj : Nat) (C : hr_C p s m args meth c cc own c0 nL E) (hk0 : i0 < hr_cnt k0) (hk : i < hr_cnt k) (hx0 : hr_cell E S o k0 i0 = .inl (E.2.2.1 0, n0, .inl f)) (hx : hr_cell E S o k i = .inl (E.2.2.1 0, n, .inl g)) (hsp : sp = nI sj) (hdp : dp = nI dj) (hln : ln = nI lj) (h4 : sj + lj ≤ n0) (h5 : dj + lj ≤ n) (hn0 : n0 < 2 ^ 31) (hn : n < 2 ^ 31)
    (hw1 : Cond.methodLink own index arraycopyName ∈ hr_W) (hw2 : Cond.native arraycopyName ∈ hr_W) (hw3 : Cond.static arraycopyName ∈ hr_W) (hw4 : Cond.initialized "java/lang/System" ∈ hr_W) (hframes : 1 ≤ R.frames) (hlocals : (st.map fun v => v.category).sum + (nativeFrameWords "java/lang/System" "arraycopy" 5 + 11) ≤ R.locals)
    (hnew : hr_cell E (hr_wA S k i (va_cpy f g sj dj lj)) o k i = .inl (E.2.2.1 0, n, .inl (va_cpy f g sj dj lj))) (hS1 : hr_wA S k i (va_cpy f g sj dj lj) = S1) (d : decode cc pc = .ok (.invokestatic index, 3)) (K : hr_G p l e R s m args below meth c Q E nL cells slots S1 o lv (pc + 3) (st)) : hr_G p l e R s m args below meth c Q E nL cells slots S o lv (pc) (.int ln :: .int dp :: .ref (hr_ad E k i) :: .int sp :: .ref (hr_ad E k0 i0) :: st) := fun H locs ls hP hS hl => by
  subst hsp hdp hln
  obtain ⟨q0, hq0⟩ := hr_L_get E S o hk0
  obtain ⟨q1, hq1⟩ := hr_L_get E S o hk
  refine va_copyi (ty := .int) C.1.1 C.1.2.1 (C.1.2.2.1.trans hl.1.symm) C.1.2.2.2.1 (C.1.2.2.2.2 _ (List.mem_cons_of_mem _ hw1)) (C.1.2.2.2.2 _ (List.mem_cons_of_mem _ hw2)) (C.1.2.2.2.2 _ (List.mem_cons_of_mem _ hw3)) (C.1.2.2.2.2 _ (List.mem_cons_of_mem _ hw4)) C.2.2.1 hP.list (C.2.2.2.1.list S o) hS q0 q1 0 0 (by rw [hq0, hx0]) (by rw [hq1, hx]) rfl rfl rfl (nI_pos (by omega)) (nI_pos (by omega)) (nI_pos (by omega)) (by rw [nI_clamp (by omega), nI_clamp (by omega)]; exact h4) (by rw [nI_clamp (by omega), nI_clamp (by omega)]; exact h5) (fun _ _ => rfl) hframes hlocals d (fun H1 locs1 hP1 hD1 hS1' => ?_)
  rw [nI_clamp (by omega), nI_clamp (by omega), nI_clamp (by omega)] at hP1
  subst hS1
  exact K H1 locs1 ls (hr_P_wA C.2.2.2.1 hk hq1 hP1 hnew) hS1' hl
theorem hr_min {index : Nat} {x y v : Int32} (C : hr_C p s m args meth c cc own c0 nL E) (hw1 : Cond.methodLink own index Lib.Math.min.name ∈ hr_W) (hw2 : Cond.static Lib.Math.min.name ∈ hr_W) (hw3 : Cond.initialized "java/lang/Math" ∈ hr_W) (hw4 : Cond.code Lib.Math.min.name Lib.Math.min.code 2 (some .int) ∈ hr_W) (hframes : 1 ≤ R.frames) (hlocals : (st.map fun v => v.category).sum + 13 ≤ R.locals) (hc : cells ≤ R.cells) (hs : slots ≤ R.slots) (hv : (if y < x then y else x) = v) (d : decode cc pc = .ok (.invokestatic index, 3)) (K : hr_G p l e R s m args below meth c Q E nL cells slots S o lv (pc + 3) (.int v :: st)) : hr_G p l e R s m args below meth c Q E nL cells slots S o lv (pc) (.int y :: .int x :: st) := fun H locs ls hP hS hl =>
  va_mmin C.1.1 C.1.2.1 (C.1.2.2.1.trans hl.1.symm) C.1.2.2.2.1 (C.1.2.2.2.2 _ (List.mem_cons_of_mem _ hw1)) (C.1.2.2.2.2 _ (List.mem_cons_of_mem _ hw2)) (C.1.2.2.2.2 _ (List.mem_cons_of_mem _ hw3)) (C.1.2.2.2.2 _ (List.mem_cons_of_mem _ hw4)) hframes hlocals hc hs d (by rw [hv]; exact (K H locs ls hP hS hl))
end HG
end
section
/-! CONTRACTS over the world, and calls by contract -/
/-- returns an int / a boolean; the numbers are then u -/
abbrev hr_Mi (l : Launch) (E : hr_E) (y : MethodName) (ws : List Cond) (rm : Room) (av : List Value) (S : hr_S) (o : Int64) (post : Int32 → hr_S → Prop) : Prop := Met l y ws rm (va_Pc av (hr_Ok E S o)) (va_Qi post (fun u t => hr_P E u o t.heap) (hr_A E)) 0 0 (hr_A E)
abbrev hr_Mv (l : Launch) (E : hr_E) (y : MethodName) (ws : List Cond) (rm : Room) (av : List Value) (S : hr_S) (o : Int64) (post : hr_S → Prop) : Prop := Met l y ws rm (va_Pc av (hr_Ok E S o)) (va_Qv post (fun u t => hr_P E u o t.heap) (hr_A E)) 0 0 (hr_A E)
abbrev hr_Mr (l : Launch) (E : hr_E) (y : MethodName) (ws : List Cond) (rm : Room) (av : List Value) (S : hr_S) (o : Int64) (ra : Nat) (post : hr_S → Prop) : Prop := Met l y ws rm (va_Pc av (hr_Ok E S o)) (va_Qr post (fun u a t => a = ra ∧ hr_P E u o t.heap) (hr_A E)) 0 0 (hr_A E)
/-- .. or throws an exception of a class of which xs is true, and nothing has changed -/
abbrev hr_Xi (l : Launch) (E : hr_E) (y : MethodName) (ws : List Cond) (rm : Room) (av : List Value) (S : hr_S) (o : Int64) (post : Int32 → hr_S → Prop) (xs : String → Prop) (mc ms : Nat) : Prop := vx_Met l y ws rm (va_Pc av (hr_Ok E S o)) (va_Qi post (fun u t => hr_P E u o t.heap) (hr_A E)) (vx_X (fun _ : Unit => True) (fun X _ t => xs X ∧ hr_P E S o t.heap) (hr_A E)) mc ms (hr_A E)
abbrev hr_Xv (l : Launch) (E : hr_E) (y : MethodName) (ws : List Cond) (rm : Room) (av : List Value) (S : hr_S) (o : Int64) (post : hr_S → Prop) (xs : String → Prop) (mc ms : Nat) : Prop := vx_Met l y ws rm (va_Pc av (hr_Ok E S o)) (va_Qv post (fun u t => hr_P E u o t.heap) (hr_A E)) (vx_X (fun _ : Unit => True) (fun X _ t => xs X ∧ hr_P E S o t.heap) (hr_A E)) mc ms (hr_A E)
section HB
variable {l : Launch} {E : hr_E} {y : MethodName} {rm : Room} {av : List Value} {S : hr_S} {o : Int64} {cc : ByteArray} {maxL : Nat} {ret : Option FieldType}
/-- a body's walk gives the contract -/
theorem hr_of {Qc : Array Value → State → Outcome → State → Prop} (hy : plainName y.cls = true) (hn : (lg_sl av).length ≤ maxL)
    (body : ∀ (p : Program) (e : Env) (s : State) (m : MethodId) (below : List Frame) (meth : Method) (c : Code), hr_C p s m av.toArray meth c cc y.cls (Cond.code y cc maxL ret) maxL E → meth.sig.returnType = ret →
      hr_G p l e rm s m av.toArray below meth c (MQ below Qc av.toArray s 0 0 (hr_A E)) E maxL 0 0 S o (lv_args 0 av) 0 []) : Met l y (Cond.code y cc maxL ret :: hr_W) rm (va_Pc av (hr_Ok E S o)) Qc 0 0 (hr_A E) := by
  refine Met.ofW (cc := cc) (maxL := maxL) (ret := ret) hy rfl ?_
  intro p e s m args below meth c s₁ B hml hv
  obtain ⟨rfl, hK, hP⟩ := hv
  have hown : s.vm.findClass y.cls = some m.cls := findClass_of_methodNamed B.named
  rw [lg_entry_eq]
  exact body p e s m below meth c ⟨⟨B.exec, B.bytes, hml, hown, atoms_spec (ws := Cond.code y cc maxL ret :: hr_W) B.pre⟩, B.notSynchronized, hK⟩ B.returns s.heap [] _ hP va_S.rf (lv_entry av hn)
theorem hr_ofX {mc ms : Nat} {Qc : Array Value → State → Outcome → State → Prop} {XC : String → State → State → Prop} (hy : plainName y.cls = true) (hn : (lg_sl av).length ≤ maxL)
    (body : ∀ (p : Program) (e : Env) (s : State) (m : MethodId) (below : List Frame) (meth : Method) (c : Code), hr_C p s m av.toArray meth c cc y.cls (Cond.code y cc maxL ret) maxL E → meth.sig.returnType = ret → (∀ x ∈ c.exceptionTable.toList, False) →
      hr_G p l e rm s m av.toArray below meth c (vx_MQ below Qc XC av.toArray s mc ms (hr_A E)) E maxL 0 0 S o (lv_args 0 av) 0 []) : vx_Met l y (Cond.code y cc maxL ret :: hr_W) rm (va_Pc av (hr_Ok E S o)) Qc XC mc ms (hr_A E) := by
  refine vx_ofW (cc := cc) (maxL := maxL) (ret := ret) hy rfl ?_
  intro p e s m args below meth c s₁ B hml hx hv
  obtain ⟨rfl, hK, hP⟩ := hv
  have hown : s.vm.findClass y.cls = some m.cls := findClass_of_methodNamed B.named
  rw [lg_entry_eq]
  exact body p e s m below meth c ⟨⟨B.exec, B.bytes, hml, hown, atoms_spec (ws := Cond.code y cc maxL ret :: hr_W) B.pre⟩, B.notSynchronized, hK⟩ B.returns hx s.heap [] _ hP va_S.rf (lv_entry av hn)
end HB
section HE
variable {p : Program} {l : Launch} {e : Env} {R : Room} {s : State} {m : MethodId} {args : Array Value} {below : List Frame} {meth : Method} {c : Code} {Q : State → Prop} {E : hr_E} {nL cells slots pc mc ms : Nat} {S S0 : hr_S} {o : Int64} {lv : List (Nat × Value)} {st : List Value} {cc : ByteArray} {own : String} {c0 : Cond}
theorem hr_iret {post : Int32 → hr_S → Prop} {v : Int32} (C : hr_C p s m args meth c cc own c0 nL E) (hr : meth.sig.returnType = some .int) (d : decode cc pc = .ok (.ireturn, 1)) (h : post v S) :
    hr_G p l e R s m args below meth c (MQ below (va_Qi post (fun u t => hr_P E u o t.heap) (hr_A E)) args s cells slots (hr_A E)) E nL cells slots S o lv pc [.int v] := fun H locs ls hP hS hl =>
  W.iret (hlocks := C.2.1) C.1.1 C.1.2.1 hr (fun t ht hW => ⟨⟨v, S, rfl, h, by show hr_P E S o t.heap; rw [ht]; exact hP⟩, hS.F ht⟩) hS.2.2 d
theorem hr_zret {post : Int32 → hr_S → Prop} {v : Int32} (C : hr_C p s m args meth c cc own c0 nL E) (hr : meth.sig.returnType = some .boolean) (hv : narrow .boolean (.int v) = .int v) (d : decode cc pc = .ok (.ireturn, 1)) (h : post v S) :
    hr_G p l e R s m args below meth c (MQ below (va_Qi post (fun u t => hr_P E u o t.heap) (hr_A E)) args s cells slots (hr_A E)) E nL cells slots S o lv pc [.int v] := fun H locs ls hP hS hl =>
  W.zret (hlocks := C.2.1) C.1.1 C.1.2.1 hr hv (fun t ht hW => ⟨⟨v, S, rfl, h, by show hr_P E S o t.heap; rw [ht]; exact hP⟩, hS.F ht⟩) hS.2.2 d
theorem hr_vret {post : hr_S → Prop} (C : hr_C p s m args meth c cc own c0 nL E) (hr : meth.sig.returnType = none) (d : decode cc pc = .ok (.return_, 1)) (h : post S) :
    hr_G p l e R s m args below meth c (MQ below (va_Qv post (fun u t => hr_P E u o t.heap) (hr_A E)) args s cells slots (hr_A E)) E nL cells slots S o lv pc [] := fun H locs ls hP hS hl =>
  W.vret (hlocks := C.2.1) C.1.1 C.1.2.1 hr (fun t ht hW => ⟨⟨S, rfl, h, by show hr_P E S o t.heap; rw [ht]; exact hP⟩, hS.F ht⟩) hS.2.2 d
theorem hr_aret {post : hr_S → Prop} {ra : Nat} {rt : FieldType} (C : hr_C p s m args meth c cc own c0 nL E) (hr : meth.sig.returnType = some rt) (hrt : (∃ n, rt = .object n) ∨ ∃ t, rt = .array t) (d : decode cc pc = .ok (.areturn, 1)) (h : post S) :
    hr_G p l e R s m args below meth c (MQ below (va_Qr post (fun u a t => a = ra ∧ hr_P E u o t.heap) (hr_A E)) args s cells slots (hr_A E)) E nL cells slots S o lv pc [.ref ra] := fun H locs ls hP hS hl =>
  W.aret (hlocks := C.2.1) C.1.1 C.1.2.1 hr hrt (Or.inr ⟨_, rfl⟩) (fun t ht hW => ⟨⟨S, ra, rfl, h, rfl, by show hr_P E S o t.heap; rw [ht]; exact hP⟩, hS.F ht⟩) hS.2.2 d
/-- an end that returns, in a body that may throw -/
theorem hr_xr {Qc : Array Value → State → Outcome → State → Prop} {XC : String → State → State → Prop} (K : hr_G p l e R s m args below meth c (MQ below Qc args s mc ms (hr_A E)) E nL mc ms S o lv pc st) (h1 : cells ≤ mc) (h2 : slots ≤ ms) :
    hr_G p l e R s m args below meth c (vx_MQ below Qc XC args s mc ms (hr_A E)) E nL cells slots S o lv pc st := fun H locs ls hP hS hl => W.widen h1 h2 (vx_ret (K H locs ls hP hS hl))
/-- throw new X("text") -/
theorem hr_throw {Qc : Array Value → State → Outcome → State → Prop} {xs : String → Prop} {X text : String} {ik is ic : Nat} (C : hr_C p s m args meth c cc RX3 c0 nL E) (htr : l.stackTraces = false) (htab : ∀ x ∈ c.exceptionTable.toList, False) (hX : Bundle.fit X = true) (hxs : xs X)
    (hk : Cond.classLink RX3 ik X ∈ hr_W) (hini : Cond.initialized X ∈ hr_W) (hs : (is, text) ∈ hr_strs) (hat : ∀ w ∈ vx_atS RX3 ic X ["java/lang/RuntimeException", "java/lang/Exception"], w.before args s = true)
    (hgood : ∀ w ∈ Cond.classLink RX3 ik X :: Cond.initialized X :: vx_atS RX3 ic X ["java/lang/RuntimeException", "java/lang/Exception"], vx_ot w = true)
    (d0 : decode cc pc = .ok (.new ik, 3)) (d3 : decode cc (pc + 3) = .ok (.dup, 1)) (d4 : decode cc (pc + 4) = .ok (.ldc is, 2)) (d6 : decode cc (pc + 6) = .ok (.invokespecial ic, 3)) (d9 : decode cc (pc + 9) = .ok (.athrow, 1))
    (hRf : 6 ≤ R.frames) (hRl : (st.map fun v => v.category).sum + 82 ≤ R.locals) (hRc : cells + 1 ≤ R.cells) (hRs : slots + 6 ≤ R.slots) (hc : cells + 1 ≤ mc) (hsl : slots + 6 ≤ ms) (hS0 : S = S0) :
    hr_G p l e R s m args below meth c (vx_MQ below Qc (vx_X (fun _ : Unit => True) (fun X _ t => xs X ∧ hr_P E S0 o t.heap) (hr_A E)) args s mc ms (hr_A E)) E nL cells slots S o lv pc st := fun H locs ls hP hS hl => by
  subst hS0
  refine vx_throwS (A := hr_A E) (sa := E.2.2.2.2 is) C.1.1 C.1.2.1 htr C.1.2.2.2.1 hX (by decide) (C.1.2.2.2.2 _ (List.mem_cons_of_mem _ hk)) (C.1.2.2.2.2 _ (List.mem_cons_of_mem _ hini)) (C.2.2.2.2.2.2.1 _ hs) hat hgood C.2.2.2.2.1 C.2.2.2.2.2.1 hS (hl.1.trans C.1.2.2.1.symm) d0 d3 d4 d6 d9 (fun x hx => (htab x hx).elim) (show 2 + 3 < R.frames by omega) (show _ + (13 * (2 + 1) + 43) ≤ R.locals by omega) hRc hRs C.2.1 (fun t hvm hz hk1 => ⟨(), trivial, ⟨hxs, ?_⟩, ?_, ?_⟩) hS.2.2 hc hsl
  · intro k i hki
    exact (hP k i hki).kept (hk1 _ (hP k i hki).lt)
  · exact Nat.le_trans hS.1 hz
  · intro q hq hA
    rw [hk1 q (Nat.lt_of_lt_of_le hq hS.1)]
    exact hS.2.1 q hq hA
/-- it was thrown by a callee, and goes on to the caller -/
theorem hr_xout {Qc : Array Value → State → Outcome → State → Prop} {xs : String → Prop} {X : String} {ce : Cell} {q : Addr} {H : Heap} {locs : List Loc} {ls : Array Slot} (C : hr_C p s m args meth c cc own c0 nL E) (htab : ∀ x ∈ c.exceptionTable.toList, False) (hP : hr_P E S o H) (hS : va_S (hr_A E) s.heap H locs) (hcell : H[q]? = some ce) (hv : ce.vm = .none) (hcl : s.vm.findClass X = some ce.cls) (hxs : xs X) (hc : cells ≤ mc) (hs : slots ≤ ms) :
    vx_W p l e R s m args below meth c H locs cells slots (vx_MQ below Qc (vx_X (fun _ : Unit => True) (fun X _ t => xs X ∧ hr_P E S o t.heap) (hr_A E)) args s mc ms (hr_A E)) (F0 m pc ls st) q :=
  vx_out (fun x hx => (htab x hx).elim) C.2.1 hcell hv hcl (fun t ht hvm => ⟨(), trivial, ⟨hxs, by rw [ht]; exact hP⟩, hS.F ht⟩) hS.2.2 hc hs
variable {y : MethodName} {bytes : ByteArray} {maxL n index b k i ci : Nat} {ret : Option FieldType} {ws : List Cond} {rm : Room} {As : List Value} {Cn : String} {T : u_T} {N : Nat} {fs : List Value}
theorem hr_pre (C : hr_C p s m args meth c cc own c0 nL E) {H : Heap} {locs : List Loc} (hP : hr_P E S o H) (hS : va_S (hr_A E) s.heap H locs) (av : List Value) : ∀ U : State, U.heap = H → s.WarmedH U.vm → va_Pc av (hr_Ok E S o) av.toArray U :=
  fun U hU hW => ⟨rfl, hr_K_moved C.2.2 hW hS hU, by rw [hU]; exact hP⟩
theorem hr_rcv (C : hr_C p s m args meth c cc own c0 nL E) {H : Heap} (hP : hr_P E S o H) (hk : i < hr_cnt k) (hx : hr_cell E S o k i = .inr (ci, fs)) (hc : vwCl[ci]? = some (Cn, T, N)) : ∃ cell : Cell, H[hr_ad E k i]? = some cell ∧ cell.vm.isStatics = false ∧ s.vm.findClass Cn = some cell.cls :=
  va_recv (q0 := 0) C.2.2.1 (hr_one hP hk hx) hc rfl
/-- invokevirtual, an int comes back -/
theorem hr_cVi {post : Int32 → hr_S → Prop} (C : hr_C p s m args meth c cc own c0 nL E) (hM : hr_Mi l E y ws rm (.ref (hr_ad E k i) :: As) S o post) (cw : CallW R s args own Cn index y bytes maxL ret ws rm 0 0 n) (hk : i < hr_cnt k) (hx : hr_cell E S o k i = .inr (ci, fs)) (hc : vwCl[ci]? = some (Cn, T, N))
    (hn : As.length = n) (hst : (st.map fun v => v.category).sum ≤ 8) (d : decode cc pc = .ok (.invokevirtual index, 3)) (hR : cells ≤ R.cells ∧ slots ≤ R.slots) (K : ∀ (r : Int32) (S1 : hr_S), post r S1 → hr_G p l e R s m args below meth c Q E nL cells slots S1 o lv (pc + 3) (.int r :: st)) :
    ∀ {st0 : List Value}, st0 = As.reverse ++ .ref (hr_ad E k i) :: st → hr_G p l e R s m args below meth c Q E nL cells slots S o lv pc st0 := fun h0 H locs ls hP hS hl => by
  subst h0
  exact va_calli (va_runV (As := As) (rest := st) C.1 hM cw ⟨hr_blind E S o _, hr_rcv C hP hk hx hc, hr_pre C hP hS _⟩ rfl hn hl.1 rfl (lv_room hst) d hR) hS (fun q _ h => h) (fun q h => h) (fun r u t H1 locs1 ht hvm hw hB hz hk1 hS1 => K r u hw H1 locs1 ls (by rw [← ht]; exact hB) hS1 hl)
theorem hr_cVv {post : hr_S → Prop} (C : hr_C p s m args meth c cc own c0 nL E) (hM : hr_Mv l E y ws rm (.ref (hr_ad E k i) :: As) S o post) (cw : CallW R s args own Cn index y bytes maxL ret ws rm 0 0 n) (hk : i < hr_cnt k) (hx : hr_cell E S o k i = .inr (ci, fs)) (hc : vwCl[ci]? = some (Cn, T, N))
    (hn : As.length = n) (hst : (st.map fun v => v.category).sum ≤ 8) (d : decode cc pc = .ok (.invokevirtual index, 3)) (hR : cells ≤ R.cells ∧ slots ≤ R.slots) (K : ∀ (S1 : hr_S), post S1 → hr_G p l e R s m args below meth c Q E nL cells slots S1 o lv (pc + 3) st) :
    ∀ {st0 : List Value}, st0 = As.reverse ++ .ref (hr_ad E k i) :: st → hr_G p l e R s m args below meth c Q E nL cells slots S o lv pc st0 := fun h0 H locs ls hP hS hl => by
  subst h0
  exact va_callv (va_runV (As := As) (rest := st) C.1 hM cw ⟨hr_blind E S o _, hr_rcv C hP hk hx hc, hr_pre C hP hS _⟩ rfl hn hl.1 rfl (lv_room hst) d hR) hS (fun q _ h => h) (fun q h => h) (fun u t H1 locs1 ht hvm hw hB hz hk1 hS1 => K u hw H1 locs1 ls (by rw [← ht]; exact hB) hS1 hl)
theorem hr_cVr {post : hr_S → Prop} {ra : Nat} (C : hr_C p s m args meth c cc own c0 nL E) (hM : hr_Mr l E y ws rm (.ref (hr_ad E k i) :: As) S o ra post) (cw : CallW R s args own Cn index y bytes maxL ret ws rm 0 0 n) (hk : i < hr_cnt k) (hx : hr_cell E S o k i = .inr (ci, fs)) (hc : vwCl[ci]? = some (Cn, T, N))
    (hn : As.length = n) (hst : (st.map fun v => v.category).sum ≤ 8) (d : decode cc pc = .ok (.invokevirtual index, 3)) (hR : cells ≤ R.cells ∧ slots ≤ R.slots) (K : ∀ (S1 : hr_S), post S1 → hr_G p l e R s m args below meth c Q E nL cells slots S1 o lv (pc + 3) (.ref ra :: st)) :
    ∀ {st0 : List Value}, st0 = As.reverse ++ .ref (hr_ad E k i) :: st → hr_G p l e R s m args below meth c Q E nL cells slots S o lv pc st0 := fun h0 H locs ls hP hS hl => by
  subst h0
  refine va_callr (va_runV (As := As) (rest := st) C.1 hM cw ⟨hr_blind E S o _, hr_rcv C hP hk hx hc, hr_pre C hP hS _⟩ rfl hn hl.1 rfl (lv_room hst) d hR) hS (fun q _ h => h) (fun q h => h) (fun u a t H1 locs1 ht hvm hw hB hz hk1 hS1 => ?_)
  obtain ⟨rfl, hB⟩ := hB
  exact K u hw H1 locs1 ls (by rw [← ht]; exact hB) hS1 hl
/-- invokestatic, an int comes back -/
theorem hr_cSi {post : Int32 → hr_S → Prop} (C : hr_C p s m args meth c cc own c0 nL E) (hM : hr_Mi l E y ws rm As S o post) (cw : CallB R s args own index y bytes maxL ret ws rm 0 0 n ∧ (Cond.static y).before args s = true)
    (hn : As.length = n) (hst : (st.map fun v => v.category).sum ≤ 8) (d : decode cc pc = .ok (.invokestatic index, 3)) (hR : cells ≤ R.cells ∧ slots ≤ R.slots) (K : ∀ (r : Int32) (S1 : hr_S), post r S1 → hr_G p l e R s m args below meth c Q E nL cells slots S1 o lv (pc + 3) (.int r :: st)) :
    ∀ {st0 : List Value}, st0 = As.reverse ++ st → hr_G p l e R s m args below meth c Q E nL cells slots S o lv pc st0 := fun h0 H locs ls hP hS hl => by
  subst h0
  exact va_calli (va_runS (As := As) (rest := st) C.1 hM cw ⟨hr_blind E S o _, hr_pre C hP hS _⟩ rfl hn hl.1 rfl (lv_room hst) d hR) hS (fun q _ h => h) (fun q h => h) (fun r u t H1 locs1 ht hvm hw hB hz hk1 hS1 => K r u hw H1 locs1 ls (by rw [← ht]; exact hB) hS1 hl)
end HE
theorem hr_bz {P : Prop} [Decidable P] : ((if P then (1 : Int32) else 0) = 0) ↔ ¬ P := by by_cases h : P <;> simp [h]
theorem hr_bn {P : Prop} [Decidable P] : (¬ (if P then (1 : Int32) else 0) = 0) ↔ P := by by_cases h : P <;> simp [h]
end
section
/-! methods that may throw: their words, and calls of them -/
theorem hr_ag_53 : ∀ w ∈ (vx_atS RX3 53 "java/lang/IllegalStateException" ["java/lang/RuntimeException", "java/lang/Exception"]).filter goodWord, w ∈ hr_W := by decide +kernel
theorem hr_an_53 : ∀ w ∈ (vx_atS RX3 53 "java/lang/IllegalStateException" ["java/lang/RuntimeException", "java/lang/Exception"]).filter (fun w => !goodWord w), w ∈ hr_Wx := by decide +kernel
theorem hr_good_53 : ∀ w ∈ Cond.classLink RX3 49 "java/lang/IllegalStateException" :: Cond.initialized "java/lang/IllegalStateException" :: vx_atS RX3 53 "java/lang/IllegalStateException" ["java/lang/RuntimeException", "java/lang/Exception"], vx_ot w = true := by decide +kernel
theorem hr_at_53 {p : Program} {s : State} {m : MethodId} {args : Array Value} {meth : Method} {c : Code} {cc : ByteArray} {own : String} {c0 : Cond} {nL : Nat} {E : hr_E} (C : hr_C p s m args meth c cc own c0 nL E) : ∀ w ∈ vx_atS RX3 53 "java/lang/IllegalStateException" ["java/lang/RuntimeException", "java/lang/Exception"], w.before args s = true :=
  vx_hat (fun w hw => C.1.2.2.2.2 _ (List.mem_cons_of_mem _ (hr_ag_53 w hw))) hr_an_53 (fun w hw => va_Nw.use (hr_Wx_on w hw) (C.2.2.2.2.2.2.2.2.1 w hw))
theorem hr_ag_86 : ∀ w ∈ (vx_atS RX3 86 "java/lang/IllegalArgumentException" ["java/lang/RuntimeException", "java/lang/Exception"]).filter goodWord, w ∈ hr_W := by decide +kernel
theorem hr_an_86 : ∀ w ∈ (vx_atS RX3 86 "java/lang/IllegalArgumentException" ["java/lang/RuntimeException", "java/lang/Exception"]).filter (fun w => !goodWord w), w ∈ hr_Wx := by decide +kernel
theorem hr_good_86 : ∀ w ∈ Cond.classLink RX3 82 "java/lang/IllegalArgumentException" :: Cond.initialized "java/lang/IllegalArgumentException" :: vx_atS RX3 86 "java/lang/IllegalArgumentException" ["java/lang/RuntimeException", "java/lang/Exception"], vx_ot w = true := by decide +kernel
theorem hr_at_86 {p : Program} {s : State} {m : MethodId} {args : Array Value} {meth : Method} {c : Code} {cc : ByteArray} {own : String} {c0 : Cond} {nL : Nat} {E : hr_E} (C : hr_C p s m args meth c cc own c0 nL E) : ∀ w ∈ vx_atS RX3 86 "java/lang/IllegalArgumentException" ["java/lang/RuntimeException", "java/lang/Exception"], w.before args s = true :=
  vx_hat (fun w hw => C.1.2.2.2.2 _ (List.mem_cons_of_mem _ (hr_ag_86 w hw))) hr_an_86 (fun w hw => va_Nw.use (hr_Wx_on w hw) (C.2.2.2.2.2.2.2.2.1 w hw))
theorem hr_ag_135 : ∀ w ∈ (vx_atS RX3 135 "java/lang/IndexOutOfBoundsException" ["java/lang/RuntimeException", "java/lang/Exception"]).filter goodWord, w ∈ hr_W := by decide +kernel
theorem hr_an_135 : ∀ w ∈ (vx_atS RX3 135 "java/lang/IndexOutOfBoundsException" ["java/lang/RuntimeException", "java/lang/Exception"]).filter (fun w => !goodWord w), w ∈ hr_Wx := by decide +kernel
theorem hr_good_135 : ∀ w ∈ Cond.classLink RX3 131 "java/lang/IndexOutOfBoundsException" :: Cond.initialized "java/lang/IndexOutOfBoundsException" :: vx_atS RX3 135 "java/lang/IndexOutOfBoundsException" ["java/lang/RuntimeException", "java/lang/Exception"], vx_ot w = true := by decide +kernel
theorem hr_at_135 {p : Program} {s : State} {m : MethodId} {args : Array Value} {meth : Method} {c : Code} {cc : ByteArray} {own : String} {c0 : Cond} {nL : Nat} {E : hr_E} (C : hr_C p s m args meth c cc own c0 nL E) : ∀ w ∈ vx_atS RX3 135 "java/lang/IndexOutOfBoundsException" ["java/lang/RuntimeException", "java/lang/Exception"], w.before args s = true :=
  vx_hat (fun w hw => C.1.2.2.2.2 _ (List.mem_cons_of_mem _ (hr_ag_135 w hw))) hr_an_135 (fun w hw => va_Nw.use (hr_Wx_on w hw) (C.2.2.2.2.2.2.2.2.1 w hw))
section HX
variable {p : Program} {l : Launch} {e : Env} {R : Room} {s : State} {m : MethodId} {args : Array Value} {below : List Frame} {meth : Method} {c : Code} {E : hr_E} {nL cells slots pc mc ms mc0 ms0 : Nat} {S : hr_S} {o : Int64} {lv : List (Nat × Value)} {st : List Value} {cc : ByteArray} {own : String} {c0 : Cond}
variable {y : MethodName} {bytes : ByteArray} {maxL n index k i ci : Nat} {ret : Option FieldType} {ws : List Cond} {rm : Room} {As : List Value} {Cn : String} {T : u_T} {N : Nat} {fs : List Value} {xs xs' : String → Prop} {Qc : Array Value → State → Outcome → State → Prop}
theorem hr_xVv {post : hr_S → Prop} (C : hr_C p s m args meth c cc own c0 nL E) (htab : ∀ x ∈ c.exceptionTable.toList, False) (hM : hr_Xv l E y ws rm (.ref (hr_ad E k i) :: As) S o post xs mc0 ms0) (cw : CallW R s args own Cn index y bytes maxL ret ws rm mc0 ms0 n) (hk : i < hr_cnt k) (hx : hr_cell E S o k i = .inr (ci, fs)) (hc : vwCl[ci]? = some (Cn, T, N))
    (hn : As.length = n) (hst : (st.map fun v => v.category).sum ≤ 8) (d : decode cc pc = .ok (.invokevirtual index, 3)) (hR : cells + mc0 ≤ R.cells ∧ slots + ms0 ≤ R.slots) (hX : cells + mc0 ≤ mc ∧ slots + ms0 ≤ ms) (hxs : ∀ X, xs X → xs' X) (K : ∀ (S1 : hr_S), post S1 → hr_G p l e R s m args below meth c (vx_MQ below Qc (vx_X (fun _ : Unit => True) (fun X _ t => xs' X ∧ hr_P E S o t.heap) (hr_A E)) args s mc ms (hr_A E)) E nL (cells + mc0) (slots + ms0) S1 o lv (pc + 3) st) :
    ∀ {st0 : List Value}, st0 = As.reverse ++ .ref (hr_ad E k i) :: st → hr_G p l e R s m args below meth c (vx_MQ below Qc (vx_X (fun _ : Unit => True) (fun X _ t => xs' X ∧ hr_P E S o t.heap) (hr_A E)) args s mc ms (hr_A E)) E nL cells slots S o lv pc st0 := fun h0 H locs ls hP hS hl => by
  subst h0
  exact vx_callv (vx_runV (As := As) (rest := st) C.1 hM cw ⟨hr_blind E S o _, hr_rcv C hP hk hx hc, hr_pre C hP hS _⟩ rfl hn hl.1 rfl (lv_room hst) d hR) hS (fun q _ h => h) (fun q h => h) (fun q _ h => h)
    (fun X ce q9 u t H1 locs1 ht hvm hp hB hz hk1 hS1 hce hcv hcl => hr_xout C htab (by rw [← ht]; exact hB.2) hS1 hce hcv hcl (hxs X hB.1) hX.1 hX.2) (fun u t H1 locs1 ht hvm hw hB hz hk1 hS1 => K u hw H1 locs1 ls (by rw [← ht]; exact hB) hS1 hl)
theorem hr_xSv {post : hr_S → Prop} (C : hr_C p s m args meth c cc own c0 nL E) (htab : ∀ x ∈ c.exceptionTable.toList, False) (hM : hr_Xv l E y ws rm As S o post xs mc0 ms0) (cw : CallB R s args own index y bytes maxL ret ws rm mc0 ms0 n ∧ (Cond.static y).before args s = true)
    (hn : As.length = n) (hst : (st.map fun v => v.category).sum ≤ 8) (d : decode cc pc = .ok (.invokestatic index, 3)) (hR : cells + mc0 ≤ R.cells ∧ slots + ms0 ≤ R.slots) (hX : cells + mc0 ≤ mc ∧ slots + ms0 ≤ ms) (hxs : ∀ X, xs X → xs' X) (K : ∀ (S1 : hr_S), post S1 → hr_G p l e R s m args below meth c (vx_MQ below Qc (vx_X (fun _ : Unit => True) (fun X _ t => xs' X ∧ hr_P E S o t.heap) (hr_A E)) args s mc ms (hr_A E)) E nL (cells + mc0) (slots + ms0) S1 o lv (pc + 3) st) :
    ∀ {st0 : List Value}, st0 = As.reverse ++ st → hr_G p l e R s m args below meth c (vx_MQ below Qc (vx_X (fun _ : Unit => True) (fun X _ t => xs' X ∧ hr_P E S o t.heap) (hr_A E)) args s mc ms (hr_A E)) E nL cells slots S o lv pc st0 := fun h0 H locs ls hP hS hl => by
  subst h0
  exact vx_callv (vx_runS (As := As) (rest := st) C.1 hM cw ⟨hr_blind E S o _, hr_pre C hP hS _⟩ rfl hn hl.1 rfl (lv_room hst) d hR) hS (fun q _ h => h) (fun q h => h) (fun q _ h => h)
    (fun X ce q9 u t H1 locs1 ht hvm hp hB hz hk1 hS1 hce hcv hcl => hr_xout C htab (by rw [← ht]; exact hB.2) hS1 hce hcv hcl (hxs X hB.1) hX.1 hX.2) (fun u t H1 locs1 ht hvm hw hB hz hk1 hS1 => K u hw H1 locs1 ls (by rw [← ht]; exact hB) hS1 hl)
theorem hr_xVi {post : Int32 → hr_S → Prop} (C : hr_C p s m args meth c cc own c0 nL E) (htab : ∀ x ∈ c.exceptionTable.toList, False) (hM : hr_Xi l E y ws rm (.ref (hr_ad E k i) :: As) S o post xs mc0 ms0) (cw : CallW R s args own Cn index y bytes maxL ret ws rm mc0 ms0 n) (hk : i < hr_cnt k) (hx : hr_cell E S o k i = .inr (ci, fs)) (hc : vwCl[ci]? = some (Cn, T, N))
    (hn : As.length = n) (hst : (st.map fun v => v.category).sum ≤ 8) (d : decode cc pc = .ok (.invokevirtual index, 3)) (hR : cells + mc0 ≤ R.cells ∧ slots + ms0 ≤ R.slots) (hX : cells + mc0 ≤ mc ∧ slots + ms0 ≤ ms) (hxs : ∀ X, xs X → xs' X) (K : ∀ (r : Int32) (S1 : hr_S), post r S1 → hr_G p l e R s m args below meth c (vx_MQ below Qc (vx_X (fun _ : Unit => True) (fun X _ t => xs' X ∧ hr_P E S o t.heap) (hr_A E)) args s mc ms (hr_A E)) E nL (cells + mc0) (slots + ms0) S1 o lv (pc + 3) (.int r :: st)) :
    ∀ {st0 : List Value}, st0 = As.reverse ++ .ref (hr_ad E k i) :: st → hr_G p l e R s m args below meth c (vx_MQ below Qc (vx_X (fun _ : Unit => True) (fun X _ t => xs' X ∧ hr_P E S o t.heap) (hr_A E)) args s mc ms (hr_A E)) E nL cells slots S o lv pc st0 := fun h0 H locs ls hP hS hl => by
  subst h0
  exact vx_calli (vx_runV (As := As) (rest := st) C.1 hM cw ⟨hr_blind E S o _, hr_rcv C hP hk hx hc, hr_pre C hP hS _⟩ rfl hn hl.1 rfl (lv_room hst) d hR) hS (fun q _ h => h) (fun q h => h) (fun q _ h => h)
    (fun X ce q9 u t H1 locs1 ht hvm hp hB hz hk1 hS1 hce hcv hcl => hr_xout C htab (by rw [← ht]; exact hB.2) hS1 hce hcv hcl (hxs X hB.1) hX.1 hX.2) (fun r u t H1 locs1 ht hvm hw hB hz hk1 hS1 => K r u hw H1 locs1 ls (by rw [← ht]; exact hB) hS1 hl)
theorem hr_xSi {post : Int32 → hr_S → Prop} (C : hr_C p s m args meth c cc own c0 nL E) (htab : ∀ x ∈ c.exceptionTable.toList, False) (hM : hr_Xi l E y ws rm As S o post xs mc0 ms0) (cw : CallB R s args own index y bytes maxL ret ws rm mc0 ms0 n ∧ (Cond.static y).before args s = true)
    (hn : As.length = n) (hst : (st.map fun v => v.category).sum ≤ 8) (d : decode cc pc = .ok (.invokestatic index, 3)) (hR : cells + mc0 ≤ R.cells ∧ slots + ms0 ≤ R.slots) (hX : cells + mc0 ≤ mc ∧ slots + ms0 ≤ ms) (hxs : ∀ X, xs X → xs' X) (K : ∀ (r : Int32) (S1 : hr_S), post r S1 → hr_G p l e R s m args below meth c (vx_MQ below Qc (vx_X (fun _ : Unit => True) (fun X _ t => xs' X ∧ hr_P E S o t.heap) (hr_A E)) args s mc ms (hr_A E)) E nL (cells + mc0) (slots + ms0) S1 o lv (pc + 3) (.int r :: st)) :
    ∀ {st0 : List Value}, st0 = As.reverse ++ st → hr_G p l e R s m args below meth c (vx_MQ below Qc (vx_X (fun _ : Unit => True) (fun X _ t => xs' X ∧ hr_P E S o t.heap) (hr_A E)) args s mc ms (hr_A E)) E nL cells slots S o lv pc st0 := fun h0 H locs ls hP hS hl => by
  subst h0
  exact vx_calli (vx_runS (As := As) (rest := st) C.1 hM cw ⟨hr_blind E S o _, hr_pre C hP hS _⟩ rfl hn hl.1 rfl (lv_room hst) d hR) hS (fun q _ h => h) (fun q h => h) (fun q _ h => h)
    (fun X ce q9 u t H1 locs1 ht hvm hp hB hz hk1 hS1 hce hcv hcl => hr_xout C htab (by rw [← ht]; exact hB.2) hS1 hce hcv hcl (hxs X hB.1) hX.1 hX.2) (fun r u t H1 locs1 ht hvm hw hB hz hk1 hS1 => K r u hw H1 locs1 ls (by rw [← ht]; exact hB) hS1 hl)
end HX
end
section
theorem hr_sh : ∀ i, i < 164 → (3 - (nI i &&& 3)) * 8 = nI ((3 - i % 4) * 8) := by decide +kernel
theorem hr_sr : ∀ i, i < 164 → nI i >>> ((2 : Int32) &&& 31) = nI (i / 4) := by decide +kernel
/-- the byte i of a packet: of its words -/
def hr_by (w : Nat → Int32) (i : Nat) : Int32 := ((w (i / 4)).toUInt32 >>> ((nI ((3 - i % 4) * 8)).toUInt32 &&& Int32.toUInt32 31)).toInt32 &&& 255
/-- the word with the byte i another -/
def hr_sb (x : Int32) (i : Nat) (v : Int32) : Int32 := (x &&& ((255 : Int32) <<< (nI ((3 - i % 4) * 8) &&& 31) ^^^ (-1))) ||| (v <<< (nI ((3 - i % 4) * 8) &&& 31))
set_option maxHeartbeats 4000000 in
set_option maxRecDepth 100000 in
theorem ct_X1_shiftOf (l : Launch) (E : hr_E) (S : hr_S) (o : Int64) (i : Nat) (hi : i < 164) : hr_Mi l E yX1_shiftOf (Cond.code yX1_shiftOf cX1_shiftOf 1 (some .int) :: hr_W) ({ frames := 0, cells := 0, slots := 0, locals := 0 } : Room) [.int (nI i)] S o (fun r u => r = nI ((3 - i % 4) * 8) ∧ u = S) := by
  refine hr_of (by decide) (Nat.le_of_ble_eq_true rfl) (fun p e s m below meth c C hr => ?_)
  refine hr_iconst (v := 3) C dX1_shiftOf_0 (by decide) ?_
  refine hr_iload_n C dX1_shiftOf_1 rfl 0 rfl ?_
  refine hr_iconst (v := 3) C dX1_shiftOf_2 (by decide) ?_
  refine hr_iand C dX1_shiftOf_3 rfl ?_
  refine hr_isub C dX1_shiftOf_4 rfl ?_
  refine hr_bipush (v := 8) C dX1_shiftOf_5 (by decide) ?_
  refine hr_imul C dX1_shiftOf_7 rfl ?_
  exact hr_iret C hr dX1_shiftOf_8 ⟨hr_sh i hi, rfl⟩
set_option maxHeartbeats 4000000 in
set_option maxRecDepth 100000 in
theorem ct_X1_firstWord (l : Launch) (E : hr_E) (S : hr_S) (o : Int64) (e9 : Nat) : hr_Mi l E yX1_firstWord (Cond.code yX1_firstWord cX1_firstWord 1 (some .int) :: hr_W) ({ frames := 0, cells := 0, slots := 0, locals := 0 } : Room) [.int (nI e9)] S o (fun r u => r = nI (1 + (e9 * 5)) ∧ u = S) := by
  refine hr_of (by decide) (Nat.le_of_ble_eq_true rfl) (fun p e s m below meth c C hr => ?_)
  refine hr_iconst (v := 1) C dX1_firstWord_0 (by decide) ?_
  refine hr_iload_n C dX1_firstWord_1 rfl 0 rfl ?_
  refine hr_iconst (v := 5) C dX1_firstWord_2 (by decide) ?_
  refine hr_imul (v := nI (e9 * 5)) C dX1_firstWord_3 (pk_mul e9 5) ?_
  refine hr_iadd (v := nI (1 + (e9 * 5))) C dX1_firstWord_4 (nI_add 1 (e9 * 5)) ?_
  exact hr_iret C hr dX1_firstWord_5 ⟨rfl, rfl⟩
set_option maxHeartbeats 4000000 in
set_option maxRecDepth 100000 in
theorem ct_X1_entries (l : Launch) (E : hr_E) (S : hr_S) (o : Int64) (i : Nat) (hi : i < 202) (L : Nat) (hL : S 6 i 2 = nI L) (hL4 : 4 ≤ L) (hL5 : L ≤ 164) : hr_Mi l E yX1_entries (Cond.code yX1_entries cX1_entries 1 (some .int) :: hr_W) ({ frames := 0, cells := 0, slots := 0, locals := 0 } : Room) [.ref (hr_ad E 6 i)] S o (fun r u => r = nI ((L - 4) / 20) ∧ u = S) := by
  refine hr_of (by decide) (Nat.le_of_ble_eq_true rfl) (fun p e s m below meth c C hr => ?_)
  refine hr_aload_n C dX1_entries_0 rfl 0 rfl ?_
  refine hr_get (k := 6) (i := i) (fld := 2) C (show i < 202 by omega) rfl rfl (by decide) kU_X1 kF_X1_22 rfl rfl dX1_entries_1 ?_
  refine hr_tp (y := nI L) hL ?_
  refine hr_iconst (v := 4) C dX1_entries_4 (by decide) ?_
  refine hr_isub (v := nI (L - 4)) C dX1_entries_5 (pk_sub (a := L) (b := 4) (by omega)) ?_
  refine hr_bipush (v := 20) C dX1_entries_6 (by decide) ?_
  refine hr_idiv (v := nI ((L - 4) / 20)) C dX1_entries_8 (by decide) (pk_div (a := (L - 4)) (d := 20) (by omega) (by omega) (by omega)) ?_
  exact hr_iret C hr dX1_entries_9 ⟨rfl, rfl⟩
set_option maxHeartbeats 4000000 in
set_option maxRecDepth 100000 in
theorem ct_X1_metric (l : Launch) (E : hr_E) (S : hr_S) (o : Int64) (i : Nat) (hi : i < 202) (e9 : Nat) (he : e9 < 8) : hr_Mi l E yX1_metric (Cond.code yX1_metric cX1_metric 2 (some .int) :: hr_W) ({ frames := 1, cells := 0, slots := 0, locals := 20 } : Room) [.ref (hr_ad E 6 i), .int (nI e9)] S o (fun r u => r = S 7 i (1 + (e9 * 5) + 4) ∧ u = S) := by
  refine hr_of (by decide) (Nat.le_of_ble_eq_true rfl) (fun p e s m below meth c C hr => ?_)
  refine hr_aload_n C dX1_metric_0 rfl 0 rfl ?_
  refine hr_get (k := 6) (i := i) (fld := 3) C (show i < 202 by omega) rfl rfl (by decide) kU_X1 kF_X1_11 rfl rfl dX1_metric_1 ?_
  refine hr_iload_n C dX1_metric_4 rfl 1 rfl ?_
  refine hr_cSi C (ct_X1_firstWord l E S o e9) (cwS 1 C.1.2.2.2.2 (hr_gS kM_X1_29 kT_X1_firstWord kN_X1 kC_X1_firstWord) rfl rfl rfl (by decide +kernel) ⟨Nat.le_of_ble_eq_true rfl, Nat.le_of_ble_eq_true rfl⟩) rfl (Nat.le_of_ble_eq_true rfl) dX1_metric_5 ⟨Nat.le_of_ble_eq_true rfl, Nat.le_of_ble_eq_true rfl⟩ (fun r1 S2 h3 => ?_) rfl
  refine hr_tp h3.1 ?_
  refine hr_st h3.2 ?_
  refine hr_iconst (v := 4) C dX1_metric_8 (by decide) ?_
  refine hr_iadd (v := nI ((1 + (e9 * 5)) + 4)) C dX1_metric_9 (nI_add (1 + (e9 * 5)) 4) ?_
  refine hr_iald (k := 7) (i := i) ((1 + (e9 * 5)) + 4) C (show i < 202 by omega) rfl rfl (show (1 + (e9 * 5)) + 4 < 41 by omega) (by decide) dX1_metric_10 ?_
  exact hr_iret C hr dX1_metric_11 ⟨rfl, rfl⟩
set_option maxHeartbeats 4000000 in
set_option maxRecDepth 100000 in
theorem ct_X1_destination (l : Launch) (E : hr_E) (S : hr_S) (o : Int64) (i : Nat) (hi : i < 202) (e9 : Nat) (he : e9 < 8) : hr_Mi l E yX1_destination (Cond.code yX1_destination cX1_destination 2 (some .int) :: hr_W) ({ frames := 1, cells := 0, slots := 0, locals := 20 } : Room) [.ref (hr_ad E 6 i), .int (nI e9)] S o (fun r u => r = (S 7 i (1 + (e9 * 5) + 1) >>> ((8 : Int32) &&& 31)) &&& 255 ∧ u = S) := by
  refine hr_of (by decide) (Nat.le_of_ble_eq_true rfl) (fun p e s m below meth c C hr => ?_)
  refine hr_aload_n C dX1_destination_0 rfl 0 rfl ?_
  refine hr_get (k := 6) (i := i) (fld := 3) C (show i < 202 by omega) rfl rfl (by decide) kU_X1 kF_X1_11 rfl rfl dX1_destination_1 ?_
  refine hr_iload_n C dX1_destination_4 rfl 1 rfl ?_
  refine hr_cSi C (ct_X1_firstWord l E S o e9) (cwS 1 C.1.2.2.2.2 (hr_gS kM_X1_29 kT_X1_firstWord kN_X1 kC_X1_firstWord) rfl rfl rfl (by decide +kernel) ⟨Nat.le_of_ble_eq_true rfl, Nat.le_of_ble_eq_true rfl⟩) rfl (Nat.le_of_ble_eq_true rfl) dX1_destination_5 ⟨Nat.le_of_ble_eq_true rfl, Nat.le_of_ble_eq_true rfl⟩ (fun r1 S2 h3 => ?_) rfl
  refine hr_tp h3.1 ?_
  refine hr_st h3.2 ?_
  refine hr_iconst (v := 1) C dX1_destination_8 (by decide) ?_
  refine hr_iadd (v := nI ((1 + (e9 * 5)) + 1)) C dX1_destination_9 (nI_add (1 + (e9 * 5)) 1) ?_
  refine hr_iald (k := 7) (i := i) ((1 + (e9 * 5)) + 1) C (show i < 202 by omega) rfl rfl (show (1 + (e9 * 5)) + 1 < 41 by omega) (by decide) dX1_destination_10 ?_
  refine hr_bipush (v := 8) C dX1_destination_11 (by decide) ?_
  refine hr_ishr C dX1_destination_13 rfl ?_
  refine hr_sipush (v := 255) C dX1_destination_14 (by decide) ?_
  refine hr_iand C dX1_destination_17 rfl ?_
  exact hr_iret C hr dX1_destination_18 ⟨rfl, rfl⟩
set_option maxHeartbeats 4000000 in
set_option maxRecDepth 100000 in
theorem ct_X1_isRequest (l : Launch) (E : hr_E) (S : hr_S) (o : Int64) (i : Nat) (hi : i < 202) : hr_Mi l E yX1_isRequest (Cond.code yX1_isRequest cX1_isRequest 1 (some .boolean) :: hr_W) ({ frames := 0, cells := 0, slots := 0, locals := 0 } : Room) [.ref (hr_ad E 6 i)] S o (fun r u => r = (if S 7 i 0 = 16908288 then 1 else 0) ∧ u = S) := by
  refine hr_of (by decide) (Nat.le_of_ble_eq_true rfl) (fun p e s m below meth c C hr => ?_)
  refine hr_aload_n C dX1_isRequest_0 rfl 0 rfl ?_
  refine hr_get (k := 6) (i := i) (fld := 3) C (show i < 202 by omega) rfl rfl (by decide) kU_X1 kF_X1_11 rfl rfl dX1_isRequest_1 ?_
  refine hr_iconst (v := 0) C dX1_isRequest_4 (by decide) ?_
  refine hr_iald (k := 7) (i := i) 0 C (show i < 202 by omega) rfl rfl (show 0 < 41 by omega) (by decide) dX1_isRequest_5 ?_
  refine hr_ldc (v := 16908288) C dX1_isRequest_6 kK_X1_43 ?_
  refine hr_icmp_ne C 15 dX1_isRequest_8 (by decide) (fun c8 => ?_) (fun c8 => ?_)
  · skip
    refine hr_iconst (v := 0) C dX1_isRequest_15 (by decide) ?_
    exact hr_zret C hr rfl dX1_isRequest_16 ⟨by first | (simp only [c8, and_true, true_and, and_false, false_and, or_true, true_or, or_false, false_or, if_true, if_false, reduceIte, not_true_eq_false, not_false_eq_true, and_self]; done) | (rw [if_neg (fun h => by have := h.1; omega)]) | (rw [if_neg (fun h => by have := h.2.1; omega)]), rfl⟩
  · skip
    refine hr_iconst (v := 1) C dX1_isRequest_11 (by decide) ?_
    refine hr_goto C 16 dX1_isRequest_12 (by decide) ?_
    exact hr_zret C hr rfl dX1_isRequest_16 ⟨by first | (simp only [c8, and_true, true_and, and_false, false_and, or_true, true_or, or_false, false_or, if_true, if_false, reduceIte, not_true_eq_false, not_false_eq_true, and_self]; done) | (rw [if_neg (fun h => by have := h.1; omega)]) | (rw [if_neg (fun h => by have := h.2.1; omega)]), rfl⟩
set_option maxHeartbeats 4000000 in
set_option maxRecDepth 100000 in
theorem ct_X1_isSound (l : Launch) (E : hr_E) (S : hr_S) (o : Int64) (i : Nat) (hi : i < 202) (L : Nat) (hL : S 6 i 2 = nI L) (hL5 : L ≤ 164) : hr_Mi l E yX1_isSound (Cond.code yX1_isSound cX1_isSound 1 (some .boolean) :: hr_W) ({ frames := 0, cells := 0, slots := 0, locals := 0 } : Room) [.ref (hr_ad E 6 i)] S o (fun r u => r = (if 24 ≤ L ∧ (L - 4) % 20 = 0 ∧ (S 7 i 0 = 16908288 ∨ S 7 i 0 = 33685504) then 1 else 0) ∧ u = S) := by
  refine hr_of (by decide) (Nat.le_of_ble_eq_true rfl) (fun p e s m below meth c C hr => ?_)
  refine hr_aload_n C dX1_isSound_0 rfl 0 rfl ?_
  refine hr_get (k := 6) (i := i) (fld := 2) C (show i < 202 by omega) rfl rfl (by decide) kU_X1 kF_X1_22 rfl rfl dX1_isSound_1 ?_
  refine hr_tp (y := nI L) hL ?_
  refine hr_bipush (v := 24) C dX1_isSound_4 (by decide) ?_
  refine hr_icmp_lt C 47 dX1_isSound_6 (by decide) (fun c6 => ?_) (fun c6 => ?_)
  · skip
    have c6 : L < 24 := (nI_ltI (a := L) (b := 24) (by omega) (by omega)).mp c6
    have c6n : ¬ 24 ≤ L := Nat.not_le.mpr c6
    refine hr_iconst (v := 0) C dX1_isSound_47 (by decide) ?_
    exact hr_zret C hr rfl dX1_isSound_48 ⟨by first | (simp only [c6, c6n, and_true, true_and, and_false, false_and, or_true, true_or, or_false, false_or, if_true, if_false, reduceIte, not_true_eq_false, not_false_eq_true, and_self]; done) | (rw [if_neg (fun h => by have := h.1; omega)]) | (rw [if_neg (fun h => by have := h.2.1; omega)]), rfl⟩
  · skip
    have c6 : ¬ L < 24 := fun h => c6 ((nI_ltI (a := L) (b := 24) (by omega) (by omega)).mpr h)
    have c6n : 24 ≤ L := Nat.not_lt.mp c6
    refine hr_aload_n C dX1_isSound_9 rfl 0 rfl ?_
    refine hr_get (k := 6) (i := i) (fld := 2) C (show i < 202 by omega) rfl rfl (by decide) kU_X1 kF_X1_22 rfl rfl dX1_isSound_10 ?_
    refine hr_tp (y := nI L) hL ?_
    refine hr_iconst (v := 4) C dX1_isSound_13 (by decide) ?_
    refine hr_isub (v := nI (L - 4)) C dX1_isSound_14 (pk_sub (a := L) (b := 4) (by omega)) ?_
    refine hr_bipush (v := 20) C dX1_isSound_15 (by decide) ?_
    refine hr_irem (v := nI ((L - 4) % 20)) C dX1_isSound_17 (by decide) (pk_rem (a := (L - 4)) (d := 20) (by omega) (by omega) (by omega)) ?_
    refine hr_if_ne C 47 dX1_isSound_18 (by decide) (fun c18 => ?_) (fun c18 => ?_)
    · skip
      have c18 : ¬ ((L - 4) % 20) = 0 := fun h => c18 ((nI_eq (a := ((L - 4) % 20)) (b := 0) (by omega) (by omega)).mpr h)
      refine hr_iconst (v := 0) C dX1_isSound_47 (by decide) ?_
      exact hr_zret C hr rfl dX1_isSound_48 ⟨by first | (simp only [c6, c6n, c18, and_true, true_and, and_false, false_and, or_true, true_or, or_false, false_or, if_true, if_false, reduceIte, not_true_eq_false, not_false_eq_true, and_self]; done) | (rw [if_neg (fun h => by have := h.1; omega)]) | (rw [if_neg (fun h => by have := h.2.1; omega)]), rfl⟩
    · skip
      have c18 : ((L - 4) % 20) = 0 := (nI_eq (a := ((L - 4) % 20)) (b := 0) (by omega) (by omega)).mp c18
      refine hr_aload_n C dX1_isSound_21 rfl 0 rfl ?_
      refine hr_get (k := 6) (i := i) (fld := 3) C (show i < 202 by omega) rfl rfl (by decide) kU_X1 kF_X1_11 rfl rfl dX1_isSound_22 ?_
      refine hr_iconst (v := 0) C dX1_isSound_25 (by decide) ?_
      refine hr_iald (k := 7) (i := i) 0 C (show i < 202 by omega) rfl rfl (show 0 < 41 by omega) (by decide) dX1_isSound_26 ?_
      refine hr_ldc (v := 16908288) C dX1_isSound_27 kK_X1_43 ?_
      refine hr_icmp_eq C 43 dX1_isSound_29 (by decide) (fun c29 => ?_) (fun c29 => ?_)
      · skip
        refine hr_iconst (v := 1) C dX1_isSound_43 (by decide) ?_
        refine hr_goto C 48 dX1_isSound_44 (by decide) ?_
        exact hr_zret C hr rfl dX1_isSound_48 ⟨by first | (simp only [c6, c6n, c18, c29, and_true, true_and, and_false, false_and, or_true, true_or, or_false, false_or, if_true, if_false, reduceIte, not_true_eq_false, not_false_eq_true, and_self]; done) | (rw [if_neg (fun h => by have := h.1; omega)]) | (rw [if_neg (fun h => by have := h.2.1; omega)]), rfl⟩
      · skip
        refine hr_aload_n C dX1_isSound_32 rfl 0 rfl ?_
        refine hr_get (k := 6) (i := i) (fld := 3) C (show i < 202 by omega) rfl rfl (by decide) kU_X1 kF_X1_11 rfl rfl dX1_isSound_33 ?_
        refine hr_iconst (v := 0) C dX1_isSound_36 (by decide) ?_
        refine hr_iald (k := 7) (i := i) 0 C (show i < 202 by omega) rfl rfl (show 0 < 41 by omega) (by decide) dX1_isSound_37 ?_
        refine hr_ldc (v := 33685504) C dX1_isSound_38 kK_X1_44 ?_
        refine hr_icmp_ne C 47 dX1_isSound_40 (by decide) (fun c40 => ?_) (fun c40 => ?_)
        · skip
          refine hr_iconst (v := 0) C dX1_isSound_47 (by decide) ?_
          exact hr_zret C hr rfl dX1_isSound_48 ⟨by first | (simp only [c6, c6n, c18, c29, c40, and_true, true_and, and_false, false_and, or_true, true_or, or_false, false_or, if_true, if_false, reduceIte, not_true_eq_false, not_false_eq_true, and_self]; done) | (rw [if_neg (fun h => by have := h.1; omega)]) | (rw [if_neg (fun h => by have := h.2.1; omega)]), rfl⟩
        · skip
          refine hr_iconst (v := 1) C dX1_isSound_43 (by decide) ?_
          refine hr_goto C 48 dX1_isSound_44 (by decide) ?_
          exact hr_zret C hr rfl dX1_isSound_48 ⟨by first | (simp only [c6, c6n, c18, c29, c40, and_true, true_and, and_false, false_and, or_true, true_or, or_false, false_or, if_true, if_false, reduceIte, not_true_eq_false, not_false_eq_true, and_self]; done) | (rw [if_neg (fun h => by have := h.1; omega)]) | (rw [if_neg (fun h => by have := h.2.1; omega)]), rfl⟩
set_option maxHeartbeats 4000000 in
set_option maxRecDepth 100000 in
theorem ct_X1_hasPlainFields (l : Launch) (E : hr_E) (S : hr_S) (o : Int64) (i : Nat) (hi : i < 202) (e9 : Nat) (he : e9 < 8) (fb : Int32) : hr_Mi l E yX1_hasPlainFields (Cond.code yX1_hasPlainFields cX1_hasPlainFields 4 (some .boolean) :: hr_W) ({ frames := 1, cells := 0, slots := 0, locals := 20 } : Room) [.ref (hr_ad E 6 i), .int (nI e9), .int fb] S o (fun r u => r = (if (S 7 i (1 + (e9 * 5) + 1) &&& (fb ^^^ (-1))) = 167772160 ∧ S 7 i (1 + (e9 * 5) + 2) = -256 ∧ S 7 i (1 + (e9 * 5) + 3) = 0 then 1 else 0) ∧ u = S) := by
  refine hr_of (by decide) (Nat.le_of_ble_eq_true rfl) (fun p e s m below meth c C hr => ?_)
  refine hr_iload_n C dX1_hasPlainFields_0 rfl 1 rfl ?_
  refine hr_cSi C (ct_X1_firstWord l E S o e9) (cwS 1 C.1.2.2.2.2 (hr_gS kM_X1_29 kT_X1_firstWord kN_X1 kC_X1_firstWord) rfl rfl rfl (by decide +kernel) ⟨Nat.le_of_ble_eq_true rfl, Nat.le_of_ble_eq_true rfl⟩) rfl (Nat.le_of_ble_eq_true rfl) dX1_hasPlainFields_1 ⟨Nat.le_of_ble_eq_true rfl, Nat.le_of_ble_eq_true rfl⟩ (fun r1 S2 h3 => ?_) rfl
  refine hr_tp h3.1 ?_
  refine hr_st h3.2 ?_
  refine hr_istore_n C [(3, .int (nI (1 + (e9 * 5)))), (0, .ref (hr_ad E 6 i)), (1, .int (nI e9)), (2, .int fb)] dX1_hasPlainFields_4 rfl (by decide) rfl ?_
  refine hr_aload_n C dX1_hasPlainFields_5 rfl 1 rfl ?_
  refine hr_get (k := 6) (i := i) (fld := 3) C (show i < 202 by omega) rfl rfl (by decide) kU_X1 kF_X1_11 rfl rfl dX1_hasPlainFields_6 ?_
  refine hr_iload_n C dX1_hasPlainFields_9 rfl 0 rfl ?_
  refine hr_iconst (v := 1) C dX1_hasPlainFields_10 (by decide) ?_
  refine hr_iadd (v := nI ((1 + (e9 * 5)) + 1)) C dX1_hasPlainFields_11 (nI_add (1 + (e9 * 5)) 1) ?_
  refine hr_iald (k := 7) (i := i) ((1 + (e9 * 5)) + 1) C (show i < 202 by omega) rfl rfl (show (1 + (e9 * 5)) + 1 < 41 by omega) (by decide) dX1_hasPlainFields_12 ?_
  refine hr_iload_n C dX1_hasPlainFields_13 rfl 3 rfl ?_
  refine hr_iconst (v := (-1)) C dX1_hasPlainFields_14 (by decide) ?_
  refine hr_ixor C dX1_hasPlainFields_15 rfl ?_
  refine hr_iand C dX1_hasPlainFields_16 rfl ?_
  refine hr_ldc (v := 167772160) C dX1_hasPlainFields_17 kK_X1_33 ?_
  refine hr_icmp_ne C 51 dX1_hasPlainFields_19 (by decide) (fun c19 => ?_) (fun c19 => ?_)
  · skip
    refine hr_iconst (v := 0) C dX1_hasPlainFields_51 (by decide) ?_
    exact hr_zret C hr rfl dX1_hasPlainFields_52 ⟨by first | (simp only [c19, and_true, true_and, and_false, false_and, or_true, true_or, or_false, false_or, if_true, if_false, reduceIte, not_true_eq_false, not_false_eq_true, and_self]; done) | (rw [if_neg (fun h => by have := h.1; omega)]) | (rw [if_neg (fun h => by have := h.2.1; omega)]), rfl⟩
  · skip
    refine hr_aload_n C dX1_hasPlainFields_22 rfl 1 rfl ?_
    refine hr_get (k := 6) (i := i) (fld := 3) C (show i < 202 by omega) rfl rfl (by decide) kU_X1 kF_X1_11 rfl rfl dX1_hasPlainFields_23 ?_
    refine hr_iload_n C dX1_hasPlainFields_26 rfl 0 rfl ?_
    refine hr_iconst (v := 2) C dX1_hasPlainFields_27 (by decide) ?_
    refine hr_iadd (v := nI ((1 + (e9 * 5)) + 2)) C dX1_hasPlainFields_28 (nI_add (1 + (e9 * 5)) 2) ?_
    refine hr_iald (k := 7) (i := i) ((1 + (e9 * 5)) + 2) C (show i < 202 by omega) rfl rfl (show (1 + (e9 * 5)) + 2 < 41 by omega) (by decide) dX1_hasPlainFields_29 ?_
    refine hr_sipush (v := (-256)) C dX1_hasPlainFields_30 (by decide) ?_
    refine hr_icmp_ne C 51 dX1_hasPlainFields_33 (by decide) (fun c33 => ?_) (fun c33 => ?_)
    · skip
      refine hr_iconst (v := 0) C dX1_hasPlainFields_51 (by decide) ?_
      exact hr_zret C hr rfl dX1_hasPlainFields_52 ⟨by first | (simp only [c19, c33, and_true, true_and, and_false, false_and, or_true, true_or, or_false, false_or, if_true, if_false, reduceIte, not_true_eq_false, not_false_eq_true, and_self]; done) | (rw [if_neg (fun h => by have := h.1; omega)]) | (rw [if_neg (fun h => by have := h.2.1; omega)]), rfl⟩
    · skip
      refine hr_aload_n C dX1_hasPlainFields_36 rfl 1 rfl ?_
      refine hr_get (k := 6) (i := i) (fld := 3) C (show i < 202 by omega) rfl rfl (by decide) kU_X1 kF_X1_11 rfl rfl dX1_hasPlainFields_37 ?_
      refine hr_iload_n C dX1_hasPlainFields_40 rfl 0 rfl ?_
      refine hr_iconst (v := 3) C dX1_hasPlainFields_41 (by decide) ?_
      refine hr_iadd (v := nI ((1 + (e9 * 5)) + 3)) C dX1_hasPlainFields_42 (nI_add (1 + (e9 * 5)) 3) ?_
      refine hr_iald (k := 7) (i := i) ((1 + (e9 * 5)) + 3) C (show i < 202 by omega) rfl rfl (show (1 + (e9 * 5)) + 3 < 41 by omega) (by decide) dX1_hasPlainFields_43 ?_
      refine hr_if_ne C 51 dX1_hasPlainFields_44 (by decide) (fun c44 => ?_) (fun c44 => ?_)
      · skip
        refine hr_iconst (v := 0) C dX1_hasPlainFields_51 (by decide) ?_
        exact hr_zret C hr rfl dX1_hasPlainFields_52 ⟨by first | (simp only [c19, c33, c44, and_true, true_and, and_false, false_and, or_true, true_or, or_false, false_or, if_true, if_false, reduceIte, not_true_eq_false, not_false_eq_true, and_self]; done) | (rw [if_neg (fun h => by have := h.1; omega)]) | (rw [if_neg (fun h => by have := h.2.1; omega)]), rfl⟩
      · skip
        refine hr_iconst (v := 1) C dX1_hasPlainFields_47 (by decide) ?_
        refine hr_goto C 52 dX1_hasPlainFields_48 (by decide) ?_
        exact hr_zret C hr rfl dX1_hasPlainFields_52 ⟨by first | (simp only [c19, c33, c44, and_true, true_and, and_false, false_and, or_true, true_or, or_false, false_or, if_true, if_false, reduceIte, not_true_eq_false, not_false_eq_true, and_self]; done) | (rw [if_neg (fun h => by have := h.1; omega)]) | (rw [if_neg (fun h => by have := h.2.1; omega)]), rfl⟩
set_option maxHeartbeats 4000000 in
set_option maxRecDepth 100000 in
theorem ct_X1_isSoundEntry (l : Launch) (E : hr_E) (S : hr_S) (o : Int64) (i : Nat) (hi : i < 202) (e9 : Nat) (he : e9 < 8) : hr_Mi l E yX1_isSoundEntry (Cond.code yX1_isSoundEntry cX1_isSoundEntry 3 (some .boolean) :: hr_W) ({ frames := 2, cells := 0, slots := 0, locals := 43 } : Room) [.ref (hr_ad E 6 i), .int (nI e9)] S o (fun r u => r = (if S 7 i (1 + (e9 * 5)) = 131072 ∧ ((S 7 i (1 + (e9 * 5) + 1) &&& ((1792 : Int32) ^^^ (-1))) = 167772160 ∧ S 7 i (1 + (e9 * 5) + 2) = -256 ∧ S 7 i (1 + (e9 * 5) + 3) = 0) ∧ 1 ≤ S 7 i (1 + (e9 * 5) + 4) ∧ S 7 i (1 + (e9 * 5) + 4) ≤ 16 then 1 else 0) ∧ u = S) := by
  refine hr_of (by decide) (Nat.le_of_ble_eq_true rfl) (fun p e s m below meth c C hr => ?_)
  refine hr_aload_n C dX1_isSoundEntry_0 rfl 0 rfl ?_
  refine hr_iload_n C dX1_isSoundEntry_1 rfl 1 rfl ?_
  refine hr_cVi C (ct_X1_metric l E S o i (by omega) e9 (by omega)) (cwV 1 C.1.2.2.2.2 (hr_gV kM_X1_45 kI_X1_metric kS_X1_metric kN_X1 kC_X1_metric) rfl rfl rfl (by decide +kernel) ⟨Nat.le_of_ble_eq_true rfl, Nat.le_of_ble_eq_true rfl⟩) (show i < 202 by omega) rfl rfl rfl (Nat.le_of_ble_eq_true rfl) dX1_isSoundEntry_2 ⟨Nat.le_of_ble_eq_true rfl, Nat.le_of_ble_eq_true rfl⟩ (fun r1 S2 h3 => ?_) rfl
  refine hr_tp h3.1 ?_
  refine hr_st h3.2 ?_
  refine hr_istore_n C [(2, .int (S 7 i (1 + (e9 * 5) + 4))), (0, .ref (hr_ad E 6 i)), (1, .int (nI e9))] dX1_isSoundEntry_5 rfl (by decide) rfl ?_
  refine hr_aload_n C dX1_isSoundEntry_6 rfl 1 rfl ?_
  refine hr_get (k := 6) (i := i) (fld := 3) C (show i < 202 by omega) rfl rfl (by decide) kU_X1 kF_X1_11 rfl rfl dX1_isSoundEntry_7 ?_
  refine hr_iload_n C dX1_isSoundEntry_10 rfl 2 rfl ?_
  refine hr_cSi C (ct_X1_firstWord l E S o e9) (cwS 1 C.1.2.2.2.2 (hr_gS kM_X1_29 kT_X1_firstWord kN_X1 kC_X1_firstWord) rfl rfl rfl (by decide +kernel) ⟨Nat.le_of_ble_eq_true rfl, Nat.le_of_ble_eq_true rfl⟩) rfl (Nat.le_of_ble_eq_true rfl) dX1_isSoundEntry_11 ⟨Nat.le_of_ble_eq_true rfl, Nat.le_of_ble_eq_true rfl⟩ (fun r4 S5 h6 => ?_) rfl
  refine hr_tp h6.1 ?_
  refine hr_st h6.2 ?_
  refine hr_iald (k := 7) (i := i) (1 + (e9 * 5)) C (show i < 202 by omega) rfl rfl (show 1 + (e9 * 5) < 41 by omega) (by decide) dX1_isSoundEntry_14 ?_
  refine hr_ldc (v := 131072) C dX1_isSoundEntry_15 kK_X1_48 ?_
  refine hr_icmp_ne C 46 dX1_isSoundEntry_17 (by decide) (fun c17 => ?_) (fun c17 => ?_)
  · skip
    refine hr_iconst (v := 0) C dX1_isSoundEntry_46 (by decide) ?_
    exact hr_zret C hr rfl dX1_isSoundEntry_47 ⟨by first | (simp only [c17, and_true, true_and, and_false, false_and, or_true, true_or, or_false, false_or, if_true, if_false, reduceIte, not_true_eq_false, not_false_eq_true, and_self]; done) | (rw [if_neg (fun h => by have := h.1; omega)]) | (rw [if_neg (fun h => by have := h.2.1; omega)]), rfl⟩
  · skip
    refine hr_aload_n C dX1_isSoundEntry_20 rfl 1 rfl ?_
    refine hr_iload_n C dX1_isSoundEntry_21 rfl 2 rfl ?_
    refine hr_sipush (v := 1792) C dX1_isSoundEntry_22 (by decide) ?_
    refine hr_cVi C (ct_X1_hasPlainFields l E S o i (by omega) e9 (by omega) 1792) (cwV 2 C.1.2.2.2.2 (hr_gV kM_X1_49 kI_X1_hasPlainFields kS_X1_hasPlainFields kN_X1 kC_X1_hasPlainFields) rfl rfl rfl (by decide +kernel) ⟨Nat.le_of_ble_eq_true rfl, Nat.le_of_ble_eq_true rfl⟩) (show i < 202 by omega) rfl rfl rfl (Nat.le_of_ble_eq_true rfl) dX1_isSoundEntry_25 ⟨Nat.le_of_ble_eq_true rfl, Nat.le_of_ble_eq_true rfl⟩ (fun r7 S8 h9 => ?_) rfl
    refine hr_tp h9.1 ?_
    refine hr_st h9.2 ?_
    refine hr_if_eq C 46 dX1_isSoundEntry_28 (by decide) (fun c28 => ?_) (fun c28 => ?_)
    · skip
      have c28 : ¬ ((S 7 i (1 + (e9 * 5) + 1) &&& (1792 ^^^ (-1))) = 167772160 ∧ S 7 i (1 + (e9 * 5) + 2) = -256 ∧ S 7 i (1 + (e9 * 5) + 3) = 0) := hr_bz.mp c28
      refine hr_iconst (v := 0) C dX1_isSoundEntry_46 (by decide) ?_
      exact hr_zret C hr rfl dX1_isSoundEntry_47 ⟨by first | (simp only [c17, c28, and_true, true_and, and_false, false_and, or_true, true_or, or_false, false_or, if_true, if_false, reduceIte, not_true_eq_false, not_false_eq_true, and_self]; done) | (rw [if_neg (fun h => by have := h.1; omega)]) | (rw [if_neg (fun h => by have := h.2.1; omega)]), rfl⟩
    · skip
      have c28 : (S 7 i (1 + (e9 * 5) + 1) &&& (1792 ^^^ (-1))) = 167772160 ∧ S 7 i (1 + (e9 * 5) + 2) = -256 ∧ S 7 i (1 + (e9 * 5) + 3) = 0 := hr_bn.mp c28
      refine hr_iload_n C dX1_isSoundEntry_31 rfl 0 rfl ?_
      refine hr_iconst (v := 1) C dX1_isSoundEntry_32 (by decide) ?_
      refine hr_icmp_lt C 46 dX1_isSoundEntry_33 (by decide) (fun c33 => ?_) (fun c33 => ?_)
      · skip
        have c33n : ¬ 1 ≤ (S 7 i (1 + (e9 * 5) + 4)) := Int32.not_le.mpr c33
        refine hr_iconst (v := 0) C dX1_isSoundEntry_46 (by decide) ?_
        exact hr_zret C hr rfl dX1_isSoundEntry_47 ⟨by first | (simp only [c17, c28, c33, c33n, and_true, true_and, and_false, false_and, or_true, true_or, or_false, false_or, if_true, if_false, reduceIte, not_true_eq_false, not_false_eq_true, and_self]; done) | (rw [if_neg (fun h => by have := h.1; omega)]) | (rw [if_neg (fun h => by have := h.2.1; omega)]), rfl⟩
      · skip
        have c33n : 1 ≤ (S 7 i (1 + (e9 * 5) + 4)) := Int32.not_lt.mp c33
        refine hr_iload_n C dX1_isSoundEntry_36 rfl 0 rfl ?_
        refine hr_bipush (v := 16) C dX1_isSoundEntry_37 (by decide) ?_
        refine hr_icmp_gt C 46 dX1_isSoundEntry_39 (by decide) (fun c39 => ?_) (fun c39 => ?_)
        · skip
          have c39n : ¬ (S 7 i (1 + (e9 * 5) + 4)) ≤ 16 := Int32.not_le.mpr c39
          refine hr_iconst (v := 0) C dX1_isSoundEntry_46 (by decide) ?_
          exact hr_zret C hr rfl dX1_isSoundEntry_47 ⟨by first | (simp only [c17, c28, c33, c33n, c39, c39n, and_true, true_and, and_false, false_and, or_true, true_or, or_false, false_or, if_true, if_false, reduceIte, not_true_eq_false, not_false_eq_true, and_self]; done) | (rw [if_neg (fun h => by have := h.1; omega)]) | (rw [if_neg (fun h => by have := h.2.1; omega)]), rfl⟩
        · skip
          have c39n : (S 7 i (1 + (e9 * 5) + 4)) ≤ 16 := Int32.not_lt.mp c39
          refine hr_iconst (v := 1) C dX1_isSoundEntry_42 (by decide) ?_
          refine hr_goto C 47 dX1_isSoundEntry_43 (by decide) ?_
          exact hr_zret C hr rfl dX1_isSoundEntry_47 ⟨by first | (simp only [c17, c28, c33, c33n, c39, c39n, and_true, true_and, and_false, false_and, or_true, true_or, or_false, false_or, if_true, if_false, reduceIte, not_true_eq_false, not_false_eq_true, and_self]; done) | (rw [if_neg (fun h => by have := h.1; omega)]) | (rw [if_neg (fun h => by have := h.2.1; omega)]), rfl⟩
set_option maxHeartbeats 4000000 in
set_option maxRecDepth 100000 in
theorem ct_X1_asksForAll (l : Launch) (E : hr_E) (S : hr_S) (o : Int64) (i : Nat) (hi : i < 202) (L : Nat) (hL : S 6 i 2 = nI L) (hL4 : 4 ≤ L) (hL5 : L ≤ 164) : hr_Mi l E yX1_asksForAll (Cond.code yX1_asksForAll cX1_asksForAll 1 (some .boolean) :: hr_W) ({ frames := 2, cells := 0, slots := 0, locals := 43 } : Room) [.ref (hr_ad E 6 i)] S o (fun r u => r = (if (L - 4) / 20 = 1 ∧ S 7 i (1 + (0 * 5)) = 0 ∧ ((S 7 i (1 + (0 * 5) + 1) &&& ((65280 : Int32) ^^^ (-1))) = 167772160 ∧ S 7 i (1 + (0 * 5) + 2) = -256 ∧ S 7 i (1 + (0 * 5) + 3) = 0) ∧ S 7 i (1 + (0 * 5) + 4) = 16 then 1 else 0) ∧ u = S) := by
  refine hr_of (by decide) (Nat.le_of_ble_eq_true rfl) (fun p e s m below meth c C hr => ?_)
  refine hr_aload_n C dX1_asksForAll_0 rfl 0 rfl ?_
  refine hr_cVi C (ct_X1_entries l E S o i (by omega) L hL hL4 hL5) (cwV 0 C.1.2.2.2.2 (hr_gV kM_X1_25 kI_X1_entries kS_X1_entries kN_X1 kC_X1_entries) rfl rfl rfl (by decide +kernel) ⟨Nat.le_of_ble_eq_true rfl, Nat.le_of_ble_eq_true rfl⟩) (show i < 202 by omega) rfl rfl rfl (Nat.le_of_ble_eq_true rfl) dX1_asksForAll_1 ⟨Nat.le_of_ble_eq_true rfl, Nat.le_of_ble_eq_true rfl⟩ (fun r1 S2 h3 => ?_) rfl
  refine hr_tp h3.1 ?_
  refine hr_st h3.2 ?_
  refine hr_iconst (v := 1) C dX1_asksForAll_4 (by decide) ?_
  refine hr_icmp_ne C 44 dX1_asksForAll_5 (by decide) (fun c5 => ?_) (fun c5 => ?_)
  · skip
    have c5 : ¬ ((L - 4) / 20) = 1 := fun h => c5 ((nI_eq (a := ((L - 4) / 20)) (b := 1) (by omega) (by omega)).mpr h)
    refine hr_iconst (v := 0) C dX1_asksForAll_44 (by decide) ?_
    exact hr_zret C hr rfl dX1_asksForAll_45 ⟨by first | (simp only [c5, and_true, true_and, and_false, false_and, or_true, true_or, or_false, false_or, if_true, if_false, reduceIte, not_true_eq_false, not_false_eq_true, and_self]; done) | (rw [if_neg (fun h => by have := h.1; omega)]) | (rw [if_neg (fun h => by have := h.2.1; omega)]), rfl⟩
  · skip
    have c5 : ((L - 4) / 20) = 1 := (nI_eq (a := ((L - 4) / 20)) (b := 1) (by omega) (by omega)).mp c5
    refine hr_aload_n C dX1_asksForAll_8 rfl 0 rfl ?_
    refine hr_get (k := 6) (i := i) (fld := 3) C (show i < 202 by omega) rfl rfl (by decide) kU_X1 kF_X1_11 rfl rfl dX1_asksForAll_9 ?_
    refine hr_iconst (v := 0) C dX1_asksForAll_12 (by decide) ?_
    refine hr_cSi C (ct_X1_firstWord l E S o 0) (cwS 1 C.1.2.2.2.2 (hr_gS kM_X1_29 kT_X1_firstWord kN_X1 kC_X1_firstWord) rfl rfl rfl (by decide +kernel) ⟨Nat.le_of_ble_eq_true rfl, Nat.le_of_ble_eq_true rfl⟩) rfl (Nat.le_of_ble_eq_true rfl) dX1_asksForAll_13 ⟨Nat.le_of_ble_eq_true rfl, Nat.le_of_ble_eq_true rfl⟩ (fun r4 S5 h6 => ?_) rfl
    refine hr_tp h6.1 ?_
    refine hr_st h6.2 ?_
    refine hr_iald (k := 7) (i := i) (1 + (0 * 5)) C (show i < 202 by omega) rfl rfl (show 1 + (0 * 5) < 41 by omega) (by decide) dX1_asksForAll_16 ?_
    refine hr_if_ne C 44 dX1_asksForAll_17 (by decide) (fun c17 => ?_) (fun c17 => ?_)
    · skip
      refine hr_iconst (v := 0) C dX1_asksForAll_44 (by decide) ?_
      exact hr_zret C hr rfl dX1_asksForAll_45 ⟨by first | (simp only [c5, c17, and_true, true_and, and_false, false_and, or_true, true_or, or_false, false_or, if_true, if_false, reduceIte, not_true_eq_false, not_false_eq_true, and_self]; done) | (rw [if_neg (fun h => by have := h.1; omega)]) | (rw [if_neg (fun h => by have := h.2.1; omega)]), rfl⟩
    · skip
      refine hr_aload_n C dX1_asksForAll_20 rfl 0 rfl ?_
      refine hr_iconst (v := 0) C dX1_asksForAll_21 (by decide) ?_
      refine hr_ldc (v := 65280) C dX1_asksForAll_22 kK_X1_53 ?_
      refine hr_cVi C (ct_X1_hasPlainFields l E S o i (by omega) 0 (by omega) 65280) (cwV 2 C.1.2.2.2.2 (hr_gV kM_X1_49 kI_X1_hasPlainFields kS_X1_hasPlainFields kN_X1 kC_X1_hasPlainFields) rfl rfl rfl (by decide +kernel) ⟨Nat.le_of_ble_eq_true rfl, Nat.le_of_ble_eq_true rfl⟩) (show i < 202 by omega) rfl rfl rfl (Nat.le_of_ble_eq_true rfl) dX1_asksForAll_24 ⟨Nat.le_of_ble_eq_true rfl, Nat.le_of_ble_eq_true rfl⟩ (fun r7 S8 h9 => ?_) rfl
      refine hr_tp h9.1 ?_
      refine hr_st h9.2 ?_
      refine hr_if_eq C 44 dX1_asksForAll_27 (by decide) (fun c27 => ?_) (fun c27 => ?_)
      · skip
        have c27 : ¬ ((S 7 i (1 + (0 * 5) + 1) &&& (65280 ^^^ (-1))) = 167772160 ∧ S 7 i (1 + (0 * 5) + 2) = -256 ∧ S 7 i (1 + (0 * 5) + 3) = 0) := hr_bz.mp c27
        refine hr_iconst (v := 0) C dX1_asksForAll_44 (by decide) ?_
        exact hr_zret C hr rfl dX1_asksForAll_45 ⟨by first | (simp only [c5, c17, c27, and_true, true_and, and_false, false_and, or_true, true_or, or_false, false_or, if_true, if_false, reduceIte, not_true_eq_false, not_false_eq_true, and_self]; done) | (rw [if_neg (fun h => by have := h.1; omega)]) | (rw [if_neg (fun h => by have := h.2.1; omega)]), rfl⟩
      · skip
        have c27 : (S 7 i (1 + (0 * 5) + 1) &&& (65280 ^^^ (-1))) = 167772160 ∧ S 7 i (1 + (0 * 5) + 2) = -256 ∧ S 7 i (1 + (0 * 5) + 3) = 0 := hr_bn.mp c27
        refine hr_aload_n C dX1_asksForAll_30 rfl 0 rfl ?_
        refine hr_iconst (v := 0) C dX1_asksForAll_31 (by decide) ?_
        refine hr_cVi C (ct_X1_metric l E S o i (by omega) 0 (by omega)) (cwV 1 C.1.2.2.2.2 (hr_gV kM_X1_45 kI_X1_metric kS_X1_metric kN_X1 kC_X1_metric) rfl rfl rfl (by decide +kernel) ⟨Nat.le_of_ble_eq_true rfl, Nat.le_of_ble_eq_true rfl⟩) (show i < 202 by omega) rfl rfl rfl (Nat.le_of_ble_eq_true rfl) dX1_asksForAll_32 ⟨Nat.le_of_ble_eq_true rfl, Nat.le_of_ble_eq_true rfl⟩ (fun r10 S11 h12 => ?_) rfl
        refine hr_tp h12.1 ?_
        refine hr_st h12.2 ?_
        refine hr_bipush (v := 16) C dX1_asksForAll_35 (by decide) ?_
        refine hr_icmp_ne C 44 dX1_asksForAll_37 (by decide) (fun c37 => ?_) (fun c37 => ?_)
        · skip
          refine hr_iconst (v := 0) C dX1_asksForAll_44 (by decide) ?_
          exact hr_zret C hr rfl dX1_asksForAll_45 ⟨by first | (simp only [c5, c17, c27, c37, and_true, true_and, and_false, false_and, or_true, true_or, or_false, false_or, if_true, if_false, reduceIte, not_true_eq_false, not_false_eq_true, and_self]; done) | (rw [if_neg (fun h => by have := h.1; omega)]) | (rw [if_neg (fun h => by have := h.2.1; omega)]), rfl⟩
        · skip
          refine hr_iconst (v := 1) C dX1_asksForAll_40 (by decide) ?_
          refine hr_goto C 45 dX1_asksForAll_41 (by decide) ?_
          exact hr_zret C hr rfl dX1_asksForAll_45 ⟨by first | (simp only [c5, c17, c27, c37, and_true, true_and, and_false, false_and, or_true, true_or, or_false, false_or, if_true, if_false, reduceIte, not_true_eq_false, not_false_eq_true, and_self]; done) | (rw [if_neg (fun h => by have := h.1; omega)]) | (rw [if_neg (fun h => by have := h.2.1; omega)]), rfl⟩
set_option maxHeartbeats 4000000 in
set_option maxRecDepth 100000 in
theorem ct_X1_byteAt (l : Launch) (E : hr_E) (S : hr_S) (o : Int64) (i : Nat) (hi : i < 202) (j : Nat) (hj : j < 164) : hr_Mi l E yX1_byteAt (Cond.code yX1_byteAt cX1_byteAt 2 (some .int) :: hr_W) ({ frames := 1, cells := 0, slots := 0, locals := 20 } : Room) [.ref (hr_ad E 6 i), .int (nI j)] S o (fun r u => r = hr_by (S 7 i) j ∧ u = S) := by
  refine hr_of (by decide) (Nat.le_of_ble_eq_true rfl) (fun p e s m below meth c C hr => ?_)
  refine hr_aload_n C dX1_byteAt_0 rfl 0 rfl ?_
  refine hr_get (k := 6) (i := i) (fld := 3) C (show i < 202 by omega) rfl rfl (by decide) kU_X1 kF_X1_11 rfl rfl dX1_byteAt_1 ?_
  refine hr_iload_n C dX1_byteAt_4 rfl 1 rfl ?_
  refine hr_iconst (v := 2) C dX1_byteAt_5 (by decide) ?_
  refine hr_ishr C dX1_byteAt_6 rfl ?_
  refine hr_tp (y := nI (j / 4)) (hr_sr j hj) ?_
  refine hr_iald (k := 7) (i := i) (j / 4) C (show i < 202 by omega) rfl rfl (show j / 4 < 41 by omega) (by decide) dX1_byteAt_7 ?_
  refine hr_iload_n C dX1_byteAt_8 rfl 1 rfl ?_
  refine hr_cSi C (ct_X1_shiftOf l E S o j (by omega)) (cwS 1 C.1.2.2.2.2 (hr_gS kM_X1_40 kT_X1_shiftOf kN_X1 kC_X1_shiftOf) rfl rfl rfl (by decide +kernel) ⟨Nat.le_of_ble_eq_true rfl, Nat.le_of_ble_eq_true rfl⟩) rfl (Nat.le_of_ble_eq_true rfl) dX1_byteAt_9 ⟨Nat.le_of_ble_eq_true rfl, Nat.le_of_ble_eq_true rfl⟩ (fun r1 S2 h3 => ?_) rfl
  refine hr_tp h3.1 ?_
  refine hr_st h3.2 ?_
  refine hr_iushr C dX1_byteAt_12 rfl ?_
  refine hr_sipush (v := 255) C dX1_byteAt_13 (by decide) ?_
  refine hr_iand C dX1_byteAt_16 rfl ?_
  exact hr_iret C hr dX1_byteAt_17 ⟨rfl, rfl⟩
set_option maxHeartbeats 4000000 in
set_option maxRecDepth 100000 in
theorem ct_X1_setByte (l : Launch) (E : hr_E) (S : hr_S) (o : Int64) (i : Nat) (hi : i < 202) (j : Nat) (hj : j < 164) (v : Int32) : hr_Mv l E yX1_setByte (Cond.code yX1_setByte cX1_setByte 4 none :: hr_W) ({ frames := 1, cells := 0, slots := 0, locals := 20 } : Room) [.ref (hr_ad E 6 i), .int (nI j), .int v] S o (fun u => u = hr_w S 7 i (j / 4) (hr_sb (S 7 i (j / 4)) j v)) := by
  refine hr_of (by decide) (Nat.le_of_ble_eq_true rfl) (fun p e s m below meth c C hr => ?_)
  refine hr_aload_n C dX1_setByte_0 rfl 0 rfl ?_
  refine hr_get (k := 6) (i := i) (fld := 3) C (show i < 202 by omega) rfl rfl (by decide) kU_X1 kF_X1_11 rfl rfl dX1_setByte_1 ?_
  refine hr_iload_n C dX1_setByte_4 rfl 1 rfl ?_
  refine hr_iconst (v := 2) C dX1_setByte_5 (by decide) ?_
  refine hr_ishr C dX1_setByte_6 rfl ?_
  refine hr_tp (y := nI (j / 4)) (hr_sr j hj) ?_
  refine hr_iald (k := 7) (i := i) (j / 4) C (show i < 202 by omega) rfl rfl (show j / 4 < 41 by omega) (by decide) dX1_setByte_7 ?_
  refine hr_sipush (v := 255) C dX1_setByte_8 (by decide) ?_
  refine hr_iload_n C dX1_setByte_11 rfl 1 rfl ?_
  refine hr_cSi C (ct_X1_shiftOf l E S o j (by omega)) (cwS 1 C.1.2.2.2.2 (hr_gS kM_X1_40 kT_X1_shiftOf kN_X1 kC_X1_shiftOf) rfl rfl rfl (by decide +kernel) ⟨Nat.le_of_ble_eq_true rfl, Nat.le_of_ble_eq_true rfl⟩) rfl (Nat.le_of_ble_eq_true rfl) dX1_setByte_12 ⟨Nat.le_of_ble_eq_true rfl, Nat.le_of_ble_eq_true rfl⟩ (fun r1 S2 h3 => ?_) rfl
  refine hr_tp h3.1 ?_
  refine hr_st h3.2 ?_
  refine hr_ishl C dX1_setByte_15 rfl ?_
  refine hr_iconst (v := (-1)) C dX1_setByte_16 (by decide) ?_
  refine hr_ixor C dX1_setByte_17 rfl ?_
  refine hr_iand C dX1_setByte_18 rfl ?_
  refine hr_istore_n C [(3, .int ((S 7 i (j / 4)) &&& ((255 <<< ((nI ((3 - j % 4) * 8)) &&& 31)) ^^^ (-1)))), (0, .ref (hr_ad E 6 i)), (1, .int (nI j)), (2, .int v)] dX1_setByte_19 rfl (by decide) rfl ?_
  refine hr_aload_n C dX1_setByte_20 rfl 1 rfl ?_
  refine hr_get (k := 6) (i := i) (fld := 3) C (show i < 202 by omega) rfl rfl (by decide) kU_X1 kF_X1_11 rfl rfl dX1_setByte_21 ?_
  refine hr_iload_n C dX1_setByte_24 rfl 2 rfl ?_
  refine hr_iconst (v := 2) C dX1_setByte_25 (by decide) ?_
  refine hr_ishr C dX1_setByte_26 rfl ?_
  refine hr_tp (y := nI (j / 4)) (hr_sr j hj) ?_
  refine hr_iload_n C dX1_setByte_27 rfl 0 rfl ?_
  refine hr_iload_n C dX1_setByte_28 rfl 3 rfl ?_
  refine hr_iload_n C dX1_setByte_29 rfl 2 rfl ?_
  refine hr_cSi C (ct_X1_shiftOf l E S o j (by omega)) (cwS 1 C.1.2.2.2.2 (hr_gS kM_X1_40 kT_X1_shiftOf kN_X1 kC_X1_shiftOf) rfl rfl rfl (by decide +kernel) ⟨Nat.le_of_ble_eq_true rfl, Nat.le_of_ble_eq_true rfl⟩) rfl (Nat.le_of_ble_eq_true rfl) dX1_setByte_30 ⟨Nat.le_of_ble_eq_true rfl, Nat.le_of_ble_eq_true rfl⟩ (fun r4 S5 h6 => ?_) rfl
  refine hr_tp h6.1 ?_
  refine hr_st h6.2 ?_
  refine hr_ishl C dX1_setByte_33 rfl ?_
  refine hr_ior C dX1_setByte_34 rfl ?_
  refine hr_iast (k := 7) (i := i) (j / 4) C (show i < 202 by omega) rfl rfl (show j / 4 < 41 by omega) (by decide) (by simp [hr_cell, hr_wA]) rfl dX1_setByte_35 ?_
  exact hr_vret C hr dX1_setByte_36 rfl
set_option maxHeartbeats 4000000 in
set_option maxRecDepth 100000 in
theorem ct_X1_begin (l : Launch) (E : hr_E) (S : hr_S) (o : Int64) (i : Nat) (hi : i < 202) (a b h : Int32) : hr_Mv l E yX1_begin (Cond.code yX1_begin cX1_begin 4 none :: hr_W) ({ frames := 0, cells := 0, slots := 0, locals := 0 } : Room) [.ref (hr_ad E 6 i), .int a, .int b, .int h] S o (fun u => u = hr_w (hr_w (hr_w (hr_w S 6 i 0 a) 6 i 1 b) 7 i 0 h) 6 i 2 4) := by
  refine hr_of (by decide) (Nat.le_of_ble_eq_true rfl) (fun p e s m below meth c C hr => ?_)
  refine hr_aload_n C dX1_begin_0 rfl 0 rfl ?_
  refine hr_iload_n C dX1_begin_1 rfl 1 rfl ?_
  refine hr_put (k := 6) (i := i) (fld := 0) C (show i < 202 by omega) rfl rfl (by decide) kU_X1 kF_X1_15 rfl tyX1 tyX1_ok nmX1 rfl (by decide +kernel) (Nat.le_of_ble_eq_true rfl) (by simp [hr_cell, hr_w, hr_wA, upd]) rfl dX1_begin_2 ?_
  refine hr_aload_n C dX1_begin_5 rfl 0 rfl ?_
  refine hr_iload_n C dX1_begin_6 rfl 2 rfl ?_
  refine hr_put (k := 6) (i := i) (fld := 1) C (show i < 202 by omega) rfl rfl (by decide) kU_X1 kF_X1_19 rfl tyX1 tyX1_ok nmX1 rfl (by decide +kernel) (Nat.le_of_ble_eq_true rfl) (by simp [hr_cell, hr_w, hr_wA, upd]) rfl dX1_begin_7 ?_
  refine hr_aload_n C dX1_begin_10 rfl 0 rfl ?_
  refine hr_get (k := 6) (i := i) (fld := 3) C (show i < 202 by omega) rfl rfl (by decide) kU_X1 kF_X1_11 rfl rfl dX1_begin_11 ?_
  refine hr_iconst (v := 0) C dX1_begin_14 (by decide) ?_
  refine hr_iload_n C dX1_begin_15 rfl 3 rfl ?_
  refine hr_iast (k := 7) (i := i) 0 C (show i < 202 by omega) rfl rfl (show 0 < 41 by omega) (by decide) (by simp [hr_cell, hr_wA]) rfl dX1_begin_16 ?_
  refine hr_aload_n C dX1_begin_17 rfl 0 rfl ?_
  refine hr_iconst (v := 4) C dX1_begin_18 (by decide) ?_
  refine hr_put (k := 6) (i := i) (fld := 2) C (show i < 202 by omega) rfl rfl (by decide) kU_X1 kF_X1_22 rfl tyX1 tyX1_ok nmX1 rfl (by decide +kernel) (Nat.le_of_ble_eq_true rfl) (by simp [hr_cell, hr_w, hr_wA, upd]) rfl dX1_begin_19 ?_
  exact hr_vret C hr dX1_begin_22 rfl
end
section
/-! the class's table t: metric 9, next 10, age 11, silent 12, changed 13 -/
def tb_adopt (S : hr_S) (t d : Nat) (told fr : Int32) : hr_S := hr_w (hr_w (hr_w (hr_w (hr_w S 9 t d told) 10 t d fr) 11 t d 0) 12 t d 0) 13 t d 1
def tb_gone (S : hr_S) (t d : Nat) : hr_S := hr_w (hr_w (hr_w (hr_w S 9 t d 16) 11 t d 0) 12 t d 20) 13 t d 1
def tb_forget (S : hr_S) (t d : Nat) : hr_S := hr_w (hr_w S 9 t d (-1)) 13 t d 0
def tb_hfn1 (S : hr_S) (t d : Nat) (told : Int32) : hr_S := if told < 16 then hr_w S 11 t d 0 else S
def tb_hfn (S : hr_S) (t d : Nat) (told : Int32) : hr_S := if told = S 9 t d then tb_hfn1 S t d told else if told = 16 then tb_gone (tb_hfn1 S t d told) t d else hr_w (hr_w (tb_hfn1 S t d told) 9 t d told) 13 t d 1
def tb_hear (S : hr_S) (t d : Nat) (told fr : Int32) : hr_S := if ¬ S 9 t d = -1 then (if S 12 t d = 0 then (if S 10 t d = fr then tb_hfn S t d told else if told < S 9 t d then tb_adopt S t d told fr else S) else S) else (if told < 16 then tb_adopt S t d told fr else S)
def tb_age1 (S : hr_S) (t d : Nat) : hr_S := hr_w S 11 t d (S 11 t d + 1)
def tb_age2 (S : hr_S) (t d : Nat) : hr_S := if S 12 t d ≤ 0 then tb_age1 S t d else hr_w (tb_age1 S t d) 12 t d (S 12 t d - 1)
def tb_age (S : hr_S) (t d : Nat) : hr_S := if 16 ≤ S 9 t d then (if S 11 t d + 1 < 50 then tb_age2 S t d else tb_forget (tb_age2 S t d) t d) else (if S 11 t d + 1 < 60 then tb_age2 S t d else tb_gone (tb_age2 S t d) t d)
def tb_grow (S : hr_S) (t : Nat) : Nat → hr_S
  | 0 => S
  | d + 1 => if ¬ tb_grow S t d 9 t d = -1 then tb_age (tb_grow S t d) t d else tb_grow S t d
def tb_fall (S : hr_S) (t : Nat) : Nat → hr_S
  | 0 => S
  | d + 1 => tb_forget (tb_fall S t d) t d
def tb_clr (S : hr_S) (t : Nat) : Nat → hr_S
  | 0 => S
  | d + 1 => hr_w (tb_clr S t d) 13 t d 0
/-- loseNext: the numbers and how many are gone -/
def tb_lose (S : hr_S) (t : Nat) (x : Int32) : Nat → hr_S × Nat
  | 0 => (S, 0)
  | d + 1 => if (¬ (tb_lose S t x d).1 9 t d = -1 ∧ (tb_lose S t x d).1 9 t d < 16) ∧ (tb_lose S t x d).1 10 t d = x ∧ (tb_lose S t x d).1 12 t d = 0 then (tb_gone (tb_lose S t x d).1 t d, (tb_lose S t x d).2 + 1) else tb_lose S t x d
theorem tb_lose_le (S : hr_S) (t : Nat) (x : Int32) : ∀ d, (tb_lose S t x d).2 ≤ d
  | 0 => Nat.le_refl 0
  | d + 1 => by
    have := tb_lose_le S t x d
    unfold tb_lose
    split
    · show (tb_lose S t x d).2 + 1 ≤ d + 1; omega
    · omega
def tb_told (S : hr_S) (t d : Nat) (x : Int32) : Int32 := if S 10 t d = x then 16 else if (16 : Int32) < S 9 t d + 1 then 16 else S 9 t d + 1
def tb_read (S : hr_S) (t d what : Nat) : Int32 := if ¬ S 9 t d = -1 then (if what = 0 then S 9 t d else if what = 1 then S 10 t d else if what = 2 then S 11 t d else if what = 3 then (if S 13 t d = 0 then 0 else 1) else S 12 t d) else -1
set_option maxHeartbeats 4000000 in
set_option maxRecDepth 100000 in
theorem ct_X2_has (l : Launch) (E : hr_E) (S : hr_S) (o : Int64) (t : Nat) (ht : t < 8) (d : Nat) (hd : d < 8) : hr_Mi l E yX2_has (Cond.code yX2_has cX2_has 2 (some .boolean) :: hr_W) ({ frames := 0, cells := 0, slots := 0, locals := 0 } : Room) [.ref (hr_ad E 8 t), .int (nI d)] S o (fun r u => r = (if ¬ S 9 t d = -1 then 1 else 0) ∧ u = S) := by
  refine hr_of (by decide) (Nat.le_of_ble_eq_true rfl) (fun p e s m below meth c C hr => ?_)
  refine hr_aload_n C dX2_has_0 rfl 0 rfl ?_
  refine hr_get (k := 8) (i := t) (fld := 0) C (show t < 8 by omega) rfl rfl (by decide) kU_X2 kF_X2_9 rfl rfl dX2_has_1 ?_
  refine hr_iload_n C dX2_has_4 rfl 1 rfl ?_
  refine hr_iald (k := 9) (i := t) d C (show t < 8 by omega) rfl rfl (show d < 8 by omega) (by decide) dX2_has_5 ?_
  refine hr_iconst (v := (-1)) C dX2_has_6 (by decide) ?_
  refine hr_icmp_eq C 14 dX2_has_7 (by decide) (fun c7 => ?_) (fun c7 => ?_)
  · skip
    refine hr_iconst (v := 0) C dX2_has_14 (by decide) ?_
    exact hr_zret C hr rfl dX2_has_15 ⟨by first | (simp only [c7, and_true, true_and, and_false, false_and, or_true, true_or, or_false, false_or, if_true, if_false, reduceIte, not_true_eq_false, not_false_eq_true, and_self]; done) | (rw [if_neg (fun h => by have := h.1; omega)]) | (rw [if_neg (fun h => by have := h.2.1; omega)]), rfl⟩
  · skip
    refine hr_iconst (v := 1) C dX2_has_10 (by decide) ?_
    refine hr_goto C 15 dX2_has_11 (by decide) ?_
    exact hr_zret C hr rfl dX2_has_15 ⟨by first | (simp only [c7, and_true, true_and, and_false, false_and, or_true, true_or, or_false, false_or, if_true, if_false, reduceIte, not_true_eq_false, not_false_eq_true, and_self]; done) | (rw [if_neg (fun h => by have := h.1; omega)]) | (rw [if_neg (fun h => by have := h.2.1; omega)]), rfl⟩
set_option maxHeartbeats 4000000 in
set_option maxRecDepth 100000 in
theorem ct_X2_reaches (l : Launch) (E : hr_E) (S : hr_S) (o : Int64) (t : Nat) (ht : t < 8) (d : Nat) (hd : d < 8) : hr_Mi l E yX2_reaches (Cond.code yX2_reaches cX2_reaches 2 (some .boolean) :: hr_W) ({ frames := 1, cells := 0, slots := 0, locals := 21 } : Room) [.ref (hr_ad E 8 t), .int (nI d)] S o (fun r u => r = (if (¬ S 9 t d = -1) ∧ S 9 t d < 16 then 1 else 0) ∧ u = S) := by
  refine hr_of (by decide) (Nat.le_of_ble_eq_true rfl) (fun p e s m below meth c C hr => ?_)
  refine hr_aload_n C dX2_reaches_0 rfl 0 rfl ?_
  refine hr_iload_n C dX2_reaches_1 rfl 1 rfl ?_
  refine hr_cVi C (ct_X2_has l E S o t (by omega) d (by omega)) (cwV 1 C.1.2.2.2.2 (hr_gV kM_X2_34 kI_X2_has kS_X2_has kN_X2 kC_X2_has) rfl rfl rfl (by decide +kernel) ⟨Nat.le_of_ble_eq_true rfl, Nat.le_of_ble_eq_true rfl⟩) (show t < 8 by omega) rfl rfl rfl (Nat.le_of_ble_eq_true rfl) dX2_reaches_2 ⟨Nat.le_of_ble_eq_true rfl, Nat.le_of_ble_eq_true rfl⟩ (fun r1 S2 h3 => ?_) rfl
  refine hr_tp h3.1 ?_
  refine hr_st h3.2 ?_
  refine hr_if_eq C 23 dX2_reaches_5 (by decide) (fun c5 => ?_) (fun c5 => ?_)
  · skip
    have c5 : ¬ (¬ S 9 t d = -1) := hr_bz.mp c5
    refine hr_iconst (v := 0) C dX2_reaches_23 (by decide) ?_
    exact hr_zret C hr rfl dX2_reaches_24 ⟨by first | (simp only [c5, and_true, true_and, and_false, false_and, or_true, true_or, or_false, false_or, if_true, if_false, reduceIte, not_true_eq_false, not_false_eq_true, and_self]; done) | (rw [if_neg (fun h => by have := h.1; omega)]) | (rw [if_neg (fun h => by have := h.2.1; omega)]), rfl⟩
  · skip
    have c5 : ¬ S 9 t d = -1 := hr_bn.mp c5
    refine hr_aload_n C dX2_reaches_8 rfl 0 rfl ?_
    refine hr_get (k := 8) (i := t) (fld := 0) C (show t < 8 by omega) rfl rfl (by decide) kU_X2 kF_X2_9 rfl rfl dX2_reaches_9 ?_
    refine hr_iload_n C dX2_reaches_12 rfl 1 rfl ?_
    refine hr_iald (k := 9) (i := t) d C (show t < 8 by omega) rfl rfl (show d < 8 by omega) (by decide) dX2_reaches_13 ?_
    refine hr_bipush (v := 16) C dX2_reaches_14 (by decide) ?_
    refine hr_icmp_ge C 23 dX2_reaches_16 (by decide) (fun c16 => ?_) (fun c16 => ?_)
    · skip
      have c16n : ¬ (S 9 t d) < 16 := Int32.not_lt.mpr c16
      refine hr_iconst (v := 0) C dX2_reaches_23 (by decide) ?_
      exact hr_zret C hr rfl dX2_reaches_24 ⟨by first | (simp only [c5, c16, c16n, and_true, true_and, and_false, false_and, or_true, true_or, or_false, false_or, if_true, if_false, reduceIte, not_true_eq_false, not_false_eq_true, and_self]; done) | (rw [if_neg (fun h => by have := h.1; omega)]) | (rw [if_neg (fun h => by have := h.2.1; omega)]), rfl⟩
    · skip
      have c16n : (S 9 t d) < 16 := Int32.not_le.mp c16
      refine hr_iconst (v := 1) C dX2_reaches_19 (by decide) ?_
      refine hr_goto C 24 dX2_reaches_20 (by decide) ?_
      exact hr_zret C hr rfl dX2_reaches_24 ⟨by first | (simp only [c5, c16, c16n, and_true, true_and, and_false, false_and, or_true, true_or, or_false, false_or, if_true, if_false, reduceIte, not_true_eq_false, not_false_eq_true, and_self]; done) | (rw [if_neg (fun h => by have := h.1; omega)]) | (rw [if_neg (fun h => by have := h.2.1; omega)]), rfl⟩
set_option maxHeartbeats 4000000 in
set_option maxRecDepth 100000 in
theorem ct_X2_metricTold (l : Launch) (E : hr_E) (S : hr_S) (o : Int64) (t : Nat) (ht : t < 8) (d : Nat) (hd : d < 8) (x : Int32) : hr_Mi l E yX2_metricTold (Cond.code yX2_metricTold cX2_metricTold 3 (some .int) :: hr_W) ({ frames := 1, cells := 0, slots := 0, locals := 24 } : Room) [.ref (hr_ad E 8 t), .int (nI d), .int x] S o (fun r u => r = tb_told S t d x ∧ u = S) := by
  refine hr_of (by decide) (Nat.le_of_ble_eq_true rfl) (fun p e s m below meth c C hr => ?_)
  refine hr_aload_n C dX2_metricTold_0 rfl 0 rfl ?_
  refine hr_get (k := 8) (i := t) (fld := 1) C (show t < 8 by omega) rfl rfl (by decide) kU_X2 kF_X2_15 rfl rfl dX2_metricTold_1 ?_
  refine hr_iload_n C dX2_metricTold_4 rfl 1 rfl ?_
  refine hr_iald (k := 10) (i := t) d C (show t < 8 by omega) rfl rfl (show d < 8 by omega) (by decide) dX2_metricTold_5 ?_
  refine hr_iload_n C dX2_metricTold_6 rfl 2 rfl ?_
  refine hr_icmp_ne C 15 dX2_metricTold_7 (by decide) (fun c7 => ?_) (fun c7 => ?_)
  · skip
    refine hr_aload_n C dX2_metricTold_15 rfl 0 rfl ?_
    refine hr_get (k := 8) (i := t) (fld := 0) C (show t < 8 by omega) rfl rfl (by decide) kU_X2 kF_X2_9 rfl rfl dX2_metricTold_16 ?_
    refine hr_iload_n C dX2_metricTold_19 rfl 1 rfl ?_
    refine hr_iald (k := 9) (i := t) d C (show t < 8 by omega) rfl rfl (show d < 8 by omega) (by decide) dX2_metricTold_20 ?_
    refine hr_iconst (v := 1) C dX2_metricTold_21 (by decide) ?_
    refine hr_iadd C dX2_metricTold_22 rfl ?_
    refine hr_bipush (v := 16) C dX2_metricTold_23 (by decide) ?_
    refine hr_min C kM_X2_38 kT_min kN_Math kC_min (Nat.le_of_ble_eq_true rfl) (Nat.le_of_ble_eq_true rfl) (Nat.le_of_ble_eq_true rfl) (Nat.le_of_ble_eq_true rfl) rfl dX2_metricTold_25 ?_
    exact hr_iret C hr dX2_metricTold_28 ⟨by unfold tb_told; simp only [c7, if_true, if_false, reduceIte], rfl⟩
  · skip
    refine hr_bipush (v := 16) C dX2_metricTold_10 (by decide) ?_
    refine hr_goto C 28 dX2_metricTold_12 (by decide) ?_
    exact hr_iret C hr dX2_metricTold_28 ⟨by unfold tb_told; simp only [c7, if_true, if_false, reduceIte], rfl⟩
set_option maxHeartbeats 4000000 in
set_option maxRecDepth 100000 in
theorem ct_X2_adopt (l : Launch) (E : hr_E) (S : hr_S) (o : Int64) (t : Nat) (ht : t < 8) (d : Nat) (hd : d < 8) (a b : Int32) : hr_Mv l E yX2_adopt (Cond.code yX2_adopt cX2_adopt 4 none :: hr_W) ({ frames := 0, cells := 0, slots := 0, locals := 0 } : Room) [.ref (hr_ad E 8 t), .int (nI d), .int a, .int b] S o (fun u => u = tb_adopt S t d a b) := by
  refine hr_of (by decide) (Nat.le_of_ble_eq_true rfl) (fun p e s m below meth c C hr => ?_)
  refine hr_aload_n C dX2_adopt_0 rfl 0 rfl ?_
  refine hr_get (k := 8) (i := t) (fld := 0) C (show t < 8 by omega) rfl rfl (by decide) kU_X2 kF_X2_9 rfl rfl dX2_adopt_1 ?_
  refine hr_iload_n C dX2_adopt_4 rfl 1 rfl ?_
  refine hr_iload_n C dX2_adopt_5 rfl 2 rfl ?_
  refine hr_iast (k := 9) (i := t) d C (show t < 8 by omega) rfl rfl (show d < 8 by omega) (by decide) (by simp [hr_cell, hr_wA]) rfl dX2_adopt_6 ?_
  refine hr_aload_n C dX2_adopt_7 rfl 0 rfl ?_
  refine hr_get (k := 8) (i := t) (fld := 1) C (show t < 8 by omega) rfl rfl (by decide) kU_X2 kF_X2_15 rfl rfl dX2_adopt_8 ?_
  refine hr_iload_n C dX2_adopt_11 rfl 1 rfl ?_
  refine hr_iload_n C dX2_adopt_12 rfl 3 rfl ?_
  refine hr_iast (k := 10) (i := t) d C (show t < 8 by omega) rfl rfl (show d < 8 by omega) (by decide) (by simp [hr_cell, hr_wA]) rfl dX2_adopt_13 ?_
  refine hr_aload_n C dX2_adopt_14 rfl 0 rfl ?_
  refine hr_get (k := 8) (i := t) (fld := 2) C (show t < 8 by omega) rfl rfl (by decide) kU_X2 kF_X2_18 rfl rfl dX2_adopt_15 ?_
  refine hr_iload_n C dX2_adopt_18 rfl 1 rfl ?_
  refine hr_iconst (v := 0) C dX2_adopt_19 (by decide) ?_
  refine hr_iast (k := 11) (i := t) d C (show t < 8 by omega) rfl rfl (show d < 8 by omega) (by decide) (by simp [hr_cell, hr_wA]) rfl dX2_adopt_20 ?_
  refine hr_aload_n C dX2_adopt_21 rfl 0 rfl ?_
  refine hr_get (k := 8) (i := t) (fld := 3) C (show t < 8 by omega) rfl rfl (by decide) kU_X2 kF_X2_21 rfl rfl dX2_adopt_22 ?_
  refine hr_iload_n C dX2_adopt_25 rfl 1 rfl ?_
  refine hr_iconst (v := 0) C dX2_adopt_26 (by decide) ?_
  refine hr_iast (k := 12) (i := t) d C (show t < 8 by omega) rfl rfl (show d < 8 by omega) (by decide) (by simp [hr_cell, hr_wA]) rfl dX2_adopt_27 ?_
  refine hr_aload_n C dX2_adopt_28 rfl 0 rfl ?_
  refine hr_get (k := 8) (i := t) (fld := 4) C (show t < 8 by omega) rfl rfl (by decide) kU_X2 kF_X2_24 rfl rfl dX2_adopt_29 ?_
  refine hr_iload_n C dX2_adopt_32 rfl 1 rfl ?_
  refine hr_iconst (v := 1) C dX2_adopt_33 (by decide) ?_
  refine hr_zast (k := 13) (i := t) d C (show t < 8 by omega) rfl rfl (show d < 8 by omega) (by decide) (by simp [hr_cell, hr_wA]) rfl dX2_adopt_34 ?_
  exact hr_vret C hr dX2_adopt_35 rfl
set_option maxHeartbeats 4000000 in
set_option maxRecDepth 100000 in
theorem ct_X2_becomeGone (l : Launch) (E : hr_E) (S : hr_S) (o : Int64) (t : Nat) (ht : t < 8) (d : Nat) (hd : d < 8) : hr_Mv l E yX2_becomeGone (Cond.code yX2_becomeGone cX2_becomeGone 2 none :: hr_W) ({ frames := 0, cells := 0, slots := 0, locals := 0 } : Room) [.ref (hr_ad E 8 t), .int (nI d)] S o (fun u => u = tb_gone S t d) := by
  refine hr_of (by decide) (Nat.le_of_ble_eq_true rfl) (fun p e s m below meth c C hr => ?_)
  refine hr_aload_n C dX2_becomeGone_0 rfl 0 rfl ?_
  refine hr_get (k := 8) (i := t) (fld := 0) C (show t < 8 by omega) rfl rfl (by decide) kU_X2 kF_X2_9 rfl rfl dX2_becomeGone_1 ?_
  refine hr_iload_n C dX2_becomeGone_4 rfl 1 rfl ?_
  refine hr_bipush (v := 16) C dX2_becomeGone_5 (by decide) ?_
  refine hr_iast (k := 9) (i := t) d C (show t < 8 by omega) rfl rfl (show d < 8 by omega) (by decide) (by simp [hr_cell, hr_wA]) rfl dX2_becomeGone_7 ?_
  refine hr_aload_n C dX2_becomeGone_8 rfl 0 rfl ?_
  refine hr_get (k := 8) (i := t) (fld := 2) C (show t < 8 by omega) rfl rfl (by decide) kU_X2 kF_X2_18 rfl rfl dX2_becomeGone_9 ?_
  refine hr_iload_n C dX2_becomeGone_12 rfl 1 rfl ?_
  refine hr_iconst (v := 0) C dX2_becomeGone_13 (by decide) ?_
  refine hr_iast (k := 11) (i := t) d C (show t < 8 by omega) rfl rfl (show d < 8 by omega) (by decide) (by simp [hr_cell, hr_wA]) rfl dX2_becomeGone_14 ?_
  refine hr_aload_n C dX2_becomeGone_15 rfl 0 rfl ?_
  refine hr_get (k := 8) (i := t) (fld := 3) C (show t < 8 by omega) rfl rfl (by decide) kU_X2 kF_X2_21 rfl rfl dX2_becomeGone_16 ?_
  refine hr_iload_n C dX2_becomeGone_19 rfl 1 rfl ?_
  refine hr_bipush (v := 20) C dX2_becomeGone_20 (by decide) ?_
  refine hr_iast (k := 12) (i := t) d C (show t < 8 by omega) rfl rfl (show d < 8 by omega) (by decide) (by simp [hr_cell, hr_wA]) rfl dX2_becomeGone_22 ?_
  refine hr_aload_n C dX2_becomeGone_23 rfl 0 rfl ?_
  refine hr_get (k := 8) (i := t) (fld := 4) C (show t < 8 by omega) rfl rfl (by decide) kU_X2 kF_X2_24 rfl rfl dX2_becomeGone_24 ?_
  refine hr_iload_n C dX2_becomeGone_27 rfl 1 rfl ?_
  refine hr_iconst (v := 1) C dX2_becomeGone_28 (by decide) ?_
  refine hr_zast (k := 13) (i := t) d C (show t < 8 by omega) rfl rfl (show d < 8 by omega) (by decide) (by simp [hr_cell, hr_wA]) rfl dX2_becomeGone_29 ?_
  exact hr_vret C hr dX2_becomeGone_30 rfl
set_option maxHeartbeats 4000000 in
set_option maxRecDepth 100000 in
theorem ct_X2_forget (l : Launch) (E : hr_E) (S : hr_S) (o : Int64) (t : Nat) (ht : t < 8) (d : Nat) (hd : d < 8) : hr_Mv l E yX2_forget (Cond.code yX2_forget cX2_forget 2 none :: hr_W) ({ frames := 0, cells := 0, slots := 0, locals := 0 } : Room) [.ref (hr_ad E 8 t), .int (nI d)] S o (fun u => u = tb_forget S t d) := by
  refine hr_of (by decide) (Nat.le_of_ble_eq_true rfl) (fun p e s m below meth c C hr => ?_)
  refine hr_aload_n C dX2_forget_0 rfl 0 rfl ?_
  refine hr_get (k := 8) (i := t) (fld := 0) C (show t < 8 by omega) rfl rfl (by decide) kU_X2 kF_X2_9 rfl rfl dX2_forget_1 ?_
  refine hr_iload_n C dX2_forget_4 rfl 1 rfl ?_
  refine hr_iconst (v := (-1)) C dX2_forget_5 (by decide) ?_
  refine hr_iast (k := 9) (i := t) d C (show t < 8 by omega) rfl rfl (show d < 8 by omega) (by decide) (by simp [hr_cell, hr_wA]) rfl dX2_forget_6 ?_
  refine hr_aload_n C dX2_forget_7 rfl 0 rfl ?_
  refine hr_get (k := 8) (i := t) (fld := 4) C (show t < 8 by omega) rfl rfl (by decide) kU_X2 kF_X2_24 rfl rfl dX2_forget_8 ?_
  refine hr_iload_n C dX2_forget_11 rfl 1 rfl ?_
  refine hr_iconst (v := 0) C dX2_forget_12 (by decide) ?_
  refine hr_zast (k := 13) (i := t) d C (show t < 8 by omega) rfl rfl (show d < 8 by omega) (by decide) (by simp [hr_cell, hr_wA]) rfl dX2_forget_13 ?_
  exact hr_vret C hr dX2_forget_14 rfl
set_option maxHeartbeats 4000000 in
set_option maxRecDepth 100000 in
theorem ct_X2_hearFromNext (l : Launch) (E : hr_E) (S : hr_S) (o : Int64) (t : Nat) (ht : t < 8) (d : Nat) (hd : d < 8) (a : Int32) : hr_Mv l E yX2_hearFromNext (Cond.code yX2_hearFromNext cX2_hearFromNext 3 none :: hr_W) ({ frames := 1, cells := 0, slots := 0, locals := 21 } : Room) [.ref (hr_ad E 8 t), .int (nI d), .int a] S o (fun u => u = tb_hfn S t d a) := by
  refine hr_of (by decide) (Nat.le_of_ble_eq_true rfl) (fun p e s m below meth c C hr => ?_)
  refine hr_iload_n C dX2_hearFromNext_0 rfl 2 rfl ?_
  refine hr_bipush (v := 16) C dX2_hearFromNext_1 (by decide) ?_
  refine hr_icmp_ge C 13 dX2_hearFromNext_3 (by decide) (fun c3 => ?_) (fun c3 => ?_)
  · skip
    have c3n : ¬ a < 16 := Int32.not_lt.mpr c3
    refine hr_iload_n C dX2_hearFromNext_13 rfl 2 rfl ?_
    refine hr_aload_n C dX2_hearFromNext_14 rfl 0 rfl ?_
    refine hr_get (k := 8) (i := t) (fld := 0) C (show t < 8 by omega) rfl rfl (by decide) kU_X2 kF_X2_9 rfl rfl dX2_hearFromNext_15 ?_
    refine hr_iload_n C dX2_hearFromNext_18 rfl 1 rfl ?_
    refine hr_iald (k := 9) (i := t) d C (show t < 8 by omega) rfl rfl (show d < 8 by omega) (by decide) dX2_hearFromNext_19 ?_
    refine hr_icmp_ne C 24 dX2_hearFromNext_20 (by decide) (fun c20 => ?_) (fun c20 => ?_)
    · skip
      refine hr_iload_n C dX2_hearFromNext_24 rfl 2 rfl ?_
      refine hr_bipush (v := 16) C dX2_hearFromNext_25 (by decide) ?_
      refine hr_icmp_ne C 38 dX2_hearFromNext_27 (by decide) (fun c27 => ?_) (fun c27 => ?_)
      · skip
        refine hr_aload_n C dX2_hearFromNext_38 rfl 0 rfl ?_
        refine hr_get (k := 8) (i := t) (fld := 0) C (show t < 8 by omega) rfl rfl (by decide) kU_X2 kF_X2_9 rfl rfl dX2_hearFromNext_39 ?_
        refine hr_iload_n C dX2_hearFromNext_42 rfl 1 rfl ?_
        refine hr_iload_n C dX2_hearFromNext_43 rfl 2 rfl ?_
        refine hr_iast (k := 9) (i := t) d C (show t < 8 by omega) rfl rfl (show d < 8 by omega) (by decide) (by simp [hr_cell, hr_wA]) rfl dX2_hearFromNext_44 ?_
        refine hr_aload_n C dX2_hearFromNext_45 rfl 0 rfl ?_
        refine hr_get (k := 8) (i := t) (fld := 4) C (show t < 8 by omega) rfl rfl (by decide) kU_X2 kF_X2_24 rfl rfl dX2_hearFromNext_46 ?_
        refine hr_iload_n C dX2_hearFromNext_49 rfl 1 rfl ?_
        refine hr_iconst (v := 1) C dX2_hearFromNext_50 (by decide) ?_
        refine hr_zast (k := 13) (i := t) d C (show t < 8 by omega) rfl rfl (show d < 8 by omega) (by decide) (by simp [hr_cell, hr_wA]) rfl dX2_hearFromNext_51 ?_
        exact hr_vret C hr dX2_hearFromNext_52 (by unfold tb_hfn tb_hfn1; repeat (first | rw [if_pos c3] | rw [if_neg c3] | rw [if_neg (not_not_intro c3)] | rw [if_pos c3n] | rw [if_neg c3n] | rw [if_neg (not_not_intro c3n)] | rw [if_pos c20] | rw [if_neg c20] | rw [if_neg (not_not_intro c20)] | rw [if_pos c27] | rw [if_neg c27] | rw [if_neg (not_not_intro c27)]); try rfl)
      · skip
        refine hr_aload_n C dX2_hearFromNext_30 rfl 0 rfl ?_
        refine hr_iload_n C dX2_hearFromNext_31 rfl 1 rfl ?_
        refine hr_cVv C (ct_X2_becomeGone l E S o t (by omega) d (by omega)) (cwV 1 C.1.2.2.2.2 (hr_gV kM_X2_52 kI_X2_becomeGone kS_X2_becomeGone kN_X2 kC_X2_becomeGone) rfl rfl rfl (by decide +kernel) ⟨Nat.le_of_ble_eq_true rfl, Nat.le_of_ble_eq_true rfl⟩) (show t < 8 by omega) rfl rfl rfl (Nat.le_of_ble_eq_true rfl) dX2_hearFromNext_32 ⟨Nat.le_of_ble_eq_true rfl, Nat.le_of_ble_eq_true rfl⟩ (fun S2 h3 => ?_) rfl
        refine hr_st h3 ?_
        refine hr_goto C 52 dX2_hearFromNext_35 (by decide) ?_
        exact hr_vret C hr dX2_hearFromNext_52 (by unfold tb_hfn tb_hfn1; repeat (first | rw [if_pos c3] | rw [if_neg c3] | rw [if_neg (not_not_intro c3)] | rw [if_pos c3n] | rw [if_neg c3n] | rw [if_neg (not_not_intro c3n)] | rw [if_pos c20] | rw [if_neg c20] | rw [if_neg (not_not_intro c20)] | rw [if_pos c27] | rw [if_neg c27] | rw [if_neg (not_not_intro c27)]); try rfl)
    · skip
      exact hr_vret C hr dX2_hearFromNext_23 (by unfold tb_hfn tb_hfn1; repeat (first | rw [if_pos c3] | rw [if_neg c3] | rw [if_neg (not_not_intro c3)] | rw [if_pos c3n] | rw [if_neg c3n] | rw [if_neg (not_not_intro c3n)] | rw [if_pos c20] | rw [if_neg c20] | rw [if_neg (not_not_intro c20)]); try rfl)
  · skip
    have c3n : a < 16 := Int32.not_le.mp c3
    refine hr_aload_n C dX2_hearFromNext_6 rfl 0 rfl ?_
    refine hr_get (k := 8) (i := t) (fld := 2) C (show t < 8 by omega) rfl rfl (by decide) kU_X2 kF_X2_18 rfl rfl dX2_hearFromNext_7 ?_
    refine hr_iload_n C dX2_hearFromNext_10 rfl 1 rfl ?_
    refine hr_iconst (v := 0) C dX2_hearFromNext_11 (by decide) ?_
    refine hr_iast (k := 11) (i := t) d C (show t < 8 by omega) rfl rfl (show d < 8 by omega) (by decide) (by simp [hr_cell, hr_wA]) rfl dX2_hearFromNext_12 ?_
    refine hr_iload_n C dX2_hearFromNext_13 rfl 2 rfl ?_
    refine hr_aload_n C dX2_hearFromNext_14 rfl 0 rfl ?_
    refine hr_get (k := 8) (i := t) (fld := 0) C (show t < 8 by omega) rfl rfl (by decide) kU_X2 kF_X2_9 rfl rfl dX2_hearFromNext_15 ?_
    refine hr_iload_n C dX2_hearFromNext_18 rfl 1 rfl ?_
    refine hr_iald (k := 9) (i := t) d C (show t < 8 by omega) rfl rfl (show d < 8 by omega) (by decide) dX2_hearFromNext_19 ?_
    refine hr_tp (y := S 9 t d) rfl ?_
    refine hr_icmp_ne C 24 dX2_hearFromNext_20 (by decide) (fun c20 => ?_) (fun c20 => ?_)
    · skip
      refine hr_iload_n C dX2_hearFromNext_24 rfl 2 rfl ?_
      refine hr_bipush (v := 16) C dX2_hearFromNext_25 (by decide) ?_
      refine hr_icmp_ne C 38 dX2_hearFromNext_27 (by decide) (fun c27 => ?_) (fun c27 => ?_)
      · skip
        refine hr_aload_n C dX2_hearFromNext_38 rfl 0 rfl ?_
        refine hr_get (k := 8) (i := t) (fld := 0) C (show t < 8 by omega) rfl rfl (by decide) kU_X2 kF_X2_9 rfl rfl dX2_hearFromNext_39 ?_
        refine hr_iload_n C dX2_hearFromNext_42 rfl 1 rfl ?_
        refine hr_iload_n C dX2_hearFromNext_43 rfl 2 rfl ?_
        refine hr_iast (k := 9) (i := t) d C (show t < 8 by omega) rfl rfl (show d < 8 by omega) (by decide) (by simp [hr_cell, hr_wA]) rfl dX2_hearFromNext_44 ?_
        refine hr_aload_n C dX2_hearFromNext_45 rfl 0 rfl ?_
        refine hr_get (k := 8) (i := t) (fld := 4) C (show t < 8 by omega) rfl rfl (by decide) kU_X2 kF_X2_24 rfl rfl dX2_hearFromNext_46 ?_
        refine hr_iload_n C dX2_hearFromNext_49 rfl 1 rfl ?_
        refine hr_iconst (v := 1) C dX2_hearFromNext_50 (by decide) ?_
        refine hr_zast (k := 13) (i := t) d C (show t < 8 by omega) rfl rfl (show d < 8 by omega) (by decide) (by simp [hr_cell, hr_wA]) rfl dX2_hearFromNext_51 ?_
        exact hr_vret C hr dX2_hearFromNext_52 (by unfold tb_hfn tb_hfn1; repeat (first | rw [if_pos c3] | rw [if_neg c3] | rw [if_neg (not_not_intro c3)] | rw [if_pos c3n] | rw [if_neg c3n] | rw [if_neg (not_not_intro c3n)] | rw [if_pos c20] | rw [if_neg c20] | rw [if_neg (not_not_intro c20)] | rw [if_pos c27] | rw [if_neg c27] | rw [if_neg (not_not_intro c27)]); try rfl)
      · skip
        refine hr_aload_n C dX2_hearFromNext_30 rfl 0 rfl ?_
        refine hr_iload_n C dX2_hearFromNext_31 rfl 1 rfl ?_
        refine hr_cVv C (ct_X2_becomeGone l E (hr_w S 11 t d 0) o t (by omega) d (by omega)) (cwV 1 C.1.2.2.2.2 (hr_gV kM_X2_52 kI_X2_becomeGone kS_X2_becomeGone kN_X2 kC_X2_becomeGone) rfl rfl rfl (by decide +kernel) ⟨Nat.le_of_ble_eq_true rfl, Nat.le_of_ble_eq_true rfl⟩) (show t < 8 by omega) rfl rfl rfl (Nat.le_of_ble_eq_true rfl) dX2_hearFromNext_32 ⟨Nat.le_of_ble_eq_true rfl, Nat.le_of_ble_eq_true rfl⟩ (fun S5 h6 => ?_) rfl
        refine hr_st h6 ?_
        refine hr_goto C 52 dX2_hearFromNext_35 (by decide) ?_
        exact hr_vret C hr dX2_hearFromNext_52 (by unfold tb_hfn tb_hfn1; repeat (first | rw [if_pos c3] | rw [if_neg c3] | rw [if_neg (not_not_intro c3)] | rw [if_pos c3n] | rw [if_neg c3n] | rw [if_neg (not_not_intro c3n)] | rw [if_pos c20] | rw [if_neg c20] | rw [if_neg (not_not_intro c20)] | rw [if_pos c27] | rw [if_neg c27] | rw [if_neg (not_not_intro c27)]); try rfl)
    · skip
      exact hr_vret C hr dX2_hearFromNext_23 (by unfold tb_hfn tb_hfn1; repeat (first | rw [if_pos c3] | rw [if_neg c3] | rw [if_neg (not_not_intro c3)] | rw [if_pos c3n] | rw [if_neg c3n] | rw [if_neg (not_not_intro c3n)] | rw [if_pos c20] | rw [if_neg c20] | rw [if_neg (not_not_intro c20)]); try rfl)
set_option maxHeartbeats 4000000 in
set_option maxRecDepth 100000 in
theorem ct_X2_hear (l : Launch) (E : hr_E) (S : hr_S) (o : Int64) (t : Nat) (ht : t < 8) (d : Nat) (hd : d < 8) (a b : Int32) : hr_Mv l E yX2_hear (Cond.code yX2_hear cX2_hear 4 none :: hr_W) ({ frames := 2, cells := 0, slots := 0, locals := 43 } : Room) [.ref (hr_ad E 8 t), .int (nI d), .int a, .int b] S o (fun u => u = tb_hear S t d a b) := by
  refine hr_of (by decide) (Nat.le_of_ble_eq_true rfl) (fun p e s m below meth c C hr => ?_)
  refine hr_aload_n C dX2_hear_0 rfl 0 rfl ?_
  refine hr_iload_n C dX2_hear_1 rfl 1 rfl ?_
  refine hr_cVi C (ct_X2_has l E S o t (by omega) d (by omega)) (cwV 1 C.1.2.2.2.2 (hr_gV kM_X2_34 kI_X2_has kS_X2_has kN_X2 kC_X2_has) rfl rfl rfl (by decide +kernel) ⟨Nat.le_of_ble_eq_true rfl, Nat.le_of_ble_eq_true rfl⟩) (show t < 8 by omega) rfl rfl rfl (Nat.le_of_ble_eq_true rfl) dX2_hear_2 ⟨Nat.le_of_ble_eq_true rfl, Nat.le_of_ble_eq_true rfl⟩ (fun r1 S2 h3 => ?_) rfl
  refine hr_tp h3.1 ?_
  refine hr_st h3.2 ?_
  refine hr_if_ne C 24 dX2_hear_5 (by decide) (fun c5 => ?_) (fun c5 => ?_)
  · skip
    have c5 : ¬ S 9 t d = -1 := hr_bn.mp c5
    refine hr_aload_n C dX2_hear_24 rfl 0 rfl ?_
    refine hr_get (k := 8) (i := t) (fld := 3) C (show t < 8 by omega) rfl rfl (by decide) kU_X2 kF_X2_21 rfl rfl dX2_hear_25 ?_
    refine hr_iload_n C dX2_hear_28 rfl 1 rfl ?_
    refine hr_iald (k := 12) (i := t) d C (show t < 8 by omega) rfl rfl (show d < 8 by omega) (by decide) dX2_hear_29 ?_
    refine hr_if_ne C 69 dX2_hear_30 (by decide) (fun c30 => ?_) (fun c30 => ?_)
    · skip
      exact hr_vret C hr dX2_hear_69 (by unfold tb_hear; repeat (first | rw [if_pos c5] | rw [if_neg c5] | rw [if_neg (not_not_intro c5)] | rw [if_pos c30] | rw [if_neg c30] | rw [if_neg (not_not_intro c30)]); try rfl)
    · skip
      refine hr_aload_n C dX2_hear_33 rfl 0 rfl ?_
      refine hr_get (k := 8) (i := t) (fld := 1) C (show t < 8 by omega) rfl rfl (by decide) kU_X2 kF_X2_15 rfl rfl dX2_hear_34 ?_
      refine hr_iload_n C dX2_hear_37 rfl 1 rfl ?_
      refine hr_iald (k := 10) (i := t) d C (show t < 8 by omega) rfl rfl (show d < 8 by omega) (by decide) dX2_hear_38 ?_
      refine hr_iload_n C dX2_hear_39 rfl 3 rfl ?_
      refine hr_icmp_ne C 52 dX2_hear_40 (by decide) (fun c40 => ?_) (fun c40 => ?_)
      · skip
        refine hr_iload_n C dX2_hear_52 rfl 2 rfl ?_
        refine hr_aload_n C dX2_hear_53 rfl 0 rfl ?_
        refine hr_get (k := 8) (i := t) (fld := 0) C (show t < 8 by omega) rfl rfl (by decide) kU_X2 kF_X2_9 rfl rfl dX2_hear_54 ?_
        refine hr_iload_n C dX2_hear_57 rfl 1 rfl ?_
        refine hr_iald (k := 9) (i := t) d C (show t < 8 by omega) rfl rfl (show d < 8 by omega) (by decide) dX2_hear_58 ?_
        refine hr_icmp_ge C 69 dX2_hear_59 (by decide) (fun c59 => ?_) (fun c59 => ?_)
        · skip
          have c59n : ¬ a < (S 9 t d) := Int32.not_lt.mpr c59
          exact hr_vret C hr dX2_hear_69 (by unfold tb_hear; repeat (first | rw [if_pos c5] | rw [if_neg c5] | rw [if_neg (not_not_intro c5)] | rw [if_pos c30] | rw [if_neg c30] | rw [if_neg (not_not_intro c30)] | rw [if_pos c40] | rw [if_neg c40] | rw [if_neg (not_not_intro c40)] | rw [if_pos c59] | rw [if_neg c59] | rw [if_neg (not_not_intro c59)] | rw [if_pos c59n] | rw [if_neg c59n] | rw [if_neg (not_not_intro c59n)]); try rfl)
        · skip
          have c59n : a < (S 9 t d) := Int32.not_le.mp c59
          refine hr_aload_n C dX2_hear_62 rfl 0 rfl ?_
          refine hr_iload_n C dX2_hear_63 rfl 1 rfl ?_
          refine hr_iload_n C dX2_hear_64 rfl 2 rfl ?_
          refine hr_iload_n C dX2_hear_65 rfl 3 rfl ?_
          refine hr_cVv C (ct_X2_adopt l E S o t (by omega) d (by omega) a b) (cwV 3 C.1.2.2.2.2 (hr_gV kM_X2_44 kI_X2_adopt kS_X2_adopt kN_X2 kC_X2_adopt) rfl rfl rfl (by decide +kernel) ⟨Nat.le_of_ble_eq_true rfl, Nat.le_of_ble_eq_true rfl⟩) (show t < 8 by omega) rfl rfl rfl (Nat.le_of_ble_eq_true rfl) dX2_hear_66 ⟨Nat.le_of_ble_eq_true rfl, Nat.le_of_ble_eq_true rfl⟩ (fun S5 h6 => ?_) rfl
          refine hr_st h6 ?_
          exact hr_vret C hr dX2_hear_69 (by unfold tb_hear; repeat (first | rw [if_pos c5] | rw [if_neg c5] | rw [if_neg (not_not_intro c5)] | rw [if_pos c30] | rw [if_neg c30] | rw [if_neg (not_not_intro c30)] | rw [if_pos c40] | rw [if_neg c40] | rw [if_neg (not_not_intro c40)] | rw [if_pos c59] | rw [if_neg c59] | rw [if_neg (not_not_intro c59)] | rw [if_pos c59n] | rw [if_neg c59n] | rw [if_neg (not_not_intro c59n)]); try rfl)
      · skip
        refine hr_aload_n C dX2_hear_43 rfl 0 rfl ?_
        refine hr_iload_n C dX2_hear_44 rfl 1 rfl ?_
        refine hr_iload_n C dX2_hear_45 rfl 2 rfl ?_
        refine hr_cVv C (ct_X2_hearFromNext l E S o t (by omega) d (by omega) a) (cwV 2 C.1.2.2.2.2 (hr_gV kM_X2_48 kI_X2_hearFromNext kS_X2_hearFromNext kN_X2 kC_X2_hearFromNext) rfl rfl rfl (by decide +kernel) ⟨Nat.le_of_ble_eq_true rfl, Nat.le_of_ble_eq_true rfl⟩) (show t < 8 by omega) rfl rfl rfl (Nat.le_of_ble_eq_true rfl) dX2_hear_46 ⟨Nat.le_of_ble_eq_true rfl, Nat.le_of_ble_eq_true rfl⟩ (fun S8 h9 => ?_) rfl
        refine hr_st h9 ?_
        refine hr_goto C 69 dX2_hear_49 (by decide) ?_
        exact hr_vret C hr dX2_hear_69 (by unfold tb_hear; repeat (first | rw [if_pos c5] | rw [if_neg c5] | rw [if_neg (not_not_intro c5)] | rw [if_pos c30] | rw [if_neg c30] | rw [if_neg (not_not_intro c30)] | rw [if_pos c40] | rw [if_neg c40] | rw [if_neg (not_not_intro c40)]); try rfl)
  · skip
    have c5 : ¬ (¬ S 9 t d = -1) := hr_bz.mp c5
    refine hr_iload_n C dX2_hear_8 rfl 2 rfl ?_
    refine hr_bipush (v := 16) C dX2_hear_9 (by decide) ?_
    refine hr_icmp_ge C 69 dX2_hear_11 (by decide) (fun c11 => ?_) (fun c11 => ?_)
    · skip
      have c11n : ¬ a < 16 := Int32.not_lt.mpr c11
      exact hr_vret C hr dX2_hear_69 (by unfold tb_hear; repeat (first | rw [if_pos c5] | rw [if_neg c5] | rw [if_neg (not_not_intro c5)] | rw [if_pos c11] | rw [if_neg c11] | rw [if_neg (not_not_intro c11)] | rw [if_pos c11n] | rw [if_neg c11n] | rw [if_neg (not_not_intro c11n)]); try rfl)
    · skip
      have c11n : a < 16 := Int32.not_le.mp c11
      refine hr_aload_n C dX2_hear_14 rfl 0 rfl ?_
      refine hr_iload_n C dX2_hear_15 rfl 1 rfl ?_
      refine hr_iload_n C dX2_hear_16 rfl 2 rfl ?_
      refine hr_iload_n C dX2_hear_17 rfl 3 rfl ?_
      refine hr_cVv C (ct_X2_adopt l E S o t (by omega) d (by omega) a b) (cwV 3 C.1.2.2.2.2 (hr_gV kM_X2_44 kI_X2_adopt kS_X2_adopt kN_X2 kC_X2_adopt) rfl rfl rfl (by decide +kernel) ⟨Nat.le_of_ble_eq_true rfl, Nat.le_of_ble_eq_true rfl⟩) (show t < 8 by omega) rfl rfl rfl (Nat.le_of_ble_eq_true rfl) dX2_hear_18 ⟨Nat.le_of_ble_eq_true rfl, Nat.le_of_ble_eq_true rfl⟩ (fun S11 h12 => ?_) rfl
      refine hr_st h12 ?_
      refine hr_goto C 69 dX2_hear_21 (by decide) ?_
      exact hr_vret C hr dX2_hear_69 (by unfold tb_hear; repeat (first | rw [if_pos c5] | rw [if_neg c5] | rw [if_neg (not_not_intro c5)] | rw [if_pos c11] | rw [if_neg c11] | rw [if_neg (not_not_intro c11)] | rw [if_pos c11n] | rw [if_neg c11n] | rw [if_neg (not_not_intro c11n)]); try rfl)
set_option maxHeartbeats 4000000 in
set_option maxRecDepth 100000 in
theorem ct_X2_ageRoute (l : Launch) (E : hr_E) (S : hr_S) (o : Int64) (t : Nat) (ht : t < 8) (d : Nat) (hd : d < 8) : hr_Mv l E yX2_ageRoute (Cond.code yX2_ageRoute cX2_ageRoute 2 none :: hr_W) ({ frames := 1, cells := 0, slots := 0, locals := 21 } : Room) [.ref (hr_ad E 8 t), .int (nI d)] S o (fun u => u = tb_age S t d) := by
  refine hr_of (by decide) (Nat.le_of_ble_eq_true rfl) (fun p e s m below meth c C hr => ?_)
  refine hr_aload_n C dX2_ageRoute_0 rfl 0 rfl ?_
  refine hr_get (k := 8) (i := t) (fld := 2) C (show t < 8 by omega) rfl rfl (by decide) kU_X2 kF_X2_18 rfl rfl dX2_ageRoute_1 ?_
  refine hr_iload_n C dX2_ageRoute_4 rfl 1 rfl ?_
  refine hr_dup2 C dX2_ageRoute_5 rfl rfl ?_
  refine hr_iald (k := 11) (i := t) d C (show t < 8 by omega) rfl rfl (show d < 8 by omega) (by decide) dX2_ageRoute_6 ?_
  refine hr_iconst (v := 1) C dX2_ageRoute_7 (by decide) ?_
  refine hr_iadd C dX2_ageRoute_8 rfl ?_
  refine hr_iast (k := 11) (i := t) d C (show t < 8 by omega) rfl rfl (show d < 8 by omega) (by decide) (by simp [hr_cell, hr_wA]) rfl dX2_ageRoute_9 ?_
  refine hr_aload_n C dX2_ageRoute_10 rfl 0 rfl ?_
  refine hr_get (k := 8) (i := t) (fld := 3) C (show t < 8 by omega) rfl rfl (by decide) kU_X2 kF_X2_21 rfl rfl dX2_ageRoute_11 ?_
  refine hr_iload_n C dX2_ageRoute_14 rfl 1 rfl ?_
  refine hr_iald (k := 12) (i := t) d C (show t < 8 by omega) rfl rfl (show d < 8 by omega) (by decide) dX2_ageRoute_15 ?_
  refine hr_tp (y := S 12 t d) rfl ?_
  refine hr_if_le C 29 dX2_ageRoute_16 (by decide) (fun c16 => ?_) (fun c16 => ?_)
  · skip
    have c16n : ¬ 0 < (S 12 t d) := Int32.not_lt.mpr c16
    refine hr_aload_n C dX2_ageRoute_29 rfl 0 rfl ?_
    refine hr_get (k := 8) (i := t) (fld := 0) C (show t < 8 by omega) rfl rfl (by decide) kU_X2 kF_X2_9 rfl rfl dX2_ageRoute_30 ?_
    refine hr_iload_n C dX2_ageRoute_33 rfl 1 rfl ?_
    refine hr_iald (k := 9) (i := t) d C (show t < 8 by omega) rfl rfl (show d < 8 by omega) (by decide) dX2_ageRoute_34 ?_
    refine hr_tp (y := S 9 t d) rfl ?_
    refine hr_bipush (v := 16) C dX2_ageRoute_35 (by decide) ?_
    refine hr_icmp_ge C 59 dX2_ageRoute_37 (by decide) (fun c37 => ?_) (fun c37 => ?_)
    · skip
      have c37n : ¬ (S 9 t d) < 16 := Int32.not_lt.mpr c37
      refine hr_aload_n C dX2_ageRoute_59 rfl 0 rfl ?_
      refine hr_get (k := 8) (i := t) (fld := 2) C (show t < 8 by omega) rfl rfl (by decide) kU_X2 kF_X2_18 rfl rfl dX2_ageRoute_60 ?_
      refine hr_iload_n C dX2_ageRoute_63 rfl 1 rfl ?_
      refine hr_iald (k := 11) (i := t) d C (show t < 8 by omega) rfl rfl (show d < 8 by omega) (by decide) dX2_ageRoute_64 ?_
      refine hr_tp (y := (S 11 t d) + 1) (by simp [hr_w, hr_wA, upd]) ?_
      refine hr_bipush (v := 50) C dX2_ageRoute_65 (by decide) ?_
      refine hr_icmp_lt C 75 dX2_ageRoute_67 (by decide) (fun c67 => ?_) (fun c67 => ?_)
      · skip
        have c67n : ¬ 50 ≤ ((S 11 t d) + 1) := Int32.not_le.mpr c67
        exact hr_vret C hr dX2_ageRoute_75 (by unfold tb_age tb_age2 tb_age1; repeat (first | rw [if_pos c16] | rw [if_neg c16] | rw [if_neg (not_not_intro c16)] | rw [if_pos c16n] | rw [if_neg c16n] | rw [if_neg (not_not_intro c16n)] | rw [if_pos c37] | rw [if_neg c37] | rw [if_neg (not_not_intro c37)] | rw [if_pos c37n] | rw [if_neg c37n] | rw [if_neg (not_not_intro c37n)] | rw [if_pos c67] | rw [if_neg c67] | rw [if_neg (not_not_intro c67)] | rw [if_pos c67n] | rw [if_neg c67n] | rw [if_neg (not_not_intro c67n)]); try rfl)
      · skip
        have c67n : 50 ≤ ((S 11 t d) + 1) := Int32.not_lt.mp c67
        refine hr_aload_n C dX2_ageRoute_70 rfl 0 rfl ?_
        refine hr_iload_n C dX2_ageRoute_71 rfl 1 rfl ?_
        refine hr_cVv C (ct_X2_forget l E (hr_w S 11 t d ((S 11 t d) + 1)) o t (by omega) d (by omega)) (cwV 1 C.1.2.2.2.2 (hr_gV kM_X2_56 kI_X2_forget kS_X2_forget kN_X2 kC_X2_forget) rfl rfl rfl (by decide +kernel) ⟨Nat.le_of_ble_eq_true rfl, Nat.le_of_ble_eq_true rfl⟩) (show t < 8 by omega) rfl rfl rfl (Nat.le_of_ble_eq_true rfl) dX2_ageRoute_72 ⟨Nat.le_of_ble_eq_true rfl, Nat.le_of_ble_eq_true rfl⟩ (fun S2 h3 => ?_) rfl
        refine hr_st h3 ?_
        exact hr_vret C hr dX2_ageRoute_75 (by unfold tb_age tb_age2 tb_age1; repeat (first | rw [if_pos c16] | rw [if_neg c16] | rw [if_neg (not_not_intro c16)] | rw [if_pos c16n] | rw [if_neg c16n] | rw [if_neg (not_not_intro c16n)] | rw [if_pos c37] | rw [if_neg c37] | rw [if_neg (not_not_intro c37)] | rw [if_pos c37n] | rw [if_neg c37n] | rw [if_neg (not_not_intro c37n)] | rw [if_pos c67] | rw [if_neg c67] | rw [if_neg (not_not_intro c67)] | rw [if_pos c67n] | rw [if_neg c67n] | rw [if_neg (not_not_intro c67n)]); try rfl)
    · skip
      have c37n : (S 9 t d) < 16 := Int32.not_le.mp c37
      refine hr_aload_n C dX2_ageRoute_40 rfl 0 rfl ?_
      refine hr_get (k := 8) (i := t) (fld := 2) C (show t < 8 by omega) rfl rfl (by decide) kU_X2 kF_X2_18 rfl rfl dX2_ageRoute_41 ?_
      refine hr_iload_n C dX2_ageRoute_44 rfl 1 rfl ?_
      refine hr_iald (k := 11) (i := t) d C (show t < 8 by omega) rfl rfl (show d < 8 by omega) (by decide) dX2_ageRoute_45 ?_
      refine hr_tp (y := (S 11 t d) + 1) (by simp [hr_w, hr_wA, upd]) ?_
      refine hr_bipush (v := 60) C dX2_ageRoute_46 (by decide) ?_
      refine hr_icmp_lt C 75 dX2_ageRoute_48 (by decide) (fun c48 => ?_) (fun c48 => ?_)
      · skip
        have c48n : ¬ 60 ≤ ((S 11 t d) + 1) := Int32.not_le.mpr c48
        exact hr_vret C hr dX2_ageRoute_75 (by unfold tb_age tb_age2 tb_age1; repeat (first | rw [if_pos c16] | rw [if_neg c16] | rw [if_neg (not_not_intro c16)] | rw [if_pos c16n] | rw [if_neg c16n] | rw [if_neg (not_not_intro c16n)] | rw [if_pos c37] | rw [if_neg c37] | rw [if_neg (not_not_intro c37)] | rw [if_pos c37n] | rw [if_neg c37n] | rw [if_neg (not_not_intro c37n)] | rw [if_pos c48] | rw [if_neg c48] | rw [if_neg (not_not_intro c48)] | rw [if_pos c48n] | rw [if_neg c48n] | rw [if_neg (not_not_intro c48n)]); try rfl)
      · skip
        have c48n : 60 ≤ ((S 11 t d) + 1) := Int32.not_lt.mp c48
        refine hr_aload_n C dX2_ageRoute_51 rfl 0 rfl ?_
        refine hr_iload_n C dX2_ageRoute_52 rfl 1 rfl ?_
        refine hr_cVv C (ct_X2_becomeGone l E (hr_w S 11 t d ((S 11 t d) + 1)) o t (by omega) d (by omega)) (cwV 1 C.1.2.2.2.2 (hr_gV kM_X2_52 kI_X2_becomeGone kS_X2_becomeGone kN_X2 kC_X2_becomeGone) rfl rfl rfl (by decide +kernel) ⟨Nat.le_of_ble_eq_true rfl, Nat.le_of_ble_eq_true rfl⟩) (show t < 8 by omega) rfl rfl rfl (Nat.le_of_ble_eq_true rfl) dX2_ageRoute_53 ⟨Nat.le_of_ble_eq_true rfl, Nat.le_of_ble_eq_true rfl⟩ (fun S5 h6 => ?_) rfl
        refine hr_st h6 ?_
        refine hr_goto C 75 dX2_ageRoute_56 (by decide) ?_
        exact hr_vret C hr dX2_ageRoute_75 (by unfold tb_age tb_age2 tb_age1; repeat (first | rw [if_pos c16] | rw [if_neg c16] | rw [if_neg (not_not_intro c16)] | rw [if_pos c16n] | rw [if_neg c16n] | rw [if_neg (not_not_intro c16n)] | rw [if_pos c37] | rw [if_neg c37] | rw [if_neg (not_not_intro c37)] | rw [if_pos c37n] | rw [if_neg c37n] | rw [if_neg (not_not_intro c37n)] | rw [if_pos c48] | rw [if_neg c48] | rw [if_neg (not_not_intro c48)] | rw [if_pos c48n] | rw [if_neg c48n] | rw [if_neg (not_not_intro c48n)]); try rfl)
  · skip
    have c16n : 0 < (S 12 t d) := Int32.not_le.mp c16
    refine hr_aload_n C dX2_ageRoute_19 rfl 0 rfl ?_
    refine hr_get (k := 8) (i := t) (fld := 3) C (show t < 8 by omega) rfl rfl (by decide) kU_X2 kF_X2_21 rfl rfl dX2_ageRoute_20 ?_
    refine hr_iload_n C dX2_ageRoute_23 rfl 1 rfl ?_
    refine hr_dup2 C dX2_ageRoute_24 rfl rfl ?_
    refine hr_iald (k := 12) (i := t) d C (show t < 8 by omega) rfl rfl (show d < 8 by omega) (by decide) dX2_ageRoute_25 ?_
    refine hr_tp (y := S 12 t d) rfl ?_
    refine hr_iconst (v := 1) C dX2_ageRoute_26 (by decide) ?_
    refine hr_isub C dX2_ageRoute_27 rfl ?_
    refine hr_iast (k := 12) (i := t) d C (show t < 8 by omega) rfl rfl (show d < 8 by omega) (by decide) (by simp [hr_cell, hr_wA]) rfl dX2_ageRoute_28 ?_
    refine hr_aload_n C dX2_ageRoute_29 rfl 0 rfl ?_
    refine hr_get (k := 8) (i := t) (fld := 0) C (show t < 8 by omega) rfl rfl (by decide) kU_X2 kF_X2_9 rfl rfl dX2_ageRoute_30 ?_
    refine hr_iload_n C dX2_ageRoute_33 rfl 1 rfl ?_
    refine hr_iald (k := 9) (i := t) d C (show t < 8 by omega) rfl rfl (show d < 8 by omega) (by decide) dX2_ageRoute_34 ?_
    refine hr_tp (y := S 9 t d) rfl ?_
    refine hr_bipush (v := 16) C dX2_ageRoute_35 (by decide) ?_
    refine hr_icmp_ge C 59 dX2_ageRoute_37 (by decide) (fun c37 => ?_) (fun c37 => ?_)
    · skip
      have c37n : ¬ (S 9 t d) < 16 := Int32.not_lt.mpr c37
      refine hr_aload_n C dX2_ageRoute_59 rfl 0 rfl ?_
      refine hr_get (k := 8) (i := t) (fld := 2) C (show t < 8 by omega) rfl rfl (by decide) kU_X2 kF_X2_18 rfl rfl dX2_ageRoute_60 ?_
      refine hr_iload_n C dX2_ageRoute_63 rfl 1 rfl ?_
      refine hr_iald (k := 11) (i := t) d C (show t < 8 by omega) rfl rfl (show d < 8 by omega) (by decide) dX2_ageRoute_64 ?_
      refine hr_tp (y := (S 11 t d) + 1) (by simp [hr_w, hr_wA, upd]) ?_
      refine hr_bipush (v := 50) C dX2_ageRoute_65 (by decide) ?_
      refine hr_icmp_lt C 75 dX2_ageRoute_67 (by decide) (fun c67 => ?_) (fun c67 => ?_)
      · skip
        have c67n : ¬ 50 ≤ ((S 11 t d) + 1) := Int32.not_le.mpr c67
        exact hr_vret C hr dX2_ageRoute_75 (by unfold tb_age tb_age2 tb_age1; repeat (first | rw [if_pos c16] | rw [if_neg c16] | rw [if_neg (not_not_intro c16)] | rw [if_pos c16n] | rw [if_neg c16n] | rw [if_neg (not_not_intro c16n)] | rw [if_pos c37] | rw [if_neg c37] | rw [if_neg (not_not_intro c37)] | rw [if_pos c37n] | rw [if_neg c37n] | rw [if_neg (not_not_intro c37n)] | rw [if_pos c67] | rw [if_neg c67] | rw [if_neg (not_not_intro c67)] | rw [if_pos c67n] | rw [if_neg c67n] | rw [if_neg (not_not_intro c67n)]); try rfl)
      · skip
        have c67n : 50 ≤ ((S 11 t d) + 1) := Int32.not_lt.mp c67
        refine hr_aload_n C dX2_ageRoute_70 rfl 0 rfl ?_
        refine hr_iload_n C dX2_ageRoute_71 rfl 1 rfl ?_
        refine hr_cVv C (ct_X2_forget l E (hr_w (hr_w S 11 t d ((S 11 t d) + 1)) 12 t d ((S 12 t d) - 1)) o t (by omega) d (by omega)) (cwV 1 C.1.2.2.2.2 (hr_gV kM_X2_56 kI_X2_forget kS_X2_forget kN_X2 kC_X2_forget) rfl rfl rfl (by decide +kernel) ⟨Nat.le_of_ble_eq_true rfl, Nat.le_of_ble_eq_true rfl⟩) (show t < 8 by omega) rfl rfl rfl (Nat.le_of_ble_eq_true rfl) dX2_ageRoute_72 ⟨Nat.le_of_ble_eq_true rfl, Nat.le_of_ble_eq_true rfl⟩ (fun S8 h9 => ?_) rfl
        refine hr_st h9 ?_
        exact hr_vret C hr dX2_ageRoute_75 (by unfold tb_age tb_age2 tb_age1; repeat (first | rw [if_pos c16] | rw [if_neg c16] | rw [if_neg (not_not_intro c16)] | rw [if_pos c16n] | rw [if_neg c16n] | rw [if_neg (not_not_intro c16n)] | rw [if_pos c37] | rw [if_neg c37] | rw [if_neg (not_not_intro c37)] | rw [if_pos c37n] | rw [if_neg c37n] | rw [if_neg (not_not_intro c37n)] | rw [if_pos c67] | rw [if_neg c67] | rw [if_neg (not_not_intro c67)] | rw [if_pos c67n] | rw [if_neg c67n] | rw [if_neg (not_not_intro c67n)]); try rfl)
    · skip
      have c37n : (S 9 t d) < 16 := Int32.not_le.mp c37
      refine hr_aload_n C dX2_ageRoute_40 rfl 0 rfl ?_
      refine hr_get (k := 8) (i := t) (fld := 2) C (show t < 8 by omega) rfl rfl (by decide) kU_X2 kF_X2_18 rfl rfl dX2_ageRoute_41 ?_
      refine hr_iload_n C dX2_ageRoute_44 rfl 1 rfl ?_
      refine hr_iald (k := 11) (i := t) d C (show t < 8 by omega) rfl rfl (show d < 8 by omega) (by decide) dX2_ageRoute_45 ?_
      refine hr_tp (y := (S 11 t d) + 1) (by simp [hr_w, hr_wA, upd]) ?_
      refine hr_bipush (v := 60) C dX2_ageRoute_46 (by decide) ?_
      refine hr_icmp_lt C 75 dX2_ageRoute_48 (by decide) (fun c48 => ?_) (fun c48 => ?_)
      · skip
        have c48n : ¬ 60 ≤ ((S 11 t d) + 1) := Int32.not_le.mpr c48
        exact hr_vret C hr dX2_ageRoute_75 (by unfold tb_age tb_age2 tb_age1; repeat (first | rw [if_pos c16] | rw [if_neg c16] | rw [if_neg (not_not_intro c16)] | rw [if_pos c16n] | rw [if_neg c16n] | rw [if_neg (not_not_intro c16n)] | rw [if_pos c37] | rw [if_neg c37] | rw [if_neg (not_not_intro c37)] | rw [if_pos c37n] | rw [if_neg c37n] | rw [if_neg (not_not_intro c37n)] | rw [if_pos c48] | rw [if_neg c48] | rw [if_neg (not_not_intro c48)] | rw [if_pos c48n] | rw [if_neg c48n] | rw [if_neg (not_not_intro c48n)]); try rfl)
      · skip
        have c48n : 60 ≤ ((S 11 t d) + 1) := Int32.not_lt.mp c48
        refine hr_aload_n C dX2_ageRoute_51 rfl 0 rfl ?_
        refine hr_iload_n C dX2_ageRoute_52 rfl 1 rfl ?_
        refine hr_cVv C (ct_X2_becomeGone l E (hr_w (hr_w S 11 t d ((S 11 t d) + 1)) 12 t d ((S 12 t d) - 1)) o t (by omega) d (by omega)) (cwV 1 C.1.2.2.2.2 (hr_gV kM_X2_52 kI_X2_becomeGone kS_X2_becomeGone kN_X2 kC_X2_becomeGone) rfl rfl rfl (by decide +kernel) ⟨Nat.le_of_ble_eq_true rfl, Nat.le_of_ble_eq_true rfl⟩) (show t < 8 by omega) rfl rfl rfl (Nat.le_of_ble_eq_true rfl) dX2_ageRoute_53 ⟨Nat.le_of_ble_eq_true rfl, Nat.le_of_ble_eq_true rfl⟩ (fun S11 h12 => ?_) rfl
        refine hr_st h12 ?_
        refine hr_goto C 75 dX2_ageRoute_56 (by decide) ?_
        exact hr_vret C hr dX2_ageRoute_75 (by unfold tb_age tb_age2 tb_age1; repeat (first | rw [if_pos c16] | rw [if_neg c16] | rw [if_neg (not_not_intro c16)] | rw [if_pos c16n] | rw [if_neg c16n] | rw [if_neg (not_not_intro c16n)] | rw [if_pos c37] | rw [if_neg c37] | rw [if_neg (not_not_intro c37)] | rw [if_pos c37n] | rw [if_neg c37n] | rw [if_neg (not_not_intro c37n)] | rw [if_pos c48] | rw [if_neg c48] | rw [if_neg (not_not_intro c48)] | rw [if_pos c48n] | rw [if_neg c48n] | rw [if_neg (not_not_intro c48n)]); try rfl)
set_option maxHeartbeats 4000000 in
set_option maxRecDepth 100000 in
theorem ct_X2_forgetAll (l : Launch) (E : hr_E) (S : hr_S) (o : Int64) (t : Nat) (ht : t < 8) : hr_Mv l E yX2_forgetAll (Cond.code yX2_forgetAll cX2_forgetAll 2 none :: hr_W) ({ frames := 1, cells := 0, slots := 0, locals := 21 } : Room) [.ref (hr_ad E 8 t)] S o (fun u => u = tb_fall S t 8) := by
  refine hr_of (by decide) (Nat.le_of_ble_eq_true rfl) (fun p e s m below meth c C hr => ?_)
  refine hr_iconst (v := 0) C dX2_forgetAll_0 (by decide) ?_
  refine hr_istore_n C [(1, .int 0), (0, .ref (hr_ad E 8 t))] dX2_forgetAll_1 rfl (by decide) rfl ?_
  have LP2 : ∀ (n d : Nat) , d ≤ 8 → 8 + 1 ≤ d + n → hr_G p l e ({ frames := 1, cells := 0, slots := 0, locals := 21 } : Room) s m #[.ref (hr_ad E 8 t)] below meth c (MQ below (va_Qv (fun u => u = tb_fall S t 8) (fun u t => hr_P E u o t.heap) (hr_A E)) #[.ref (hr_ad E 8 t)] s 0 0 (hr_A E)) E 2 0 0 (tb_fall S t d) o [(0, .ref (hr_ad E 8 t)), (1, .int (nI d))] 2 [] := by
    intro n
    induction n with
    | zero => intro d  h1 h2; omega
    | succ n ih =>
      intro d  hv1 hv2
      refine hr_iload_n C dX2_forgetAll_2 rfl 1 rfl ?_
      refine hr_bipush (v := 8) C dX2_forgetAll_3 (by decide) ?_
      refine hr_icmp_ge C 19 dX2_forgetAll_5 (by decide) (fun c5 => ?_) (fun c5 => ?_)
      · skip
        have c5 : 8 ≤ d := (nI_leI (a := 8) (b := d) (by omega) (by omega)).mp c5
        have c5n : ¬ d < 8 := Nat.not_lt.mpr c5
        exact hr_vret C hr dX2_forgetAll_19 (by rw [show d = 8 by omega])
      · skip
        have c5 : ¬ 8 ≤ d := fun h => c5 ((nI_leI (a := 8) (b := d) (by omega) (by omega)).mpr h)
        have c5n : d < 8 := Nat.not_le.mp c5
        refine hr_aload_n C dX2_forgetAll_8 rfl 0 rfl ?_
        refine hr_iload_n C dX2_forgetAll_9 rfl 1 rfl ?_
        refine hr_cVv C (ct_X2_forget l E (tb_fall S t d) o t (by omega) d (by omega)) (cwV 1 C.1.2.2.2.2 (hr_gV kM_X2_56 kI_X2_forget kS_X2_forget kN_X2 kC_X2_forget) rfl rfl rfl (by decide +kernel) ⟨Nat.le_of_ble_eq_true rfl, Nat.le_of_ble_eq_true rfl⟩) (show t < 8 by omega) rfl rfl rfl (Nat.le_of_ble_eq_true rfl) dX2_forgetAll_10 ⟨Nat.le_of_ble_eq_true rfl, Nat.le_of_ble_eq_true rfl⟩ (fun S2 h3 => ?_) rfl
        refine hr_st h3 ?_
        refine hr_iinc (v := nI (d + 1)) C [(1, .int (nI (d + 1))), (0, .ref (hr_ad E 8 t))] dX2_forgetAll_13 1 rfl (nI_add d 1) (by decide) rfl ?_
        refine hr_goto C 2 dX2_forgetAll_16 (by decide) ?_
        refine hr_sub [1, 0] rfl ?_
        refine hr_st (S1 := tb_fall S t (d + 1)) rfl ?_
        exact ih (d + 1)  (by omega) (by omega)
  refine hr_sub [1, 0] rfl ?_
  refine hr_st (S1 := tb_fall S t 0) rfl ?_
  exact LP2 (8 + 1) 0  (by omega) (by omega)
set_option maxHeartbeats 4000000 in
set_option maxRecDepth 100000 in
theorem ct_X2_clearChanges (l : Launch) (E : hr_E) (S : hr_S) (o : Int64) (t : Nat) (ht : t < 8) : hr_Mv l E yX2_clearChanges (Cond.code yX2_clearChanges cX2_clearChanges 2 none :: hr_W) ({ frames := 0, cells := 0, slots := 0, locals := 0 } : Room) [.ref (hr_ad E 8 t)] S o (fun u => u = tb_clr S t 8) := by
  refine hr_of (by decide) (Nat.le_of_ble_eq_true rfl) (fun p e s m below meth c C hr => ?_)
  refine hr_iconst (v := 0) C dX2_clearChanges_0 (by decide) ?_
  refine hr_istore_n C [(1, .int 0), (0, .ref (hr_ad E 8 t))] dX2_clearChanges_1 rfl (by decide) rfl ?_
  have LP2 : ∀ (n d : Nat) , d ≤ 8 → 8 + 1 ≤ d + n → hr_G p l e ({ frames := 0, cells := 0, slots := 0, locals := 0 } : Room) s m #[.ref (hr_ad E 8 t)] below meth c (MQ below (va_Qv (fun u => u = tb_clr S t 8) (fun u t => hr_P E u o t.heap) (hr_A E)) #[.ref (hr_ad E 8 t)] s 0 0 (hr_A E)) E 2 0 0 (tb_clr S t d) o [(0, .ref (hr_ad E 8 t)), (1, .int (nI d))] 2 [] := by
    intro n
    induction n with
    | zero => intro d  h1 h2; omega
    | succ n ih =>
      intro d  hv1 hv2
      refine hr_iload_n C dX2_clearChanges_2 rfl 1 rfl ?_
      refine hr_bipush (v := 8) C dX2_clearChanges_3 (by decide) ?_
      refine hr_icmp_ge C 21 dX2_clearChanges_5 (by decide) (fun c5 => ?_) (fun c5 => ?_)
      · skip
        have c5 : 8 ≤ d := (nI_leI (a := 8) (b := d) (by omega) (by omega)).mp c5
        have c5n : ¬ d < 8 := Nat.not_lt.mpr c5
        exact hr_vret C hr dX2_clearChanges_21 (by rw [show d = 8 by omega])
      · skip
        have c5 : ¬ 8 ≤ d := fun h => c5 ((nI_leI (a := 8) (b := d) (by omega) (by omega)).mpr h)
        have c5n : d < 8 := Nat.not_le.mp c5
        refine hr_aload_n C dX2_clearChanges_8 rfl 0 rfl ?_
        refine hr_get (k := 8) (i := t) (fld := 4) C (show t < 8 by omega) rfl rfl (by decide) kU_X2 kF_X2_24 rfl rfl dX2_clearChanges_9 ?_
        refine hr_iload_n C dX2_clearChanges_12 rfl 1 rfl ?_
        refine hr_iconst (v := 0) C dX2_clearChanges_13 (by decide) ?_
        refine hr_zast (k := 13) (i := t) d C (show t < 8 by omega) rfl rfl (show d < 8 by omega) (by decide) (by simp [hr_cell, hr_wA]) rfl dX2_clearChanges_14 ?_
        refine hr_iinc (v := nI (d + 1)) C [(1, .int (nI (d + 1))), (0, .ref (hr_ad E 8 t))] dX2_clearChanges_15 1 rfl (nI_add d 1) (by decide) rfl ?_
        refine hr_goto C 2 dX2_clearChanges_18 (by decide) ?_
        refine hr_sub [1, 0] rfl ?_
        refine hr_st (S1 := tb_clr S t (d + 1)) rfl ?_
        exact ih (d + 1)  (by omega) (by omega)
  refine hr_sub [1, 0] rfl ?_
  refine hr_st (S1 := tb_clr S t 0) rfl ?_
  exact LP2 (8 + 1) 0  (by omega) (by omega)
set_option maxHeartbeats 4000000 in
set_option maxRecDepth 100000 in
theorem ct_X2_growOlder (l : Launch) (E : hr_E) (S : hr_S) (o : Int64) (t : Nat) (ht : t < 8) : hr_Mv l E yX2_growOlder (Cond.code yX2_growOlder cX2_growOlder 2 none :: hr_W) ({ frames := 2, cells := 0, slots := 0, locals := 42 } : Room) [.ref (hr_ad E 8 t)] S o (fun u => u = tb_grow S t 8) := by
  refine hr_of (by decide) (Nat.le_of_ble_eq_true rfl) (fun p e s m below meth c C hr => ?_)
  refine hr_iconst (v := 0) C dX2_growOlder_0 (by decide) ?_
  refine hr_istore_n C [(1, .int 0), (0, .ref (hr_ad E 8 t))] dX2_growOlder_1 rfl (by decide) rfl ?_
  have LP2 : ∀ (n d : Nat) , d ≤ 8 → 8 + 1 ≤ d + n → hr_G p l e ({ frames := 2, cells := 0, slots := 0, locals := 42 } : Room) s m #[.ref (hr_ad E 8 t)] below meth c (MQ below (va_Qv (fun u => u = tb_grow S t 8) (fun u t => hr_P E u o t.heap) (hr_A E)) #[.ref (hr_ad E 8 t)] s 0 0 (hr_A E)) E 2 0 0 (tb_grow S t d) o [(0, .ref (hr_ad E 8 t)), (1, .int (nI d))] 2 [] := by
    intro n
    induction n with
    | zero => intro d  h1 h2; omega
    | succ n ih =>
      intro d  hv1 hv2
      refine hr_iload_n C dX2_growOlder_2 rfl 1 rfl ?_
      refine hr_bipush (v := 8) C dX2_growOlder_3 (by decide) ?_
      refine hr_icmp_ge C 27 dX2_growOlder_5 (by decide) (fun c5 => ?_) (fun c5 => ?_)
      · skip
        have c5 : 8 ≤ d := (nI_leI (a := 8) (b := d) (by omega) (by omega)).mp c5
        have c5n : ¬ d < 8 := Nat.not_lt.mpr c5
        exact hr_vret C hr dX2_growOlder_27 (by rw [show d = 8 by omega])
      · skip
        have c5 : ¬ 8 ≤ d := fun h => c5 ((nI_leI (a := 8) (b := d) (by omega) (by omega)).mpr h)
        have c5n : d < 8 := Nat.not_le.mp c5
        refine hr_aload_n C dX2_growOlder_8 rfl 0 rfl ?_
        refine hr_iload_n C dX2_growOlder_9 rfl 1 rfl ?_
        refine hr_cVi C (ct_X2_has l E (tb_grow S t d) o t (by omega) d (by omega)) (cwV 1 C.1.2.2.2.2 (hr_gV kM_X2_34 kI_X2_has kS_X2_has kN_X2 kC_X2_has) rfl rfl rfl (by decide +kernel) ⟨Nat.le_of_ble_eq_true rfl, Nat.le_of_ble_eq_true rfl⟩) (show t < 8 by omega) rfl rfl rfl (Nat.le_of_ble_eq_true rfl) dX2_growOlder_10 ⟨Nat.le_of_ble_eq_true rfl, Nat.le_of_ble_eq_true rfl⟩ (fun r1 S2 h3 => ?_) rfl
        refine hr_tp h3.1 ?_
        refine hr_st h3.2 ?_
        refine hr_if_eq C 21 dX2_growOlder_13 (by decide) (fun c13 => ?_) (fun c13 => ?_)
        · skip
          have c13 : ¬ (¬ (tb_grow S t d) 9 t d = -1) := hr_bz.mp c13
          refine hr_iinc (v := nI (d + 1)) C [(1, .int (nI (d + 1))), (0, .ref (hr_ad E 8 t))] dX2_growOlder_21 1 rfl (nI_add d 1) (by decide) rfl ?_
          refine hr_goto C 2 dX2_growOlder_24 (by decide) ?_
          refine hr_sub [1, 0] rfl ?_
          refine hr_st (S1 := tb_grow S t (d + 1)) (by rw [tb_grow]; simp only [c5, c5n, c13, if_true, if_false, reduceIte, not_true_eq_false, not_false_eq_true]) ?_
          exact ih (d + 1)  (by omega) (by omega)
        · skip
          have c13 : ¬ (tb_grow S t d) 9 t d = -1 := hr_bn.mp c13
          refine hr_aload_n C dX2_growOlder_16 rfl 0 rfl ?_
          refine hr_iload_n C dX2_growOlder_17 rfl 1 rfl ?_
          refine hr_cVv C (ct_X2_ageRoute l E (tb_grow S t d) o t (by omega) d (by omega)) (cwV 1 C.1.2.2.2.2 (hr_gV kM_X2_62 kI_X2_ageRoute kS_X2_ageRoute kN_X2 kC_X2_ageRoute) rfl rfl rfl (by decide +kernel) ⟨Nat.le_of_ble_eq_true rfl, Nat.le_of_ble_eq_true rfl⟩) (show t < 8 by omega) rfl rfl rfl (Nat.le_of_ble_eq_true rfl) dX2_growOlder_18 ⟨Nat.le_of_ble_eq_true rfl, Nat.le_of_ble_eq_true rfl⟩ (fun S5 h6 => ?_) rfl
          refine hr_st h6 ?_
          refine hr_iinc (v := nI (d + 1)) C [(1, .int (nI (d + 1))), (0, .ref (hr_ad E 8 t))] dX2_growOlder_21 1 rfl (nI_add d 1) (by decide) rfl ?_
          refine hr_goto C 2 dX2_growOlder_24 (by decide) ?_
          refine hr_sub [1, 0] rfl ?_
          refine hr_st (S1 := tb_grow S t (d + 1)) (by rw [tb_grow]; simp only [c5, c5n, c13, if_true, if_false, reduceIte, not_true_eq_false, not_false_eq_true]) ?_
          exact ih (d + 1)  (by omega) (by omega)
  refine hr_sub [1, 0] rfl ?_
  refine hr_st (S1 := tb_grow S t 0) rfl ?_
  exact LP2 (8 + 1) 0  (by omega) (by omega)
end
section
/-! what stays true of the class's numbers -/
abbrev un (x : Int32) : Nat := x.toNatClampNeg
def nb (x : Int32) (N : Nat) : Prop := x = nI (un x) ∧ un x < N
theorem un_nI {n : Nat} (h : n < 2 ^ 31) : un (nI n) = n := nI_clamp h
theorem nb_nI {n N : Nat} (h : n < N) (hN : N ≤ 2 ^ 31) : nb (nI n) N := by
  have h1 : un (nI n) = n := un_nI (by omega)
  exact ⟨by rw [h1], by rw [h1]; exact h⟩
def hr_CI (S : hr_S) : Prop := nb (S 3 0 2) 201 ∧ (∀ k, k < 200 → nb (S 5 0 k) 200) ∧ (∀ k k', k < 200 → k' < 200 → un (S 5 0 k) = un (S 5 0 k') → k = k') ∧
  (∀ i, i < 202 → nb (S 6 i 0) 8 ∧ nb (S 6 i 1) 8 ∧ nb (S 6 i 2) 165) ∧ (∀ t d, t < 8 → d < 8 → nb (S 10 t d) 8) ∧ ∀ x, x < 64 → S 1 0 x = 0 ∨ S 1 0 x = 1
theorem hr_w_self (S : hr_S) (k i j : Nat) (v : Int32) : hr_w S k i j v k i j = v := by simp [hr_w, hr_wA, upd]
theorem hr_w_k (S : hr_S) {k i j k' : Nat} {v : Int32} (h : k' ≠ k) (i' j' : Nat) : hr_w S k i j v k' i' j' = S k' i' j' := by simp [hr_w, hr_wA, h]
theorem hr_w_i (S : hr_S) {k i j i' : Nat} {v : Int32} (h : i' ≠ i) (j' : Nat) : hr_w S k i j v k i' j' = S k i' j' := by simp [hr_w, hr_wA, h]
theorem hr_w_j (S : hr_S) {k i j j' : Nat} {v : Int32} (h : j' ≠ j) : hr_w S k i j v k i j' = S k i j' := by simp [hr_w, hr_wA, upd, h]
theorem hr_w_at (S : hr_S) (k i j : Nat) (v : Int32) (k' i' j' : Nat) : hr_w S k i j v k' i' j' = if k' = k ∧ i' = i ∧ j' = j then v else S k' i' j' := by
  unfold hr_w hr_wA upd
  by_cases h1 : k' = k ∧ i' = i
  · obtain ⟨rfl, rfl⟩ := h1
    by_cases h2 : j' = j <;> simp [h2]
  · rw [if_neg h1, if_neg (fun h => h1 ⟨h.1, h.2.1⟩)]
theorem hr_wA_at (S : hr_S) (k i : Nat) (f : Nat → Int32) (k' i' j' : Nat) : hr_wA S k i f k' i' j' = if k' = k ∧ i' = i then f j' else S k' i' j' := by
  unfold hr_wA
  by_cases h1 : k' = k ∧ i' = i <;> simp [h1]
/-- a write elsewhere -/
theorem CI_o {S : hr_S} (h : hr_CI S) {k i j : Nat} {v : Int32} (h1 : k ≠ 1) (h3 : k = 3 → j ≠ 2) (h5 : k ≠ 5) (h6 : k ≠ 6) (h10 : k ≠ 10) : hr_CI (hr_w S k i j v) := by
  obtain ⟨a, b, c, d, e, f⟩ := h
  refine ⟨?_, fun q hq => ?_, fun q q' hq hq' => ?_, fun q hq => ?_, fun t d' ht hd => ?_, fun x hx => ?_⟩
  · rw [hr_w_at, if_neg (fun z => h3 z.1.symm z.2.2.symm)]; exact a
  · rw [hr_w_at, if_neg (fun z => h5 z.1.symm)]; exact b q hq
  · rw [hr_w_at, if_neg (fun z => h5 z.1.symm), hr_w_at, if_neg (fun z => h5 z.1.symm)]; exact c q q' hq hq'
  · rw [hr_w_at, if_neg (fun z => h6 z.1.symm), hr_w_at, if_neg (fun z => h6 z.1.symm), hr_w_at, if_neg (fun z => h6 z.1.symm)]; exact d q hq
  · rw [hr_w_at, if_neg (fun z => h10 z.1.symm)]; exact e t d' ht hd
  · rw [hr_w_at, if_neg (fun z => h1 z.1.symm)]; exact f x hx
theorem CI_oA {S : hr_S} (h : hr_CI S) {k i : Nat} {g : Nat → Int32} (h1 : k ≠ 1) (h3 : k ≠ 3) (h5 : k ≠ 5) (h6 : k ≠ 6) (h10 : k ≠ 10) : hr_CI (hr_wA S k i g) := by
  obtain ⟨a, b, c, d, e, f⟩ := h
  refine ⟨?_, fun q hq => ?_, fun q q' hq hq' => ?_, fun q hq => ?_, fun t d' ht hd => ?_, fun x hx => ?_⟩
  · rw [hr_wA_at, if_neg (fun z => h3 z.1.symm)]; exact a
  · rw [hr_wA_at, if_neg (fun z => h5 z.1.symm)]; exact b q hq
  · rw [hr_wA_at, if_neg (fun z => h5 z.1.symm), hr_wA_at, if_neg (fun z => h5 z.1.symm)]; exact c q q' hq hq'
  · rw [hr_wA_at, if_neg (fun z => h6 z.1.symm), hr_wA_at, if_neg (fun z => h6 z.1.symm), hr_wA_at, if_neg (fun z => h6 z.1.symm)]; exact d q hq
  · rw [hr_wA_at, if_neg (fun z => h10 z.1.symm)]; exact e t d' ht hd
  · rw [hr_wA_at, if_neg (fun z => h1 z.1.symm)]; exact f x hx
/-- the number of packets -/
theorem CI_n {S : hr_S} (h : hr_CI S) {v : Int32} (hv : nb v 201) : hr_CI (hr_w S 3 0 2 v) := by
  obtain ⟨a, b, c, d, e, f⟩ := h
  refine ⟨?_, fun q hq => ?_, fun q q' hq hq' => ?_, fun q hq => ?_, fun t d' ht hd => ?_, fun x hx => ?_⟩
  · rw [hr_w_self]; exact hv
  · rw [hr_w_k S (by decide)]; exact b q hq
  · rw [hr_w_k S (by decide), hr_w_k S (by decide)]; exact c q q' hq hq'
  · rw [hr_w_k S (by decide), hr_w_k S (by decide), hr_w_k S (by decide)]; exact d q hq
  · rw [hr_w_k S (by decide)]; exact e t d' ht hd
  · rw [hr_w_k S (by decide)]; exact f x hx
/-- a packet's from, to or length -/
theorem CI_p {S : hr_S} (h : hr_CI S) {i j : Nat} {v : Int32} (hv : (j = 0 ∨ j = 1 → nb v 8) ∧ (j = 2 → nb v 165)) : hr_CI (hr_w S 6 i j v) := by
  obtain ⟨a, b, c, d, e, f⟩ := h
  refine ⟨?_, fun q hq => ?_, fun q q' hq hq' => ?_, fun q hq => ?_, fun t d' ht hd => ?_, fun x hx => ?_⟩
  · rw [hr_w_k S (by decide)]; exact a
  · rw [hr_w_k S (by decide)]; exact b q hq
  · rw [hr_w_k S (by decide), hr_w_k S (by decide)]; exact c q q' hq hq'
  · obtain ⟨d0, d1, d2⟩ := d q hq
    refine ⟨?_, ?_, ?_⟩
    · rw [hr_w_at]; split
      · next z => exact hv.1 (Or.inl z.2.2.symm)
      · exact d0
    · rw [hr_w_at]; split
      · next z => exact hv.1 (Or.inr z.2.2.symm)
      · exact d1
    · rw [hr_w_at]; split
      · next z => exact hv.2 z.2.2.symm
      · exact d2
  · rw [hr_w_k S (by decide)]; exact e t d' ht hd
  · rw [hr_w_k S (by decide)]; exact f x hx
theorem CI_x {S : hr_S} (h : hr_CI S) {t d : Nat} {v : Int32} (hv : nb v 8) : hr_CI (hr_w S 10 t d v) := by
  obtain ⟨a, b, c, d0, e, f⟩ := h
  refine ⟨?_, fun q hq => ?_, fun q q' hq hq' => ?_, fun q hq => ?_, fun t' d' ht hd => ?_, fun x hx => ?_⟩
  · rw [hr_w_k S (by decide)]; exact a
  · rw [hr_w_k S (by decide)]; exact b q hq
  · rw [hr_w_k S (by decide), hr_w_k S (by decide)]; exact c q q' hq hq'
  · rw [hr_w_k S (by decide), hr_w_k S (by decide), hr_w_k S (by decide)]; exact d0 q hq
  · rw [hr_w_at]; split
    · exact hv
    · exact e t' d' ht hd
  · rw [hr_w_k S (by decide)]; exact f x hx
theorem CI_l {S : hr_S} (h : hr_CI S) {x : Nat} {v : Int32} (hv : v = 0 ∨ v = 1) : hr_CI (hr_w S 1 0 x v) := by
  obtain ⟨a, b, c, d0, e, f⟩ := h
  refine ⟨?_, fun q hq => ?_, fun q q' hq hq' => ?_, fun q hq => ?_, fun t' d' ht hd => ?_, fun x' hx => ?_⟩
  · rw [hr_w_k S (by decide)]; exact a
  · rw [hr_w_k S (by decide)]; exact b q hq
  · rw [hr_w_k S (by decide), hr_w_k S (by decide)]; exact c q q' hq hq'
  · rw [hr_w_k S (by decide), hr_w_k S (by decide), hr_w_k S (by decide)]; exact d0 q hq
  · rw [hr_w_k S (by decide)]; exact e t' d' ht hd
  · rw [hr_w_at]; split
    · exact hv
    · exact f x' hx
/-! packets: the pure steps -/
def pk_begin (S : hr_S) (i : Nat) (a b h : Int32) : hr_S := hr_w (hr_w (hr_w (hr_w S 6 i 0 a) 6 i 1 b) 7 i 0 h) 6 i 2 4
def pk_ent (S : hr_S) (i : Nat) : Nat := (un (S 6 i 2) - 4) / 20
def pk_add5 (S : hr_S) (i w : Nat) (f d t : Int32) : hr_S := hr_w (hr_w (hr_w (hr_w (hr_w S 7 i w (f <<< ((16 : Int32) &&& 31))) 7 i (w + 1) (167772160 ||| (d <<< ((8 : Int32) &&& 31)))) 7 i (w + 2) (-256)) 7 i (w + 3) 0) 7 i (w + 4) t
def pk_addE (S : hr_S) (i : Nat) (f d t : Int32) : hr_S := if un (S 6 i 2) ≤ 144 then hr_w (pk_add5 S i (1 + (pk_ent S i * 5)) f d t) 6 i 2 (nI (un (S 6 i 2) + 20)) else S
def pk_become (S : hr_S) (i j : Nat) : hr_S := hr_wA (hr_w (hr_w (hr_w S 6 i 0 (S 6 j 0)) 6 i 1 (S 6 j 1)) 6 i 2 (S 6 j 2)) 7 i (va_cpy (S 7 j) (S 7 i) 0 0 41)
theorem CI_begin {S : hr_S} (h : hr_CI S) {i : Nat} {a b g : Int32} (ha : nb a 8) (hb : nb b 8) : hr_CI (pk_begin S i a b g) := by
  refine CI_p (CI_o (CI_p (CI_p h ⟨fun _ => ha, fun z => by omega⟩) ⟨fun _ => hb, fun z => by omega⟩) (by decide) (by decide) (by decide) (by decide) (by decide)) ⟨fun z => by omega, fun _ => nb_nI (n := 4) (by decide) (by decide)⟩
theorem CI_add5 {S : hr_S} (h : hr_CI S) {i w : Nat} {f d t : Int32} : hr_CI (pk_add5 S i w f d t) := by
  unfold pk_add5
  refine CI_o (CI_o (CI_o (CI_o (CI_o h ?_ ?_ ?_ ?_ ?_) ?_ ?_ ?_ ?_ ?_) ?_ ?_ ?_ ?_ ?_) ?_ ?_ ?_ ?_ ?_) ?_ ?_ ?_ ?_ ?_ <;> omega
theorem CI_addE {S : hr_S} (h : hr_CI S) {i : Nat} {f d t : Int32} : hr_CI (pk_addE S i f d t) := by
  unfold pk_addE
  split
  · exact CI_p (CI_add5 h) ⟨fun z => by omega, fun _ => nb_nI (by omega) (by decide)⟩
  · exact h
theorem CI_become {S : hr_S} (h : hr_CI S) {i j : Nat} (hj : j < 202) : hr_CI (pk_become S i j) := by
  obtain ⟨d0, d1, d2⟩ := h.2.2.2.1 j hj
  exact CI_oA (CI_p (CI_p (CI_p h ⟨fun _ => d0, fun z => by omega⟩) ⟨fun _ => d1, fun z => by omega⟩) ⟨fun z => by omega, fun _ => d2⟩) (by decide) (by decide) (by decide) (by decide) (by decide)
/-! the air -/
def ai_n (S : hr_S) : Nat := un (S 3 0 2)
def ai_o (S : hr_S) (k : Nat) : Nat := un (S 5 0 k)
def ai_launch (S : hr_S) (q : Nat) : hr_S := if ai_n S < 200 then hr_w (pk_become (hr_w S 3 0 3 (S 3 0 3 + 1)) (ai_o S (ai_n S)) q) 3 0 2 (nI (ai_n S + 1)) else hr_w (hr_w S 3 0 3 (S 3 0 3 + 1)) 3 0 4 (S 3 0 4 + 1)
def ai_remove (S : hr_S) (k : Nat) : hr_S := hr_w (hr_wA (hr_w S 3 0 2 (nI (ai_n S - 1))) 5 0 (va_cpy (S 5 0) (S 5 0) (k + 1) k (ai_n S - 1 - k))) 5 0 (ai_n S - 1) (S 5 0 k)
theorem CI_launch {S : hr_S} (h : hr_CI S) {q : Nat} (hq : q < 202) : hr_CI (ai_launch S q) := by
  have h1 : hr_CI (hr_w S 3 0 3 (S 3 0 3 + 1)) := CI_o h (by decide) (by decide) (by decide) (by decide) (by decide)
  unfold ai_launch
  split
  · exact CI_n (CI_become h1 hq) (nb_nI (by omega) (by decide))
  · exact CI_o h1 (by decide) (by decide) (by decide) (by decide) (by decide)
theorem ai_rem_at (S : hr_S) {k n : Nat} (hk : k < n) (j : Nat) : hr_w (hr_wA S 5 0 (va_cpy (S 5 0) (S 5 0) (k + 1) k (n - 1 - k))) 5 0 (n - 1) (S 5 0 k) 5 0 j = S 5 0 (if j < k then j else if j < n - 1 then j + 1 else if j = n - 1 then k else j) := by
  rw [hr_w_at]
  by_cases h1 : j = n - 1
  · subst h1
    rw [if_pos ⟨rfl, rfl, rfl⟩, if_neg (by omega), if_neg (by omega), if_pos rfl]
  · rw [if_neg (fun z => h1 z.2.2), hr_wA_self]
    by_cases h2 : j < k
    · rw [if_pos h2, pk_cpy_out (by omega)]
    · rw [if_neg h2]
      by_cases h3 : j < n - 1
      · rw [if_pos h3, pk_cpy_in (by omega) (by omega)]
        congr 1
        omega
      · rw [if_neg h3, if_neg h1, pk_cpy_out (by omega)]
theorem CI_remove {S : hr_S} (h : hr_CI S) {k : Nat} (hk : k < ai_n S) : hr_CI (ai_remove S k) := by
  have hn : ai_n S ≤ 200 := by have := h.1.2; unfold ai_n; omega
  have h0 : hr_CI (hr_w S 3 0 2 (nI (ai_n S - 1))) := CI_n h (nb_nI (by omega) (by decide))
  obtain ⟨a, b, c, d, e, f⟩ := h0
  have hx : ∀ j, ai_remove S k 5 0 j = S 5 0 (if j < k then j else if j < ai_n S - 1 then j + 1 else if j = ai_n S - 1 then k else j) := fun j => ai_rem_at (hr_w S 3 0 2 (nI (ai_n S - 1))) hk j
  have ho : ∀ k' i' j', k' ≠ 5 → ai_remove S k k' i' j' = hr_w S 3 0 2 (nI (ai_n S - 1)) k' i' j' := fun k' i' j' hne => by
    unfold ai_remove
    rw [hr_w_k _ hne, hr_wA_at, if_neg (fun z => hne z.1)]
  refine ⟨?_, fun q hq => ?_, fun q q' hq hq' hE => ?_, fun q hq => ?_, fun t d' ht hd => ?_, fun x hx => ?_⟩
  · rw [ho _ _ _ (by decide)]; exact a
  · rw [hx]; exact h.2.1 _ (by split <;> (try split) <;> (try split) <;> omega)
  · rw [hx, hx] at hE
    have := h.2.2.1 _ _ (by split <;> (try split) <;> (try split) <;> omega) (by split <;> (try split) <;> (try split) <;> omega) hE
    split at this <;> (try split at this) <;> (try split at this) <;> (try split at this) <;> (try split at this) <;> (try split at this) <;> omega
  · rw [ho _ _ _ (by decide), ho _ _ _ (by decide), ho _ _ _ (by decide)]; exact d q hq
  · rw [ho _ _ _ (by decide)]; exact e t d' ht hd
  · rw [ho _ _ _ (by decide)]; exact f x hx
/-! tables -/
theorem CI_adopt {S : hr_S} (h : hr_CI S) {t d : Nat} {a b : Int32} (hb : nb b 8) : hr_CI (tb_adopt S t d a b) := by
  unfold tb_adopt
  refine CI_o (CI_o (CI_o (CI_x (CI_o h ?_ ?_ ?_ ?_ ?_) hb) ?_ ?_ ?_ ?_ ?_) ?_ ?_ ?_ ?_ ?_) ?_ ?_ ?_ ?_ ?_ <;> omega
theorem CI_gone {S : hr_S} (h : hr_CI S) {t d : Nat} : hr_CI (tb_gone S t d) := by
  unfold tb_gone
  refine CI_o (CI_o (CI_o (CI_o h ?_ ?_ ?_ ?_ ?_) ?_ ?_ ?_ ?_ ?_) ?_ ?_ ?_ ?_ ?_) ?_ ?_ ?_ ?_ ?_ <;> omega
theorem CI_forget {S : hr_S} (h : hr_CI S) {t d : Nat} : hr_CI (tb_forget S t d) := by
  unfold tb_forget
  refine CI_o (CI_o h ?_ ?_ ?_ ?_ ?_) ?_ ?_ ?_ ?_ ?_ <;> omega
theorem CI_hfn1 {S : hr_S} (h : hr_CI S) {t d : Nat} {a : Int32} : hr_CI (tb_hfn1 S t d a) := by
  unfold tb_hfn1
  split
  · refine CI_o h ?_ ?_ ?_ ?_ ?_ <;> omega
  · exact h
theorem CI_hfn {S : hr_S} (h : hr_CI S) {t d : Nat} {a : Int32} : hr_CI (tb_hfn S t d a) := by
  unfold tb_hfn
  split
  · exact CI_hfn1 h
  · split
    · exact CI_gone (CI_hfn1 h)
    · refine CI_o (CI_o (CI_hfn1 h) ?_ ?_ ?_ ?_ ?_) ?_ ?_ ?_ ?_ ?_ <;> omega
theorem CI_hear {S : hr_S} (h : hr_CI S) {t d : Nat} {a b : Int32} (hb : nb b 8) : hr_CI (tb_hear S t d a b) := by
  unfold tb_hear
  split
  · split
    · split
      · exact CI_hfn h
      · split
        · exact CI_adopt h hb
        · exact h
    · exact h
  · split
    · exact CI_adopt h hb
    · exact h
theorem CI_age {S : hr_S} (h : hr_CI S) {t d : Nat} : hr_CI (tb_age S t d) := by
  have h1 : hr_CI (tb_age1 S t d) := by unfold tb_age1; refine CI_o h ?_ ?_ ?_ ?_ ?_ <;> omega
  have h2 : hr_CI (tb_age2 S t d) := by
    unfold tb_age2
    split
    · exact h1
    · refine CI_o h1 ?_ ?_ ?_ ?_ ?_ <;> omega
  unfold tb_age
  split
  · split
    · exact h2
    · exact CI_forget h2
  · split
    · exact h2
    · exact CI_gone h2
theorem CI_grow {S : hr_S} (h : hr_CI S) {t : Nat} : ∀ d, hr_CI (tb_grow S t d)
  | 0 => h
  | d + 1 => by
    unfold tb_grow
    split
    · exact CI_age (CI_grow h d)
    · exact CI_grow h d
theorem CI_fall {S : hr_S} (h : hr_CI S) {t : Nat} : ∀ d, hr_CI (tb_fall S t d)
  | 0 => h
  | d + 1 => CI_forget (CI_fall h d)
theorem CI_clr {S : hr_S} (h : hr_CI S) {t : Nat} : ∀ d, hr_CI (tb_clr S t d)
  | 0 => h
  | d + 1 => by unfold tb_clr; refine CI_o (CI_clr h d) ?_ ?_ ?_ ?_ ?_ <;> omega
theorem CI_lose {S : hr_S} (h : hr_CI S) {t : Nat} {x : Int32} : ∀ d, hr_CI (tb_lose S t x d).1
  | 0 => h
  | d + 1 => by
    unfold tb_lose
    split
    · exact CI_gone (CI_lose h d)
    · exact CI_lose h d
end
section
theorem hr_lve {p : Program} {l : Launch} {e : Env} {R : Room} {s : State} {m : MethodId} {args : Array Value} {below : List Frame} {meth : Method} {c : Code} {Q : State → Prop} {E : hr_E} {nL cells slots pc : Nat} {S : hr_S} {o : Int64} {lv lv2 : List (Nat × Value)} {st : List Value} (h : lv = lv2) (K : hr_G p l e R s m args below meth c Q E nL cells slots S o lv2 pc st) : hr_G p l e R s m args below meth c Q E nL cells slots S o lv pc st := h ▸ K
theorem nb_of {x y : Int32} {N : Nat} (h0 : ¬ x < 0) (h : x < y) (hy : y = nI N) (hN : N < 2 ^ 31) : nb x N := by
  obtain ⟨j, hj, rfl⟩ := nI_of h0
  subst hy
  have : j < N := (nI_ltI hj hN).mp h
  exact nb_nI this (by omega)
theorem nb_lt0 {x : Int32} {N : Nat} (h : x < 0) (hN : N ≤ 2 ^ 31) : ¬ nb x N := fun z => by
  rw [z.1] at h
  exact absurd h (nI_pos (by have := z.2; omega))
theorem nb_ge {x y : Int32} {N : Nat} (h : ¬ x < y) (hy : y = nI N) (hN : N < 2 ^ 31) : ¬ nb x N := fun z => by
  rw [z.1, hy] at h
  exact h (nI_lt z.2 hN)
/-- some of a table's routes is changed -/
def tb_any (S : hr_S) (t : Nat) : Nat → Bool
  | 0 => false
  | d + 1 => tb_any S t d || decide (¬ S 13 t d = 0)
theorem tb_any_of {S : hr_S} {t d : Nat} (h : ¬ S 13 t d = 0) : ∀ n, d < n → tb_any S t n = true
  | 0, hn => absurd hn (Nat.not_lt_zero _)
  | n + 1, hn => by
    unfold tb_any
    by_cases e : d = n
    · subst e; simp [h]
    · rw [tb_any_of h n (by omega)]; rfl
set_option maxHeartbeats 4000000 in
set_option maxRecDepth 100000 in
theorem ct_X1_addEntry (l : Launch) (E : hr_E) (S : hr_S) (o : Int64) (i : Nat) (hi : i < 202) (hb : nb (S 6 i 2) 165) (h4 : 4 ≤ un (S 6 i 2)) (f9 d9 t9 : Int32) : hr_Mv l E yX1_addEntry (Cond.code yX1_addEntry cX1_addEntry 5 none :: hr_W) ({ frames := 1, cells := 0, slots := 0, locals := 20 } : Room) [.ref (hr_ad E 6 i), .int f9, .int d9, .int t9] S o (fun u => u = pk_addE S i f9 d9 t9) := by
  refine hr_of (by decide) (Nat.le_of_ble_eq_true rfl) (fun p e s m below meth c C hr => ?_)
  have hb2 := hb.2
  refine hr_aload_n C dX1_addEntry_0 rfl 0 rfl ?_
  refine hr_get (k := 6) (i := i) (fld := 2) C (show i < 202 by omega) rfl rfl (by decide) kU_X1 kF_X1_22 rfl rfl dX1_addEntry_1 ?_
  refine hr_tp (y := nI (un (S 6 i 2))) hb.1 ?_
  refine hr_sipush (v := 144) C dX1_addEntry_4 (by decide) ?_
  refine hr_icmp_le C 11 dX1_addEntry_7 (by decide) (fun c7 => ?_) (fun c7 => ?_)
  · skip
    have c7 : (un (S 6 i 2)) ≤ 144 := (nI_leI (a := (un (S 6 i 2))) (b := 144) (by omega) (by omega)).mp c7
    have c7n : ¬ 144 < (un (S 6 i 2)) := Nat.not_lt.mpr c7
    refine hr_aload_n C dX1_addEntry_11 rfl 0 rfl ?_
    refine hr_cVi C (ct_X1_entries l E S o i (by omega) (un (S 6 i 2)) hb.1 h4 (by omega)) (cwV 0 C.1.2.2.2.2 (hr_gV kM_X1_25 kI_X1_entries kS_X1_entries kN_X1 kC_X1_entries) rfl rfl rfl (by decide +kernel) ⟨Nat.le_of_ble_eq_true rfl, Nat.le_of_ble_eq_true rfl⟩) (show i < 202 by omega) rfl rfl rfl (Nat.le_of_ble_eq_true rfl) dX1_addEntry_12 ⟨Nat.le_of_ble_eq_true rfl, Nat.le_of_ble_eq_true rfl⟩ (fun r1 S2 h3 => ?_) rfl
    refine hr_tp h3.1 ?_
    refine hr_st h3.2 ?_
    refine hr_cSi C (ct_X1_firstWord l E S o (((un (S 6 i 2)) - 4) / 20)) (cwS 1 C.1.2.2.2.2 (hr_gS kM_X1_29 kT_X1_firstWord kN_X1 kC_X1_firstWord) rfl rfl rfl (by decide +kernel) ⟨Nat.le_of_ble_eq_true rfl, Nat.le_of_ble_eq_true rfl⟩) rfl (Nat.le_of_ble_eq_true rfl) dX1_addEntry_15 ⟨Nat.le_of_ble_eq_true rfl, Nat.le_of_ble_eq_true rfl⟩ (fun r4 S5 h6 => ?_) rfl
    refine hr_tp h6.1 ?_
    refine hr_st h6.2 ?_
    refine hr_istore C [(4, .int (nI (1 + ((((un (S 6 i 2)) - 4) / 20) * 5)))), (0, .ref (hr_ad E 6 i)), (1, .int f9), (2, .int d9), (3, .int t9)] dX1_addEntry_18 (by decide) rfl ?_
    refine hr_aload_n C dX1_addEntry_20 rfl 1 rfl ?_
    refine hr_get (k := 6) (i := i) (fld := 3) C (show i < 202 by omega) rfl rfl (by decide) kU_X1 kF_X1_11 rfl rfl dX1_addEntry_21 ?_
    refine hr_iload C dX1_addEntry_24 0 rfl ?_
    refine hr_iload_n C dX1_addEntry_26 rfl 2 rfl ?_
    refine hr_bipush (v := 16) C dX1_addEntry_27 (by decide) ?_
    refine hr_ishl C dX1_addEntry_29 rfl ?_
    refine hr_iast (k := 7) (i := i) (1 + ((((un (S 6 i 2)) - 4) / 20) * 5)) C (show i < 202 by omega) rfl rfl (show 1 + ((((un (S 6 i 2)) - 4) / 20) * 5) < 41 by omega) (by decide) (by simp [hr_cell, hr_wA]) rfl dX1_addEntry_30 ?_
    refine hr_aload_n C dX1_addEntry_31 rfl 1 rfl ?_
    refine hr_get (k := 6) (i := i) (fld := 3) C (show i < 202 by omega) rfl rfl (by decide) kU_X1 kF_X1_11 rfl rfl dX1_addEntry_32 ?_
    refine hr_iload C dX1_addEntry_35 0 rfl ?_
    refine hr_iconst (v := 1) C dX1_addEntry_37 (by decide) ?_
    refine hr_iadd (v := nI ((1 + ((((un (S 6 i 2)) - 4) / 20) * 5)) + 1)) C dX1_addEntry_38 (nI_add (1 + ((((un (S 6 i 2)) - 4) / 20) * 5)) 1) ?_
    refine hr_ldc (v := 167772160) C dX1_addEntry_39 kK_X1_33 ?_
    refine hr_iload_n C dX1_addEntry_41 rfl 3 rfl ?_
    refine hr_bipush (v := 8) C dX1_addEntry_42 (by decide) ?_
    refine hr_ishl C dX1_addEntry_44 rfl ?_
    refine hr_ior C dX1_addEntry_45 rfl ?_
    refine hr_iast (k := 7) (i := i) ((1 + ((((un (S 6 i 2)) - 4) / 20) * 5)) + 1) C (show i < 202 by omega) rfl rfl (show (1 + ((((un (S 6 i 2)) - 4) / 20) * 5)) + 1 < 41 by omega) (by decide) (by simp [hr_cell, hr_wA]) rfl dX1_addEntry_46 ?_
    refine hr_aload_n C dX1_addEntry_47 rfl 1 rfl ?_
    refine hr_get (k := 6) (i := i) (fld := 3) C (show i < 202 by omega) rfl rfl (by decide) kU_X1 kF_X1_11 rfl rfl dX1_addEntry_48 ?_
    refine hr_iload C dX1_addEntry_51 0 rfl ?_
    refine hr_iconst (v := 2) C dX1_addEntry_53 (by decide) ?_
    refine hr_iadd (v := nI ((1 + ((((un (S 6 i 2)) - 4) / 20) * 5)) + 2)) C dX1_addEntry_54 (nI_add (1 + ((((un (S 6 i 2)) - 4) / 20) * 5)) 2) ?_
    refine hr_sipush (v := (-256)) C dX1_addEntry_55 (by decide) ?_
    refine hr_iast (k := 7) (i := i) ((1 + ((((un (S 6 i 2)) - 4) / 20) * 5)) + 2) C (show i < 202 by omega) rfl rfl (show (1 + ((((un (S 6 i 2)) - 4) / 20) * 5)) + 2 < 41 by omega) (by decide) (by simp [hr_cell, hr_wA]) rfl dX1_addEntry_58 ?_
    refine hr_aload_n C dX1_addEntry_59 rfl 1 rfl ?_
    refine hr_get (k := 6) (i := i) (fld := 3) C (show i < 202 by omega) rfl rfl (by decide) kU_X1 kF_X1_11 rfl rfl dX1_addEntry_60 ?_
    refine hr_iload C dX1_addEntry_63 0 rfl ?_
    refine hr_iconst (v := 3) C dX1_addEntry_65 (by decide) ?_
    refine hr_iadd (v := nI ((1 + ((((un (S 6 i 2)) - 4) / 20) * 5)) + 3)) C dX1_addEntry_66 (nI_add (1 + ((((un (S 6 i 2)) - 4) / 20) * 5)) 3) ?_
    refine hr_iconst (v := 0) C dX1_addEntry_67 (by decide) ?_
    refine hr_iast (k := 7) (i := i) ((1 + ((((un (S 6 i 2)) - 4) / 20) * 5)) + 3) C (show i < 202 by omega) rfl rfl (show (1 + ((((un (S 6 i 2)) - 4) / 20) * 5)) + 3 < 41 by omega) (by decide) (by simp [hr_cell, hr_wA]) rfl dX1_addEntry_68 ?_
    refine hr_aload_n C dX1_addEntry_69 rfl 1 rfl ?_
    refine hr_get (k := 6) (i := i) (fld := 3) C (show i < 202 by omega) rfl rfl (by decide) kU_X1 kF_X1_11 rfl rfl dX1_addEntry_70 ?_
    refine hr_iload C dX1_addEntry_73 0 rfl ?_
    refine hr_iconst (v := 4) C dX1_addEntry_75 (by decide) ?_
    refine hr_iadd (v := nI ((1 + ((((un (S 6 i 2)) - 4) / 20) * 5)) + 4)) C dX1_addEntry_76 (nI_add (1 + ((((un (S 6 i 2)) - 4) / 20) * 5)) 4) ?_
    refine hr_iload_n C dX1_addEntry_77 rfl 4 rfl ?_
    refine hr_iast (k := 7) (i := i) ((1 + ((((un (S 6 i 2)) - 4) / 20) * 5)) + 4) C (show i < 202 by omega) rfl rfl (show (1 + ((((un (S 6 i 2)) - 4) / 20) * 5)) + 4 < 41 by omega) (by decide) (by simp [hr_cell, hr_wA]) rfl dX1_addEntry_78 ?_
    refine hr_aload_n C dX1_addEntry_79 rfl 1 rfl ?_
    refine hr_dup C dX1_addEntry_80 rfl ?_
    refine hr_get (k := 6) (i := i) (fld := 2) C (show i < 202 by omega) rfl rfl (by decide) kU_X1 kF_X1_22 rfl rfl dX1_addEntry_81 ?_
    refine hr_tp (y := S 6 i 2) rfl ?_
    refine hr_tp (y := nI (un (S 6 i 2))) hb.1 ?_
    refine hr_bipush (v := 20) C dX1_addEntry_84 (by decide) ?_
    refine hr_iadd (v := nI ((un (S 6 i 2)) + 20)) C dX1_addEntry_86 (nI_add (un (S 6 i 2)) 20) ?_
    refine hr_put (k := 6) (i := i) (fld := 2) C (show i < 202 by omega) rfl rfl (by decide) kU_X1 kF_X1_22 rfl tyX1 tyX1_ok nmX1 rfl (by decide +kernel) (Nat.le_of_ble_eq_true rfl) (by simp [hr_cell, hr_w, hr_wA, upd]) rfl dX1_addEntry_87 ?_
    exact hr_vret C hr dX1_addEntry_90 (by unfold pk_addE pk_add5 pk_ent; repeat (first | rw [if_pos c7] | rw [if_neg c7] | rw [if_neg (not_not_intro c7)]); try rfl)
  · skip
    have c7 : ¬ (un (S 6 i 2)) ≤ 144 := fun h => c7 ((nI_leI (a := (un (S 6 i 2))) (b := 144) (by omega) (by omega)).mpr h)
    have c7n : 144 < (un (S 6 i 2)) := Nat.not_le.mp c7
    exact hr_vret C hr dX1_addEntry_10 (by unfold pk_addE pk_add5 pk_ent; repeat (first | rw [if_pos c7] | rw [if_neg c7] | rw [if_neg (not_not_intro c7)]); try rfl)
set_option maxHeartbeats 4000000 in
set_option maxRecDepth 100000 in
theorem ct_X1_become (l : Launch) (E : hr_E) (S : hr_S) (o : Int64) (i : Nat) (hi : i < 202) (j : Nat) (hj : j < 202) (hne : ¬ j = i) : hr_Mv l E yX1_become (Cond.code yX1_become cX1_become 2 none :: hr_W) ({ frames := 1, cells := 0, slots := 0, locals := 40 } : Room) [.ref (hr_ad E 6 i), .ref (hr_ad E 6 j)] S o (fun u => u = pk_become S i j) := by
  refine hr_of (by decide) (Nat.le_of_ble_eq_true rfl) (fun p e s m below meth c C hr => ?_)
  refine hr_aload_n C dX1_become_0 rfl 0 rfl ?_
  refine hr_aload_n C dX1_become_1 rfl 1 rfl ?_
  refine hr_get (k := 6) (i := j) (fld := 0) C (show j < 202 by omega) rfl rfl (by decide) kU_X1 kF_X1_15 rfl rfl dX1_become_2 ?_
  refine hr_put (k := 6) (i := i) (fld := 0) C (show i < 202 by omega) rfl rfl (by decide) kU_X1 kF_X1_15 rfl tyX1 tyX1_ok nmX1 rfl (by decide +kernel) (Nat.le_of_ble_eq_true rfl) (by simp [hr_cell, hr_w, hr_wA, upd]) rfl dX1_become_5 ?_
  refine hr_aload_n C dX1_become_8 rfl 0 rfl ?_
  refine hr_aload_n C dX1_become_9 rfl 1 rfl ?_
  refine hr_get (k := 6) (i := j) (fld := 1) C (show j < 202 by omega) rfl rfl (by decide) kU_X1 kF_X1_19 rfl rfl dX1_become_10 ?_
  refine hr_tp (y := S 6 j 1) (by simp [hr_w, hr_wA, upd, hne]) ?_
  refine hr_put (k := 6) (i := i) (fld := 1) C (show i < 202 by omega) rfl rfl (by decide) kU_X1 kF_X1_19 rfl tyX1 tyX1_ok nmX1 rfl (by decide +kernel) (Nat.le_of_ble_eq_true rfl) (by simp [hr_cell, hr_w, hr_wA, upd]) rfl dX1_become_13 ?_
  refine hr_aload_n C dX1_become_16 rfl 0 rfl ?_
  refine hr_aload_n C dX1_become_17 rfl 1 rfl ?_
  refine hr_get (k := 6) (i := j) (fld := 2) C (show j < 202 by omega) rfl rfl (by decide) kU_X1 kF_X1_22 rfl rfl dX1_become_18 ?_
  refine hr_tp (y := S 6 j 2) (by simp [hr_w, hr_wA, upd, hne]) ?_
  refine hr_put (k := 6) (i := i) (fld := 2) C (show i < 202 by omega) rfl rfl (by decide) kU_X1 kF_X1_22 rfl tyX1 tyX1_ok nmX1 rfl (by decide +kernel) (Nat.le_of_ble_eq_true rfl) (by simp [hr_cell, hr_w, hr_wA, upd]) rfl dX1_become_21 ?_
  refine hr_aload_n C dX1_become_24 rfl 1 rfl ?_
  refine hr_get (k := 6) (i := j) (fld := 3) C (show j < 202 by omega) rfl rfl (by decide) kU_X1 kF_X1_11 rfl rfl dX1_become_25 ?_
  refine hr_iconst (v := 0) C dX1_become_28 (by decide) ?_
  refine hr_aload_n C dX1_become_29 rfl 0 rfl ?_
  refine hr_get (k := 6) (i := i) (fld := 3) C (show i < 202 by omega) rfl rfl (by decide) kU_X1 kF_X1_11 rfl rfl dX1_become_30 ?_
  refine hr_iconst (v := 0) C dX1_become_33 (by decide) ?_
  refine hr_aload_n C dX1_become_34 rfl 0 rfl ?_
  refine hr_get (k := 6) (i := i) (fld := 3) C (show i < 202 by omega) rfl rfl (by decide) kU_X1 kF_X1_11 rfl rfl dX1_become_35 ?_
  refine hr_alen (k := 7) (i := i) (t0 := 0) C (show i < 202 by omega) rfl rfl dX1_become_38 ?_
  refine hr_copy (k0 := 7) (i0 := j) (k := 7) (i := i) 0 0 41 C (show j < 202 by omega) (show i < 202 by omega) rfl rfl rfl rfl rfl (show 0 + 41 ≤ 41 by omega) (show 0 + 41 ≤ 41 by omega) (by decide) (by decide) kM_X1_34 kV_arraycopy kT_arraycopy kN_System (Nat.le_of_ble_eq_true rfl) (Nat.le_of_ble_eq_true rfl) (by simp [hr_cell, hr_wA]) rfl dX1_become_39 ?_
  exact hr_vret C hr dX1_become_42 rfl
set_option maxHeartbeats 4000000 in
set_option maxRecDepth 100000 in
theorem ct_X2_loseNext (l : Launch) (E : hr_E) (S : hr_S) (o : Int64) (t : Nat) (ht : t < 8) (x : Int32) : hr_Mi l E yX2_loseNext (Cond.code yX2_loseNext cX2_loseNext 4 (some .int) :: hr_W) ({ frames := 2, cells := 0, slots := 0, locals := 42 } : Room) [.ref (hr_ad E 8 t), .int x] S o (fun r u => r = nI (tb_lose S t x 8).2 ∧ u = (tb_lose S t x 8).1) := by
  refine hr_of (by decide) (Nat.le_of_ble_eq_true rfl) (fun p e s m below meth c C hr => ?_)
  refine hr_iconst (v := 0) C dX2_loseNext_0 (by decide) ?_
  refine hr_istore_n C [(2, .int 0), (0, .ref (hr_ad E 8 t)), (1, .int x)] dX2_loseNext_1 rfl (by decide) rfl ?_
  refine hr_iconst (v := 0) C dX2_loseNext_2 (by decide) ?_
  refine hr_istore_n C [(3, .int 0), (2, .int 0), (0, .ref (hr_ad E 8 t)), (1, .int x)] dX2_loseNext_3 rfl (by decide) rfl ?_
  have LP4 : ∀ (n d : Nat) , d ≤ 8 → 8 + 1 ≤ d + n → hr_G p l e ({ frames := 2, cells := 0, slots := 0, locals := 42 } : Room) s m #[.ref (hr_ad E 8 t), .int x] below meth c (MQ below (va_Qi (fun r u => r = nI (tb_lose S t x 8).2 ∧ u = (tb_lose S t x 8).1) (fun u t => hr_P E u o t.heap) (hr_A E)) #[.ref (hr_ad E 8 t), .int x] s 0 0 (hr_A E)) E 4 0 0 ((tb_lose S t x d).1) o [(0, .ref (hr_ad E 8 t)), (1, .int x), (2, .int (nI ((tb_lose S t x d).2))), (3, .int (nI d))] 4 [] := by
    intro n
    induction n with
    | zero => intro d  h1 h2; omega
    | succ n ih =>
      intro d  hv1 hv2
      refine hr_iload_n C dX2_loseNext_4 rfl 3 rfl ?_
      refine hr_bipush (v := 8) C dX2_loseNext_5 (by decide) ?_
      refine hr_icmp_ge C 51 dX2_loseNext_7 (by decide) (fun c7 => ?_) (fun c7 => ?_)
      · skip
        have c7 : 8 ≤ d := (nI_leI (a := 8) (b := d) (by omega) (by omega)).mp c7
        have c7n : ¬ d < 8 := Nat.not_lt.mpr c7
        refine hr_iload_n C dX2_loseNext_51 rfl 2 rfl ?_
        exact hr_iret C hr dX2_loseNext_52 ⟨by rw [show d = 8 by omega], by rw [show d = 8 by omega]⟩
      · skip
        have c7 : ¬ 8 ≤ d := fun h => c7 ((nI_leI (a := 8) (b := d) (by omega) (by omega)).mpr h)
        have c7n : d < 8 := Nat.not_le.mp c7
        refine hr_aload_n C dX2_loseNext_10 rfl 0 rfl ?_
        refine hr_iload_n C dX2_loseNext_11 rfl 3 rfl ?_
        refine hr_cVi C (ct_X2_reaches l E ((tb_lose S t x d).1) o t (by omega) d (by omega)) (cwV 1 C.1.2.2.2.2 (hr_gV kM_X2_59 kI_X2_reaches kS_X2_reaches kN_X2 kC_X2_reaches) rfl rfl rfl (by decide +kernel) ⟨Nat.le_of_ble_eq_true rfl, Nat.le_of_ble_eq_true rfl⟩) (show t < 8 by omega) rfl rfl rfl (Nat.le_of_ble_eq_true rfl) dX2_loseNext_12 ⟨Nat.le_of_ble_eq_true rfl, Nat.le_of_ble_eq_true rfl⟩ (fun r1 S2 h3 => ?_) rfl
        refine hr_tp h3.1 ?_
        refine hr_st h3.2 ?_
        refine hr_if_eq C 45 dX2_loseNext_15 (by decide) (fun c15 => ?_) (fun c15 => ?_)
        · skip
          have c15 : ¬ ((¬ ((tb_lose S t x d).1) 9 t d = -1) ∧ ((tb_lose S t x d).1) 9 t d < 16) := hr_bz.mp c15
          refine hr_iinc (v := nI (d + 1)) C [(3, .int (nI (d + 1))), (0, .ref (hr_ad E 8 t)), (1, .int x), (2, .int (nI ((tb_lose S t x d).2)))] dX2_loseNext_45 3 rfl (nI_add d 1) (by decide) rfl ?_
          refine hr_goto C 4 dX2_loseNext_48 (by decide) ?_
          have e1 : tb_lose S t x (d + 1) = tb_lose S t x d := by rw [tb_lose, if_neg (fun h => c15 h.1)]
          refine hr_sub [1, 2, 3, 0] rfl ?_
          refine hr_lve (lv2 := [(0, .ref (hr_ad E 8 t)), (1, .int x), (2, .int (nI ((tb_lose S t x (d + 1)).2))), (3, .int (nI (d + 1)))]) (by rw [e1]; rfl) ?_
          refine hr_st (S1 := (tb_lose S t x (d + 1)).1) (by rw [e1]) ?_
          exact ih (d + 1)  (by omega) (by omega)
        · skip
          have c15 : (¬ ((tb_lose S t x d).1) 9 t d = -1) ∧ ((tb_lose S t x d).1) 9 t d < 16 := hr_bn.mp c15
          refine hr_aload_n C dX2_loseNext_18 rfl 0 rfl ?_
          refine hr_get (k := 8) (i := t) (fld := 1) C (show t < 8 by omega) rfl rfl (by decide) kU_X2 kF_X2_15 rfl rfl dX2_loseNext_19 ?_
          refine hr_iload_n C dX2_loseNext_22 rfl 3 rfl ?_
          refine hr_iald (k := 10) (i := t) d C (show t < 8 by omega) rfl rfl (show d < 8 by omega) (by decide) dX2_loseNext_23 ?_
          refine hr_iload_n C dX2_loseNext_24 rfl 1 rfl ?_
          refine hr_icmp_ne C 45 dX2_loseNext_25 (by decide) (fun c25 => ?_) (fun c25 => ?_)
          · skip
            refine hr_iinc (v := nI (d + 1)) C [(3, .int (nI (d + 1))), (0, .ref (hr_ad E 8 t)), (1, .int x), (2, .int (nI ((tb_lose S t x d).2)))] dX2_loseNext_45 3 rfl (nI_add d 1) (by decide) rfl ?_
            refine hr_goto C 4 dX2_loseNext_48 (by decide) ?_
            have e1 : tb_lose S t x (d + 1) = tb_lose S t x d := by rw [tb_lose, if_neg (fun h => c25 h.2.1)]
            refine hr_sub [1, 2, 3, 0] rfl ?_
            refine hr_lve (lv2 := [(0, .ref (hr_ad E 8 t)), (1, .int x), (2, .int (nI ((tb_lose S t x (d + 1)).2))), (3, .int (nI (d + 1)))]) (by rw [e1]; rfl) ?_
            refine hr_st (S1 := (tb_lose S t x (d + 1)).1) (by rw [e1]) ?_
            exact ih (d + 1)  (by omega) (by omega)
          · skip
            refine hr_aload_n C dX2_loseNext_28 rfl 0 rfl ?_
            refine hr_get (k := 8) (i := t) (fld := 3) C (show t < 8 by omega) rfl rfl (by decide) kU_X2 kF_X2_21 rfl rfl dX2_loseNext_29 ?_
            refine hr_iload_n C dX2_loseNext_32 rfl 3 rfl ?_
            refine hr_iald (k := 12) (i := t) d C (show t < 8 by omega) rfl rfl (show d < 8 by omega) (by decide) dX2_loseNext_33 ?_
            refine hr_if_ne C 45 dX2_loseNext_34 (by decide) (fun c34 => ?_) (fun c34 => ?_)
            · skip
              refine hr_iinc (v := nI (d + 1)) C [(3, .int (nI (d + 1))), (0, .ref (hr_ad E 8 t)), (1, .int x), (2, .int (nI ((tb_lose S t x d).2)))] dX2_loseNext_45 3 rfl (nI_add d 1) (by decide) rfl ?_
              refine hr_goto C 4 dX2_loseNext_48 (by decide) ?_
              have e1 : tb_lose S t x (d + 1) = tb_lose S t x d := by rw [tb_lose, if_neg (fun h => c34 h.2.2)]
              refine hr_sub [1, 2, 3, 0] rfl ?_
              refine hr_lve (lv2 := [(0, .ref (hr_ad E 8 t)), (1, .int x), (2, .int (nI ((tb_lose S t x (d + 1)).2))), (3, .int (nI (d + 1)))]) (by rw [e1]; rfl) ?_
              refine hr_st (S1 := (tb_lose S t x (d + 1)).1) (by rw [e1]) ?_
              exact ih (d + 1)  (by omega) (by omega)
            · skip
              refine hr_aload_n C dX2_loseNext_37 rfl 0 rfl ?_
              refine hr_iload_n C dX2_loseNext_38 rfl 3 rfl ?_
              refine hr_cVv C (ct_X2_becomeGone l E ((tb_lose S t x d).1) o t (by omega) d (by omega)) (cwV 1 C.1.2.2.2.2 (hr_gV kM_X2_52 kI_X2_becomeGone kS_X2_becomeGone kN_X2 kC_X2_becomeGone) rfl rfl rfl (by decide +kernel) ⟨Nat.le_of_ble_eq_true rfl, Nat.le_of_ble_eq_true rfl⟩) (show t < 8 by omega) rfl rfl rfl (Nat.le_of_ble_eq_true rfl) dX2_loseNext_39 ⟨Nat.le_of_ble_eq_true rfl, Nat.le_of_ble_eq_true rfl⟩ (fun S5 h6 => ?_) rfl
              refine hr_st h6 ?_
              refine hr_iinc (v := nI ((tb_lose S t x d).2 + 1)) C [(2, .int (nI ((tb_lose S t x d).2 + 1))), (0, .ref (hr_ad E 8 t)), (1, .int x), (3, .int (nI d))] dX2_loseNext_42 2 rfl (nI_add ((tb_lose S t x d).2) 1) (by decide) rfl ?_
              refine hr_iinc (v := nI (d + 1)) C [(3, .int (nI (d + 1))), (2, .int (nI ((tb_lose S t x d).2 + 1))), (0, .ref (hr_ad E 8 t)), (1, .int x)] dX2_loseNext_45 3 rfl (nI_add d 1) (by decide) rfl ?_
              refine hr_goto C 4 dX2_loseNext_48 (by decide) ?_
              have e1 : tb_lose S t x (d + 1) = (tb_gone (tb_lose S t x d).1 t d, (tb_lose S t x d).2 + 1) := by rw [tb_lose, if_pos ⟨c15, c25, c34⟩]
              refine hr_sub [2, 3, 1, 0] rfl ?_
              refine hr_lve (lv2 := [(0, .ref (hr_ad E 8 t)), (1, .int x), (2, .int (nI ((tb_lose S t x (d + 1)).2))), (3, .int (nI (d + 1)))]) (by rw [e1]; rfl) ?_
              refine hr_st (S1 := (tb_lose S t x (d + 1)).1) (by rw [e1]) ?_
              exact ih (d + 1)  (by omega) (by omega)
  refine hr_sub [2, 3, 1, 0] rfl ?_
  refine hr_st (S1 := (tb_lose S t x 0).1) rfl ?_
  exact LP4 (8 + 1) 0  (by omega) (by omega)
set_option maxHeartbeats 4000000 in
set_option maxRecDepth 100000 in
theorem ct_X2_hasChanges (l : Launch) (E : hr_E) (S : hr_S) (o : Int64) (t : Nat) (ht : t < 8) : hr_Mi l E yX2_hasChanges (Cond.code yX2_hasChanges cX2_hasChanges 2 (some .boolean) :: hr_W) ({ frames := 0, cells := 0, slots := 0, locals := 0 } : Room) [.ref (hr_ad E 8 t)] S o (fun r u => r = (if tb_any S t 8 = true then 1 else 0) ∧ u = S) := by
  refine hr_of (by decide) (Nat.le_of_ble_eq_true rfl) (fun p e s m below meth c C hr => ?_)
  refine hr_iconst (v := 0) C dX2_hasChanges_0 (by decide) ?_
  refine hr_istore_n C [(1, .int 0), (0, .ref (hr_ad E 8 t))] dX2_hasChanges_1 rfl (by decide) rfl ?_
  have LP2 : ∀ (n d : Nat) , d ≤ 8 → 8 + 1 ≤ d + n → tb_any S t d = false → hr_G p l e ({ frames := 0, cells := 0, slots := 0, locals := 0 } : Room) s m #[.ref (hr_ad E 8 t)] below meth c (MQ below (va_Qi (fun r u => r = (if tb_any S t 8 = true then 1 else 0) ∧ u = S) (fun u t => hr_P E u o t.heap) (hr_A E)) #[.ref (hr_ad E 8 t)] s 0 0 (hr_A E)) E 2 0 0 S o [(0, .ref (hr_ad E 8 t)), (1, .int (nI d))] 2 [] := by
    intro n
    induction n with
    | zero => intro d  h1 h2; omega
    | succ n ih =>
      intro d  hv1 hv2 ha
      refine hr_iload_n C dX2_hasChanges_2 rfl 1 rfl ?_
      refine hr_bipush (v := 8) C dX2_hasChanges_3 (by decide) ?_
      refine hr_icmp_ge C 25 dX2_hasChanges_5 (by decide) (fun c5 => ?_) (fun c5 => ?_)
      · skip
        have c5 : 8 ≤ d := (nI_leI (a := 8) (b := d) (by omega) (by omega)).mp c5
        have c5n : ¬ d < 8 := Nat.not_lt.mpr c5
        refine hr_iconst (v := 0) C dX2_hasChanges_25 (by decide) ?_
        exact hr_zret C hr rfl dX2_hasChanges_26 ⟨by rw [← show d = 8 by omega, ha]; rfl, rfl⟩
      · skip
        have c5 : ¬ 8 ≤ d := fun h => c5 ((nI_leI (a := 8) (b := d) (by omega) (by omega)).mpr h)
        have c5n : d < 8 := Nat.not_le.mp c5
        refine hr_aload_n C dX2_hasChanges_8 rfl 0 rfl ?_
        refine hr_get (k := 8) (i := t) (fld := 4) C (show t < 8 by omega) rfl rfl (by decide) kU_X2 kF_X2_24 rfl rfl dX2_hasChanges_9 ?_
        refine hr_iload_n C dX2_hasChanges_12 rfl 1 rfl ?_
        refine hr_zald (k := 13) (i := t) d C (show t < 8 by omega) rfl rfl (show d < 8 by omega) (by decide) dX2_hasChanges_13 ?_
        refine hr_if_eq C 19 dX2_hasChanges_14 (by decide) (fun c14 => ?_) (fun c14 => ?_)
        · skip
          refine hr_iinc (v := nI (d + 1)) C [(1, .int (nI (d + 1))), (0, .ref (hr_ad E 8 t))] dX2_hasChanges_19 1 rfl (nI_add d 1) (by decide) rfl ?_
          refine hr_goto C 2 dX2_hasChanges_22 (by decide) ?_
          refine hr_sub [1, 0] rfl ?_
          refine hr_st (S1 := S) rfl ?_
          exact ih (d + 1)  (by omega) (by omega) (by unfold tb_any; rw [ha, c14]; rfl)
        · skip
          refine hr_iconst (v := 1) C dX2_hasChanges_17 (by decide) ?_
          exact hr_zret C hr rfl dX2_hasChanges_18 ⟨by rw [if_pos (tb_any_of c14 8 (by omega))], rfl⟩
  refine hr_sub [1, 0] rfl ?_
  refine hr_st (S1 := S) rfl ?_
  exact LP2 (8 + 1) 0  (by omega) (by omega) rfl
set_option maxHeartbeats 4000000 in
set_option maxRecDepth 100000 in
theorem ct_X2_read (l : Launch) (E : hr_E) (S : hr_S) (o : Int64) (t : Nat) (ht : t < 8) (d : Nat) (hd : d < 8) (w9 : Nat) (hw : w9 < 5) : hr_Mi l E yX2_read (Cond.code yX2_read cX2_read 3 (some .int) :: hr_W) ({ frames := 1, cells := 0, slots := 0, locals := 21 } : Room) [.ref (hr_ad E 8 t), .int (nI d), .int (nI w9)] S o (fun r u => r = tb_read S t d w9 ∧ u = S) := by
  refine hr_of (by decide) (Nat.le_of_ble_eq_true rfl) (fun p e s m below meth c C hr => ?_)
  refine hr_aload_n C dX2_read_0 rfl 0 rfl ?_
  refine hr_iload_n C dX2_read_1 rfl 1 rfl ?_
  refine hr_cVi C (ct_X2_has l E S o t (by omega) d (by omega)) (cwV 1 C.1.2.2.2.2 (hr_gV kM_X2_34 kI_X2_has kS_X2_has kN_X2 kC_X2_has) rfl rfl rfl (by decide +kernel) ⟨Nat.le_of_ble_eq_true rfl, Nat.le_of_ble_eq_true rfl⟩) (show t < 8 by omega) rfl rfl rfl (Nat.le_of_ble_eq_true rfl) dX2_read_2 ⟨Nat.le_of_ble_eq_true rfl, Nat.le_of_ble_eq_true rfl⟩ (fun r1 S2 h3 => ?_) rfl
  refine hr_tp h3.1 ?_
  refine hr_st h3.2 ?_
  refine hr_if_ne C 10 dX2_read_5 (by decide) (fun c5 => ?_) (fun c5 => ?_)
  · skip
    have c5 : ¬ S 9 t d = -1 := hr_bn.mp c5
    refine hr_iload_n C dX2_read_10 rfl 2 rfl ?_
    rcases (show w9 = 0 ∨ w9 = 1 ∨ w9 = 2 ∨ w9 = 3 ∨ w9 = 4 by omega) with rfl | rfl | rfl | rfl | rfl
    · skip
      refine hr_tabIn C 40 dX2_read_11 (by decide) (by decide) rfl (by decide) ?_
      refine hr_aload_n C dX2_read_40 rfl 0 rfl ?_
      refine hr_get (k := 8) (i := t) (fld := 0) C (show t < 8 by omega) rfl rfl (by decide) kU_X2 kF_X2_9 rfl rfl dX2_read_41 ?_
      refine hr_iload_n C dX2_read_44 rfl 1 rfl ?_
      refine hr_iald (k := 9) (i := t) d C (show t < 8 by omega) rfl rfl (show d < 8 by omega) (by decide) dX2_read_45 ?_
      exact hr_iret C hr dX2_read_46 ⟨by unfold tb_read; simp [c5], rfl⟩
    · skip
      refine hr_tabIn C 47 dX2_read_11 (by decide) (by decide) rfl (by decide) ?_
      refine hr_aload_n C dX2_read_47 rfl 0 rfl ?_
      refine hr_get (k := 8) (i := t) (fld := 1) C (show t < 8 by omega) rfl rfl (by decide) kU_X2 kF_X2_15 rfl rfl dX2_read_48 ?_
      refine hr_iload_n C dX2_read_51 rfl 1 rfl ?_
      refine hr_iald (k := 10) (i := t) d C (show t < 8 by omega) rfl rfl (show d < 8 by omega) (by decide) dX2_read_52 ?_
      exact hr_iret C hr dX2_read_53 ⟨by unfold tb_read; simp [c5], rfl⟩
    · skip
      refine hr_tabIn C 54 dX2_read_11 (by decide) (by decide) rfl (by decide) ?_
      refine hr_aload_n C dX2_read_54 rfl 0 rfl ?_
      refine hr_get (k := 8) (i := t) (fld := 2) C (show t < 8 by omega) rfl rfl (by decide) kU_X2 kF_X2_18 rfl rfl dX2_read_55 ?_
      refine hr_iload_n C dX2_read_58 rfl 1 rfl ?_
      refine hr_iald (k := 11) (i := t) d C (show t < 8 by omega) rfl rfl (show d < 8 by omega) (by decide) dX2_read_59 ?_
      exact hr_iret C hr dX2_read_60 ⟨by unfold tb_read; simp [c5], rfl⟩
    · skip
      refine hr_tabIn C 61 dX2_read_11 (by decide) (by decide) rfl (by decide) ?_
      refine hr_aload_n C dX2_read_61 rfl 0 rfl ?_
      refine hr_get (k := 8) (i := t) (fld := 4) C (show t < 8 by omega) rfl rfl (by decide) kU_X2 kF_X2_24 rfl rfl dX2_read_62 ?_
      refine hr_iload_n C dX2_read_65 rfl 1 rfl ?_
      refine hr_zald (k := 13) (i := t) d C (show t < 8 by omega) rfl rfl (show d < 8 by omega) (by decide) dX2_read_66 ?_
      refine hr_if_eq C 74 dX2_read_67 (by decide) (fun c67 => ?_) (fun c67 => ?_)
      · skip
        refine hr_iconst (v := 0) C dX2_read_74 (by decide) ?_
        exact hr_iret C hr dX2_read_75 ⟨by unfold tb_read; simp [c5, c67], rfl⟩
      · skip
        refine hr_iconst (v := 1) C dX2_read_70 (by decide) ?_
        refine hr_goto C 75 dX2_read_71 (by decide) ?_
        exact hr_iret C hr dX2_read_75 ⟨by unfold tb_read; simp [c5, c67], rfl⟩
    · skip
      refine hr_tabOut C 76 dX2_read_11 (by decide) (by decide) ?_
      refine hr_aload_n C dX2_read_76 rfl 0 rfl ?_
      refine hr_get (k := 8) (i := t) (fld := 3) C (show t < 8 by omega) rfl rfl (by decide) kU_X2 kF_X2_21 rfl rfl dX2_read_77 ?_
      refine hr_iload_n C dX2_read_80 rfl 1 rfl ?_
      refine hr_iald (k := 12) (i := t) d C (show t < 8 by omega) rfl rfl (show d < 8 by omega) (by decide) dX2_read_81 ?_
      exact hr_iret C hr dX2_read_82 ⟨by unfold tb_read; simp [c5], rfl⟩
  · skip
    have c5 : ¬ (¬ S 9 t d = -1) := hr_bz.mp c5
    refine hr_iconst (v := (-1)) C dX2_read_8 (by decide) ?_
    exact hr_iret C hr dX2_read_9 ⟨by unfold tb_read; simp [c5], rfl⟩
set_option maxHeartbeats 4000000 in
set_option maxRecDepth 100000 in
theorem ct_X0_at (l : Launch) (E : hr_E) (S : hr_S) (o : Int64) (k : Nat) (hk : k < 200) (hb : nb (S 5 0 k) 200) : hr_Mr l E yX0_at (Cond.code yX0_at cX0_at 2 (some (.object "HopRouters$Packet")) :: hr_W) ({ frames := 0, cells := 0, slots := 0, locals := 0 } : Room) [.ref (hr_ad E 3 0), .int (nI k)] S o (hr_ad E 6 (un (S 5 0 k))) (fun u => u = S) := by
  refine hr_of (by decide) (Nat.le_of_ble_eq_true rfl) (fun p e s m below meth c C hr => ?_)
  refine hr_aload_n C dX0_at_0 rfl 0 rfl ?_
  refine hr_get (k := 3) (i := 0) (fld := 0) C (by decide) rfl rfl (by decide) kU_X0 kF_X0_11 rfl rfl dX0_at_1 ?_
  refine hr_aload_n C dX0_at_4 rfl 0 rfl ?_
  refine hr_get (k := 3) (i := 0) (fld := 1) C (by decide) rfl rfl (by decide) kU_X0 kF_X0_17 rfl rfl dX0_at_5 ?_
  refine hr_iload_n C dX0_at_8 rfl 1 rfl ?_
  refine hr_iald (k := 5) (i := 0) k C (by decide) rfl rfl (show k < 200 by omega) (by decide) dX0_at_9 ?_
  refine hr_tp (y := nI (un (S 5 0 k))) hb.1 ?_
  refine hr_aald (k := 4) (i := 0) (t0 := 3) (k2 := 6) (un (S 5 0 k)) C (by decide) rfl rfl rfl hb.2 (by decide) dX0_at_10 ?_
  exact hr_aret C hr (Or.inl ⟨_, rfl⟩) dX0_at_11 rfl
set_option maxHeartbeats 4000000 in
set_option maxRecDepth 100000 in
theorem ct_X0_launch (l : Launch) (E : hr_E) (S : hr_S) (o : Int64) (q : Nat) (hq : q < 202) (hI : hr_CI S) (hne : ai_n S < 200 → ¬ ai_o S (ai_n S) = q) : hr_Mv l E yX0_launch (Cond.code yX0_launch cX0_launch 2 none :: hr_W) ({ frames := 2, cells := 0, slots := 0, locals := 61 } : Room) [.ref (hr_ad E 3 0), .ref (hr_ad E 6 q)] S o (fun u => u = ai_launch S q) := by
  refine hr_of (by decide) (Nat.le_of_ble_eq_true rfl) (fun p e s m below meth c C hr => ?_)
  have hn2 := hI.1.2
  refine hr_aload_n C dX0_launch_0 rfl 0 rfl ?_
  refine hr_dup C dX0_launch_1 rfl ?_
  refine hr_get (k := 3) (i := 0) (fld := 3) C (by decide) rfl rfl (by decide) kU_X0 kF_X0_22 rfl rfl dX0_launch_2 ?_
  refine hr_iconst (v := 1) C dX0_launch_5 (by decide) ?_
  refine hr_iadd C dX0_launch_6 rfl ?_
  refine hr_put (k := 3) (i := 0) (fld := 3) C (by decide) rfl rfl (by decide) kU_X0 kF_X0_22 rfl tyX0 tyX0_ok nmX0 rfl (by decide +kernel) (Nat.le_of_ble_eq_true rfl) (by simp [hr_cell, hr_w, hr_wA, upd]) rfl dX0_launch_7 ?_
  refine hr_aload_n C dX0_launch_10 rfl 0 rfl ?_
  refine hr_get (k := 3) (i := 0) (fld := 2) C (by decide) rfl rfl (by decide) kU_X0 kF_X0_26 rfl rfl dX0_launch_11 ?_
  refine hr_tp (y := S 3 0 2) (by simp [hr_w, hr_wA, upd]) ?_
  refine hr_tp (y := nI (un (S 3 0 2))) hI.1.1 ?_
  refine hr_sipush (v := 200) C dX0_launch_14 (by decide) ?_
  refine hr_icmp_lt C 31 dX0_launch_17 (by decide) (fun c17 => ?_) (fun c17 => ?_)
  · skip
    have c17 : (un (S 3 0 2)) < 200 := (nI_ltI (a := (un (S 3 0 2))) (b := 200) (by omega) (by omega)).mp c17
    have c17n : ¬ 200 ≤ (un (S 3 0 2)) := Nat.not_le.mpr c17
    refine hr_aload_n C dX0_launch_31 rfl 0 rfl ?_
    refine hr_get (k := 3) (i := 0) (fld := 0) C (by decide) rfl rfl (by decide) kU_X0 kF_X0_11 rfl rfl dX0_launch_32 ?_
    refine hr_aload_n C dX0_launch_35 rfl 0 rfl ?_
    refine hr_get (k := 3) (i := 0) (fld := 1) C (by decide) rfl rfl (by decide) kU_X0 kF_X0_17 rfl rfl dX0_launch_36 ?_
    refine hr_aload_n C dX0_launch_39 rfl 0 rfl ?_
    refine hr_get (k := 3) (i := 0) (fld := 2) C (by decide) rfl rfl (by decide) kU_X0 kF_X0_26 rfl rfl dX0_launch_40 ?_
    refine hr_tp (y := S 3 0 2) (by simp [hr_w, hr_wA, upd]) ?_
    refine hr_tp (y := nI (un (S 3 0 2))) hI.1.1 ?_
    refine hr_iald (k := 5) (i := 0) (un (S 3 0 2)) C (by decide) rfl rfl c17 (by decide) dX0_launch_43 ?_
    refine hr_tp (y := S 5 0 (un (S 3 0 2))) rfl ?_
    refine hr_tp (y := nI (un (S 5 0 (un (S 3 0 2))))) (hI.2.1 _ c17).1 ?_
    refine hr_aald (k := 4) (i := 0) (t0 := 3) (k2 := 6) (un (S 5 0 (un (S 3 0 2)))) C (by decide) rfl rfl rfl (hI.2.1 _ c17).2 (by decide) dX0_launch_44 ?_
    refine hr_aload_n C dX0_launch_45 rfl 1 rfl ?_
    refine hr_cVv C (ct_X1_become l E (hr_w S 3 0 3 ((S 3 0 3) + 1)) o (un (S 5 0 (un (S 3 0 2)))) (Nat.lt_trans (hI.2.1 _ c17).2 (by decide)) q hq (fun h => hne c17 h.symm)) (cwV 1 C.1.2.2.2.2 (hr_gV kM_X0_32 kI_X1_become kS_X1_become kN_X1 kC_X1_become) rfl rfl rfl (by decide +kernel) ⟨Nat.le_of_ble_eq_true rfl, Nat.le_of_ble_eq_true rfl⟩) (show _ < 202 from Nat.lt_trans (hI.2.1 _ c17).2 (by decide)) rfl rfl rfl (Nat.le_of_ble_eq_true rfl) dX0_launch_46 ⟨Nat.le_of_ble_eq_true rfl, Nat.le_of_ble_eq_true rfl⟩ (fun S2 h3 => ?_) rfl
    refine hr_st h3 ?_
    refine hr_aload_n C dX0_launch_49 rfl 0 rfl ?_
    refine hr_dup C dX0_launch_50 rfl ?_
    refine hr_get (k := 3) (i := 0) (fld := 2) C (by decide) rfl rfl (by decide) kU_X0 kF_X0_26 rfl rfl dX0_launch_51 ?_
    refine hr_tp (y := nI (un (S 3 0 2))) (show S 3 0 2 = _ from hI.1.1) ?_
    refine hr_iconst (v := 1) C dX0_launch_54 (by decide) ?_
    refine hr_iadd (v := nI ((un (S 3 0 2)) + 1)) C dX0_launch_55 (nI_add (un (S 3 0 2)) 1) ?_
    refine hr_put (k := 3) (i := 0) (fld := 2) C (by decide) rfl rfl (by decide) kU_X0 kF_X0_26 rfl tyX0 tyX0_ok nmX0 rfl (by decide +kernel) (Nat.le_of_ble_eq_true rfl) (by simp [hr_cell, hr_w, hr_wA, upd]) rfl dX0_launch_56 ?_
    exact hr_vret C hr dX0_launch_59 (by unfold ai_launch; first | (rw [if_pos (show ai_n S < 200 from c17)]; try rfl) | (rw [if_neg (show ¬ ai_n S < 200 from c17)]; try rfl))
  · skip
    have c17 : ¬ (un (S 3 0 2)) < 200 := fun h => c17 ((nI_ltI (a := (un (S 3 0 2))) (b := 200) (by omega) (by omega)).mpr h)
    have c17n : 200 ≤ (un (S 3 0 2)) := Nat.not_lt.mp c17
    refine hr_aload_n C dX0_launch_20 rfl 0 rfl ?_
    refine hr_dup C dX0_launch_21 rfl ?_
    refine hr_get (k := 3) (i := 0) (fld := 4) C (by decide) rfl rfl (by decide) kU_X0 kF_X0_29 rfl rfl dX0_launch_22 ?_
    refine hr_tp (y := S 3 0 4) (by simp [hr_w, hr_wA, upd]) ?_
    refine hr_iconst (v := 1) C dX0_launch_25 (by decide) ?_
    refine hr_iadd C dX0_launch_26 rfl ?_
    refine hr_put (k := 3) (i := 0) (fld := 4) C (by decide) rfl rfl (by decide) kU_X0 kF_X0_29 rfl tyX0 tyX0_ok nmX0 rfl (by decide +kernel) (Nat.le_of_ble_eq_true rfl) (by simp [hr_cell, hr_w, hr_wA, upd]) rfl dX0_launch_27 ?_
    exact hr_vret C hr dX0_launch_30 (by unfold ai_launch; first | (rw [if_pos (show ai_n S < 200 from c17)]; try rfl) | (rw [if_neg (show ¬ ai_n S < 200 from c17)]; try rfl))
set_option maxHeartbeats 4000000 in
set_option maxRecDepth 100000 in
theorem ct_X0_remove (l : Launch) (E : hr_E) (S : hr_S) (o : Int64) (k : Nat) (hk : k < ai_n S) (hI : hr_CI S) : hr_Mv l E yX0_remove (Cond.code yX0_remove cX0_remove 3 none :: hr_W) ({ frames := 1, cells := 0, slots := 0, locals := 40 } : Room) [.ref (hr_ad E 3 0), .int (nI k)] S o (fun u => u = ai_remove S k) := by
  refine hr_of (by decide) (Nat.le_of_ble_eq_true rfl) (fun p e s m below meth c C hr => ?_)
  have hn2 := hI.1.2
  have hk2 : k < un (S 3 0 2) := hk
  refine hr_aload_n C dX0_remove_0 rfl 0 rfl ?_
  refine hr_get (k := 3) (i := 0) (fld := 1) C (by decide) rfl rfl (by decide) kU_X0 kF_X0_17 rfl rfl dX0_remove_1 ?_
  refine hr_iload_n C dX0_remove_4 rfl 1 rfl ?_
  refine hr_iald (k := 5) (i := 0) k C (by decide) rfl rfl (show k < 200 by omega) (by decide) dX0_remove_5 ?_
  refine hr_istore_n C [(2, .int (S 5 0 k)), (0, .ref (hr_ad E 3 0)), (1, .int (nI k))] dX0_remove_6 rfl (by decide) rfl ?_
  refine hr_aload_n C dX0_remove_7 rfl 1 rfl ?_
  refine hr_dup C dX0_remove_8 rfl ?_
  refine hr_get (k := 3) (i := 0) (fld := 2) C (by decide) rfl rfl (by decide) kU_X0 kF_X0_26 rfl rfl dX0_remove_9 ?_
  refine hr_tp (y := nI (un (S 3 0 2))) hI.1.1 ?_
  refine hr_iconst (v := 1) C dX0_remove_12 (by decide) ?_
  refine hr_isub (v := nI ((un (S 3 0 2)) - 1)) C dX0_remove_13 (pk_sub (a := (un (S 3 0 2))) (b := 1) (by omega)) ?_
  refine hr_put (k := 3) (i := 0) (fld := 2) C (by decide) rfl rfl (by decide) kU_X0 kF_X0_26 rfl tyX0 tyX0_ok nmX0 rfl (by decide +kernel) (Nat.le_of_ble_eq_true rfl) (by simp [hr_cell, hr_w, hr_wA, upd]) rfl dX0_remove_14 ?_
  refine hr_aload_n C dX0_remove_17 rfl 1 rfl ?_
  refine hr_get (k := 3) (i := 0) (fld := 1) C (by decide) rfl rfl (by decide) kU_X0 kF_X0_17 rfl rfl dX0_remove_18 ?_
  refine hr_iload_n C dX0_remove_21 rfl 2 rfl ?_
  refine hr_iconst (v := 1) C dX0_remove_22 (by decide) ?_
  refine hr_iadd (v := nI (k + 1)) C dX0_remove_23 (nI_add k 1) ?_
  refine hr_aload_n C dX0_remove_24 rfl 1 rfl ?_
  refine hr_get (k := 3) (i := 0) (fld := 1) C (by decide) rfl rfl (by decide) kU_X0 kF_X0_17 rfl rfl dX0_remove_25 ?_
  refine hr_iload_n C dX0_remove_28 rfl 2 rfl ?_
  refine hr_aload_n C dX0_remove_29 rfl 1 rfl ?_
  refine hr_get (k := 3) (i := 0) (fld := 2) C (by decide) rfl rfl (by decide) kU_X0 kF_X0_26 rfl rfl dX0_remove_30 ?_
  refine hr_tp (y := nI ((un (S 3 0 2)) - 1)) (by simp [hr_w, hr_wA, upd]) ?_
  refine hr_iload_n C dX0_remove_33 rfl 2 rfl ?_
  refine hr_isub (v := nI (((un (S 3 0 2)) - 1) - k)) C dX0_remove_34 (pk_sub (a := ((un (S 3 0 2)) - 1)) (b := k) (by omega)) ?_
  refine hr_copy (k0 := 5) (i0 := 0) (k := 5) (i := 0) (k + 1) k (((un (S 3 0 2)) - 1) - k) C (by decide) (by decide) rfl rfl rfl rfl rfl (show (k + 1) + (((un (S 3 0 2)) - 1) - k) ≤ 200 by omega) (show k + (((un (S 3 0 2)) - 1) - k) ≤ 200 by omega) (by decide) (by decide) kM_X0_36 kV_arraycopy kT_arraycopy kN_System (Nat.le_of_ble_eq_true rfl) (Nat.le_of_ble_eq_true rfl) (by simp [hr_cell, hr_wA]) rfl dX0_remove_35 ?_
  refine hr_aload_n C dX0_remove_38 rfl 1 rfl ?_
  refine hr_get (k := 3) (i := 0) (fld := 1) C (by decide) rfl rfl (by decide) kU_X0 kF_X0_17 rfl rfl dX0_remove_39 ?_
  refine hr_aload_n C dX0_remove_42 rfl 1 rfl ?_
  refine hr_get (k := 3) (i := 0) (fld := 2) C (by decide) rfl rfl (by decide) kU_X0 kF_X0_26 rfl rfl dX0_remove_43 ?_
  refine hr_tp (y := nI ((un (S 3 0 2)) - 1)) (by simp [hr_w, hr_wA, upd]) ?_
  refine hr_iload_n C dX0_remove_46 rfl 0 rfl ?_
  refine hr_iast (k := 5) (i := 0) ((un (S 3 0 2)) - 1) C (by decide) rfl rfl (show (un (S 3 0 2)) - 1 < 200 by omega) (by decide) (by simp [hr_cell, hr_wA]) rfl dX0_remove_47 ?_
  exact hr_vret C hr dX0_remove_48 rfl
set_option maxHeartbeats 4000000 in
set_option maxRecDepth 100000 in
theorem ct_X3_isUp (l : Launch) (E : hr_E) (S : hr_S) (o : Int64) (a b : Nat) (ha : a < 8) (hb : b < 8) (hz : S 1 0 (a * 8 + b) = 0 ∨ S 1 0 (a * 8 + b) = 1) : hr_Mi l E yX3_isUp (Cond.code yX3_isUp cX3_isUp 3 (some .boolean) :: hr_W) ({ frames := 0, cells := 0, slots := 0, locals := 0 } : Room) [.ref (hr_ad E 0 0), .int (nI a), .int (nI b)] S o (fun r u => r = (if ¬ S 1 0 (a * 8 + b) = 0 then 1 else 0) ∧ u = S) := by
  refine hr_of (by decide) (Nat.le_of_ble_eq_true rfl) (fun p e s m below meth c C hr => ?_)
  refine hr_aload_n C dX3_isUp_0 rfl 0 rfl ?_
  refine hr_get (k := 0) (i := 0) (fld := 0) C (by decide) rfl rfl (by decide) kU_X3 kF_X3_9 rfl rfl dX3_isUp_1 ?_
  refine hr_iload_n C dX3_isUp_4 rfl 1 rfl ?_
  refine hr_bipush (v := 8) C dX3_isUp_5 (by decide) ?_
  refine hr_imul (v := nI (a * 8)) C dX3_isUp_7 (pk_mul a 8) ?_
  refine hr_iload_n C dX3_isUp_8 rfl 2 rfl ?_
  refine hr_iadd (v := nI ((a * 8) + b)) C dX3_isUp_9 (nI_add (a * 8) b) ?_
  refine hr_zald (k := 1) (i := 0) ((a * 8) + b) C (by decide) rfl rfl (show (a * 8) + b < 64 by omega) (by decide) dX3_isUp_10 ?_
  exact hr_zret C hr (by rcases hz with h | h <;> rw [h] <;> rfl) dX3_isUp_11 ⟨by rcases hz with h | h <;> simp [h], rfl⟩
set_option maxHeartbeats 4000000 in
set_option maxRecDepth 100000 in
theorem ct_X3_checkRouter (l : Launch) (htr : l.stackTraces = false) (E : hr_E) (S : hr_S) (o : Int64) (a : Int32) : hr_Xv l E yX3_checkRouter (Cond.code yX3_checkRouter cX3_checkRouter 1 none :: hr_W) ({ frames := 6, cells := 1, slots := 6, locals := 90 } : Room) [.int a] S o (fun u => u = S ∧ nb a 8) (fun X => X = "java/lang/IndexOutOfBoundsException" ∧ ¬ nb a 8) 1 6 := by
  refine hr_ofX (by decide) (Nat.le_of_ble_eq_true rfl) (fun p e s m below meth c C hr htab => ?_)
  refine hr_iload_n C dX3_checkRouter_0 rfl 0 rfl ?_
  refine hr_if_lt C 10 dX3_checkRouter_1 (by decide) (fun c1 => ?_) (fun c1 => ?_)
  · skip
    have c1n : ¬ 0 ≤ a := Int32.not_le.mpr c1
    exact hr_throw (text := "no such router") C htr htab (by decide) ⟨rfl, nb_lt0 c1 (by decide)⟩ kL_X3_131 kN_IndexOutOfBoundsException (by decide) (hr_at_135 C) hr_good_135 dX3_checkRouter_10 dX3_checkRouter_13 dX3_checkRouter_14 dX3_checkRouter_16 dX3_checkRouter_19 (Nat.le_of_ble_eq_true rfl) (Nat.le_of_ble_eq_true rfl) (Nat.le_of_ble_eq_true rfl) (Nat.le_of_ble_eq_true rfl) (Nat.le_of_ble_eq_true rfl) (Nat.le_of_ble_eq_true rfl) rfl
  · skip
    have c1n : 0 ≤ a := Int32.not_lt.mp c1
    refine hr_iload_n C dX3_checkRouter_4 rfl 0 rfl ?_
    refine hr_bipush (v := 8) C dX3_checkRouter_5 (by decide) ?_
    refine hr_icmp_lt C 20 dX3_checkRouter_7 (by decide) (fun c7 => ?_) (fun c7 => ?_)
    · skip
      have c7n : ¬ 8 ≤ a := Int32.not_le.mpr c7
      refine hr_xr ?_ (Nat.le_of_ble_eq_true rfl) (Nat.le_of_ble_eq_true rfl)
      exact hr_vret C hr dX3_checkRouter_20 ⟨rfl, nb_of c1 c7 rfl (by decide)⟩
    · skip
      have c7n : 8 ≤ a := Int32.not_lt.mp c7
      exact hr_throw (text := "no such router") C htr htab (by decide) ⟨rfl, nb_ge c7 rfl (by decide)⟩ kL_X3_131 kN_IndexOutOfBoundsException (by decide) (hr_at_135 C) hr_good_135 dX3_checkRouter_10 dX3_checkRouter_13 dX3_checkRouter_14 dX3_checkRouter_16 dX3_checkRouter_19 (Nat.le_of_ble_eq_true rfl) (Nat.le_of_ble_eq_true rfl) (Nat.le_of_ble_eq_true rfl) (Nat.le_of_ble_eq_true rfl) (Nat.le_of_ble_eq_true rfl) (Nat.le_of_ble_eq_true rfl) rfl
set_option maxHeartbeats 4000000 in
set_option maxRecDepth 100000 in
theorem ct_X3_checkPair (l : Launch) (htr : l.stackTraces = false) (E : hr_E) (S : hr_S) (o : Int64) (a b : Int32) : hr_Xv l E yX3_checkPair (Cond.code yX3_checkPair cX3_checkPair 2 none :: hr_W) ({ frames := 7, cells := 3, slots := 18, locals := 110 } : Room) [.int a, .int b] S o (fun u => u = S ∧ nb a 8 ∧ nb b 8 ∧ ¬ a = b) (fun X => (X = "java/lang/IndexOutOfBoundsException" ∧ ¬ (nb a 8 ∧ nb b 8)) ∨ (X = "java/lang/IllegalArgumentException" ∧ (nb a 8 ∧ nb b 8) ∧ a = b)) 3 18 := by
  refine hr_ofX (by decide) (Nat.le_of_ble_eq_true rfl) (fun p e s m below meth c C hr htab => ?_)
  refine hr_iload_n C dX3_checkPair_0 rfl 0 rfl ?_
  refine hr_xSv C htab (ct_X3_checkRouter l htr E S o a) (cwS 1 C.1.2.2.2.2 (hr_gS kM_X3_60 kT_X3_checkRouter kN_X3 kC_X3_checkRouter) rfl rfl rfl (by decide +kernel) ⟨Nat.le_of_ble_eq_true rfl, Nat.le_of_ble_eq_true rfl⟩) rfl (Nat.le_of_ble_eq_true rfl) dX3_checkPair_1 ⟨Nat.le_of_ble_eq_true rfl, Nat.le_of_ble_eq_true rfl⟩ ⟨Nat.le_of_ble_eq_true rfl, Nat.le_of_ble_eq_true rfl⟩ (fun X h => Or.inl ⟨h.1, fun z => h.2 z.1⟩) (fun S2 h3 => ?_) rfl
  obtain ⟨h3, fa⟩ := h3
  refine hr_st h3 ?_
  refine hr_iload_n C dX3_checkPair_4 rfl 1 rfl ?_
  refine hr_xSv C htab (ct_X3_checkRouter l htr E S o b) (cwS 1 C.1.2.2.2.2 (hr_gS kM_X3_60 kT_X3_checkRouter kN_X3 kC_X3_checkRouter) rfl rfl rfl (by decide +kernel) ⟨Nat.le_of_ble_eq_true rfl, Nat.le_of_ble_eq_true rfl⟩) rfl (Nat.le_of_ble_eq_true rfl) dX3_checkPair_5 ⟨Nat.le_of_ble_eq_true rfl, Nat.le_of_ble_eq_true rfl⟩ ⟨Nat.le_of_ble_eq_true rfl, Nat.le_of_ble_eq_true rfl⟩ (fun X h => Or.inl ⟨h.1, fun z => h.2 z.2⟩) (fun S5 h6 => ?_) rfl
  obtain ⟨h6, fb⟩ := h6
  refine hr_st h6 ?_
  refine hr_iload_n C dX3_checkPair_8 rfl 0 rfl ?_
  refine hr_iload_n C dX3_checkPair_9 rfl 1 rfl ?_
  refine hr_icmp_ne C 23 dX3_checkPair_10 (by decide) (fun c10 => ?_) (fun c10 => ?_)
  · skip
    refine hr_xr ?_ (Nat.le_of_ble_eq_true rfl) (Nat.le_of_ble_eq_true rfl)
    exact hr_vret C hr dX3_checkPair_23 ⟨rfl, fa, fb, c10⟩
  · skip
    exact hr_throw (text := "both routers are the same") C htr htab (by decide) (Or.inr ⟨rfl, ⟨fa, fb⟩, c10⟩) kL_X3_82 kN_IllegalArgumentException (by decide) (hr_at_86 C) hr_good_86 dX3_checkPair_13 dX3_checkPair_16 dX3_checkPair_17 dX3_checkPair_19 dX3_checkPair_22 (Nat.le_of_ble_eq_true rfl) (Nat.le_of_ble_eq_true rfl) (Nat.le_of_ble_eq_true rfl) (Nat.le_of_ble_eq_true rfl) (Nat.le_of_ble_eq_true rfl) (Nat.le_of_ble_eq_true rfl) rfl
set_option maxHeartbeats 4000000 in
set_option maxRecDepth 100000 in
theorem ct_X3_checkPacket (l : Launch) (htr : l.stackTraces = false) (E : hr_E) (S : hr_S) (o : Int64) (k : Int32) (hI : hr_CI S) : hr_Xv l E yX3_checkPacket (Cond.code yX3_checkPacket cX3_checkPacket 2 none :: hr_W) ({ frames := 6, cells := 1, slots := 6, locals := 90 } : Room) [.ref (hr_ad E 0 0), .int k] S o (fun u => u = S ∧ nb k (ai_n S)) (fun X => X = "java/lang/IndexOutOfBoundsException" ∧ ¬ nb k (ai_n S)) 1 6 := by
  refine hr_ofX (by decide) (Nat.le_of_ble_eq_true rfl) (fun p e s m below meth c C hr htab => ?_)
  have hn2 := hI.1.2
  refine hr_iload_n C dX3_checkPacket_0 rfl 1 rfl ?_
  refine hr_if_lt C 15 dX3_checkPacket_1 (by decide) (fun c1 => ?_) (fun c1 => ?_)
  · skip
    have c1n : ¬ 0 ≤ k := Int32.not_le.mpr c1
    exact hr_throw (text := "no such packet") C htr htab (by decide) ⟨rfl, nb_lt0 c1 (by have : ai_n S < 201 := hn2; omega)⟩ kL_X3_131 kN_IndexOutOfBoundsException (by decide) (hr_at_135 C) hr_good_135 dX3_checkPacket_15 dX3_checkPacket_18 dX3_checkPacket_19 dX3_checkPacket_21 dX3_checkPacket_24 (Nat.le_of_ble_eq_true rfl) (Nat.le_of_ble_eq_true rfl) (Nat.le_of_ble_eq_true rfl) (Nat.le_of_ble_eq_true rfl) (Nat.le_of_ble_eq_true rfl) (Nat.le_of_ble_eq_true rfl) rfl
  · skip
    have c1n : 0 ≤ k := Int32.not_lt.mp c1
    refine hr_iload_n C dX3_checkPacket_4 rfl 1 rfl ?_
    refine hr_aload_n C dX3_checkPacket_5 rfl 0 rfl ?_
    refine hr_get (k := 0) (i := 0) (fld := 2) C (by decide) rfl rfl (by decide) kU_X3 kF_X3_22 rfl rfl dX3_checkPacket_6 ?_
    refine hr_get (k := 3) (i := 0) (fld := 2) C (by decide) rfl rfl (by decide) kU_X0 kF_X3_79 rfl rfl dX3_checkPacket_9 ?_
    refine hr_icmp_lt C 25 dX3_checkPacket_12 (by decide) (fun c12 => ?_) (fun c12 => ?_)
    · skip
      have c12n : ¬ (S 3 0 2) ≤ k := Int32.not_le.mpr c12
      refine hr_xr ?_ (Nat.le_of_ble_eq_true rfl) (Nat.le_of_ble_eq_true rfl)
      exact hr_vret C hr dX3_checkPacket_25 ⟨rfl, nb_of c1 c12 hI.1.1 (by have : ai_n S < 201 := hn2; omega)⟩
    · skip
      have c12n : (S 3 0 2) ≤ k := Int32.not_lt.mp c12
      exact hr_throw (text := "no such packet") C htr htab (by decide) ⟨rfl, nb_ge c12 hI.1.1 (by have : ai_n S < 201 := hn2; omega)⟩ kL_X3_131 kN_IndexOutOfBoundsException (by decide) (hr_at_135 C) hr_good_135 dX3_checkPacket_15 dX3_checkPacket_18 dX3_checkPacket_19 dX3_checkPacket_21 dX3_checkPacket_24 (Nat.le_of_ble_eq_true rfl) (Nat.le_of_ble_eq_true rfl) (Nat.le_of_ble_eq_true rfl) (Nat.le_of_ble_eq_true rfl) (Nat.le_of_ble_eq_true rfl) (Nat.le_of_ble_eq_true rfl) rfl
set_option maxHeartbeats 4000000 in
set_option maxRecDepth 100000 in
theorem ct_X3_checkByte (l : Launch) (htr : l.stackTraces = false) (E : hr_E) (S : hr_S) (o : Int64) (i : Nat) (hi : i < 202) (j : Int32) (hb : nb (S 6 i 2) 165) : hr_Xv l E yX3_checkByte (Cond.code yX3_checkByte cX3_checkByte 2 none :: hr_W) ({ frames := 6, cells := 1, slots := 6, locals := 90 } : Room) [.ref (hr_ad E 6 i), .int j] S o (fun u => u = S ∧ nb j (un (S 6 i 2))) (fun X => X = "java/lang/IndexOutOfBoundsException" ∧ ¬ nb j (un (S 6 i 2))) 1 6 := by
  refine hr_ofX (by decide) (Nat.le_of_ble_eq_true rfl) (fun p e s m below meth c C hr htab => ?_)
  have hb2 := hb.2
  refine hr_iload_n C dX3_checkByte_0 rfl 1 rfl ?_
  refine hr_if_lt C 12 dX3_checkByte_1 (by decide) (fun c1 => ?_) (fun c1 => ?_)
  · skip
    have c1n : ¬ 0 ≤ j := Int32.not_le.mpr c1
    exact hr_throw (text := "no such byte") C htr htab (by decide) ⟨rfl, nb_lt0 c1 (by omega)⟩ kL_X3_131 kN_IndexOutOfBoundsException (by decide) (hr_at_135 C) hr_good_135 dX3_checkByte_12 dX3_checkByte_15 dX3_checkByte_16 dX3_checkByte_18 dX3_checkByte_21 (Nat.le_of_ble_eq_true rfl) (Nat.le_of_ble_eq_true rfl) (Nat.le_of_ble_eq_true rfl) (Nat.le_of_ble_eq_true rfl) (Nat.le_of_ble_eq_true rfl) (Nat.le_of_ble_eq_true rfl) rfl
  · skip
    have c1n : 0 ≤ j := Int32.not_lt.mp c1
    refine hr_iload_n C dX3_checkByte_4 rfl 1 rfl ?_
    refine hr_aload_n C dX3_checkByte_5 rfl 0 rfl ?_
    refine hr_get (k := 6) (i := i) (fld := 2) C (show i < 202 by omega) rfl rfl (by decide) kU_X1 kF_X3_120 rfl rfl dX3_checkByte_6 ?_
    refine hr_icmp_lt C 22 dX3_checkByte_9 (by decide) (fun c9 => ?_) (fun c9 => ?_)
    · skip
      have c9n : ¬ (S 6 i 2) ≤ j := Int32.not_le.mpr c9
      refine hr_xr ?_ (Nat.le_of_ble_eq_true rfl) (Nat.le_of_ble_eq_true rfl)
      exact hr_vret C hr dX3_checkByte_22 ⟨rfl, nb_of c1 c9 hb.1 (by omega)⟩
    · skip
      have c9n : (S 6 i 2) ≤ j := Int32.not_lt.mp c9
      exact hr_throw (text := "no such byte") C htr htab (by decide) ⟨rfl, nb_ge c9 hb.1 (by omega)⟩ kL_X3_131 kN_IndexOutOfBoundsException (by decide) (hr_at_135 C) hr_good_135 dX3_checkByte_12 dX3_checkByte_15 dX3_checkByte_16 dX3_checkByte_18 dX3_checkByte_21 (Nat.le_of_ble_eq_true rfl) (Nat.le_of_ble_eq_true rfl) (Nat.le_of_ble_eq_true rfl) (Nat.le_of_ble_eq_true rfl) (Nat.le_of_ble_eq_true rfl) (Nat.le_of_ble_eq_true rfl) rfl
def cl_mans (S : hr_S) (r d : Nat) : Int32 := if d = r then 1 else if ¬ S 9 r d = -1 then S 9 r d else 16
set_option maxHeartbeats 4000000 in
set_option maxRecDepth 100000 in
theorem ct_X3_metricAnswered (l : Launch) (E : hr_E) (S : hr_S) (o : Int64) (r9 d : Nat) (hr9 : r9 < 8) (hd : d < 8) : hr_Mi l E yX3_metricAnswered (Cond.code yX3_metricAnswered cX3_metricAnswered 3 (some .int) :: hr_W) ({ frames := 1, cells := 0, slots := 0, locals := 21 } : Room) [.ref (hr_ad E 0 0), .int (nI r9), .int (nI d)] S o (fun r u => r = cl_mans S r9 d ∧ u = S) := by
  refine hr_of (by decide) (Nat.le_of_ble_eq_true rfl) (fun p e s m below meth c C hr => ?_)
  refine hr_iload_n C dX3_metricAnswered_0 rfl 2 rfl ?_
  refine hr_iload_n C dX3_metricAnswered_1 rfl 1 rfl ?_
  refine hr_icmp_ne C 7 dX3_metricAnswered_2 (by decide) (fun c2 => ?_) (fun c2 => ?_)
  · skip
    have c2 : ¬ d = r9 := fun h => c2 ((nI_eq (a := d) (b := r9) (by omega) (by omega)).mpr h)
    refine hr_aload_n C dX3_metricAnswered_7 rfl 0 rfl ?_
    refine hr_get (k := 0) (i := 0) (fld := 1) C (by decide) rfl rfl (by decide) kU_X3 kF_X3_15 rfl rfl dX3_metricAnswered_8 ?_
    refine hr_iload_n C dX3_metricAnswered_11 rfl 1 rfl ?_
    refine hr_aald (k := 2) (i := 0) (t0 := 4) (k2 := 8) r9 C (by decide) rfl rfl rfl (show r9 < 8 by omega) (by decide) dX3_metricAnswered_12 ?_
    refine hr_iload_n C dX3_metricAnswered_13 rfl 2 rfl ?_
    refine hr_cVi C (ct_X2_has l E S o r9 (by omega) d (by omega)) (cwV 1 C.1.2.2.2.2 (hr_gV kM_X3_185 kI_X2_has kS_X2_has kN_X2 kC_X2_has) rfl rfl rfl (by decide +kernel) ⟨Nat.le_of_ble_eq_true rfl, Nat.le_of_ble_eq_true rfl⟩) (show r9 < 8 by omega) rfl rfl rfl (Nat.le_of_ble_eq_true rfl) dX3_metricAnswered_14 ⟨Nat.le_of_ble_eq_true rfl, Nat.le_of_ble_eq_true rfl⟩ (fun r1 S2 h3 => ?_) rfl
    refine hr_tp h3.1 ?_
    refine hr_st h3.2 ?_
    refine hr_if_eq C 34 dX3_metricAnswered_17 (by decide) (fun c17 => ?_) (fun c17 => ?_)
    · skip
      have c17 : ¬ (¬ S 9 r9 d = -1) := hr_bz.mp c17
      refine hr_bipush (v := 16) C dX3_metricAnswered_34 (by decide) ?_
      exact hr_iret C hr dX3_metricAnswered_36 ⟨by unfold cl_mans; repeat (first | rw [if_pos c2] | rw [if_neg c2] | rw [if_neg (not_not_intro c2)] | rw [if_pos c17] | rw [if_neg c17] | rw [if_neg (not_not_intro c17)]), rfl⟩
    · skip
      have c17 : ¬ S 9 r9 d = -1 := hr_bn.mp c17
      refine hr_aload_n C dX3_metricAnswered_20 rfl 0 rfl ?_
      refine hr_get (k := 0) (i := 0) (fld := 1) C (by decide) rfl rfl (by decide) kU_X3 kF_X3_15 rfl rfl dX3_metricAnswered_21 ?_
      refine hr_iload_n C dX3_metricAnswered_24 rfl 1 rfl ?_
      refine hr_aald (k := 2) (i := 0) (t0 := 4) (k2 := 8) r9 C (by decide) rfl rfl rfl (show r9 < 8 by omega) (by decide) dX3_metricAnswered_25 ?_
      refine hr_get (k := 8) (i := r9) (fld := 0) C (show r9 < 8 by omega) rfl rfl (by decide) kU_X2 kF_X3_231 rfl rfl dX3_metricAnswered_26 ?_
      refine hr_iload_n C dX3_metricAnswered_29 rfl 2 rfl ?_
      refine hr_iald (k := 9) (i := r9) d C (show r9 < 8 by omega) rfl rfl (show d < 8 by omega) (by decide) dX3_metricAnswered_30 ?_
      refine hr_goto C 36 dX3_metricAnswered_31 (by decide) ?_
      exact hr_iret C hr dX3_metricAnswered_36 ⟨by unfold cl_mans; repeat (first | rw [if_pos c2] | rw [if_neg c2] | rw [if_neg (not_not_intro c2)] | rw [if_pos c17] | rw [if_neg c17] | rw [if_neg (not_not_intro c17)]), rfl⟩
  · skip
    have c2 : d = r9 := (nI_eq (a := d) (b := r9) (by omega) (by omega)).mp c2
    refine hr_iconst (v := 1) C dX3_metricAnswered_5 (by decide) ?_
    exact hr_iret C hr dX3_metricAnswered_6 ⟨by unfold cl_mans; repeat (first | rw [if_pos c2] | rw [if_neg c2] | rw [if_neg (not_not_intro c2)]), rfl⟩
end
section
/-! HopRouters: what its methods do to the numbers -/
/-- entry e9 of packet i is sound -/
def pk_sE (S : hr_S) (i e9 : Nat) : Prop := S 7 i (1 + (e9 * 5)) = 131072 ∧ ((S 7 i (1 + (e9 * 5) + 1) &&& ((1792 : Int32) ^^^ (-1))) = 167772160 ∧ S 7 i (1 + (e9 * 5) + 2) = -256 ∧ S 7 i (1 + (e9 * 5) + 3) = 0) ∧ 1 ≤ S 7 i (1 + (e9 * 5) + 4) ∧ S 7 i (1 + (e9 * 5) + 4) ≤ 16
def pk_dst (S : hr_S) (i e9 : Nat) : Int32 := (S 7 i (1 + (e9 * 5) + 1) >>> ((8 : Int32) &&& 31)) &&& 255
def pk_met (S : hr_S) (i e9 : Nat) : Int32 := S 7 i (1 + (e9 * 5) + 4)
def pk_all (S : hr_S) (i : Nat) : Prop := (un (S 6 i 2) - 4) / 20 = 1 ∧ S 7 i (1 + (0 * 5)) = 0 ∧ ((S 7 i (1 + (0 * 5) + 1) &&& ((65280 : Int32) ^^^ (-1))) = 167772160 ∧ S 7 i (1 + (0 * 5) + 2) = -256 ∧ S 7 i (1 + (0 * 5) + 3) = 0) ∧ S 7 i (1 + (0 * 5) + 4) = 16
def pk_snd (S : hr_S) (i : Nat) : Prop := 24 ≤ un (S 6 i 2) ∧ (un (S 6 i 2) - 4) % 20 = 0 ∧ (S 7 i 0 = 16908288 ∨ S 7 i 0 = 33685504)
noncomputable section
def cl_tl1 (S : hr_S) (r x : Nat) (ev : Int32) : hr_S := if ev = 0 then pk_begin S 200 (nI r) (nI x) 33685504 else pk_addE (pk_begin S 200 (nI r) (nI x) 33685504) 200 2 (nI r) 1
def cl_tlc (S : hr_S) (r d : Nat) (ev : Int32) : Prop := if ev = 0 then ¬ S 13 r d = 0 else ¬ S 9 r d = -1
def cl_tlL (S : hr_S) (r x : Nat) (ev : Int32) : Nat → hr_S
  | 0 => cl_tl1 S r x ev
  | d + 1 => @ite _ (cl_tlc (cl_tlL S r x ev d) r d ev) (Classical.propDecidable _) (pk_addE (cl_tlL S r x ev d) 200 2 (nI d) (tb_told (cl_tlL S r x ev d) r d (nI x))) (cl_tlL S r x ev d)
def cl_tell (S : hr_S) (r x : Nat) (ev : Int32) : hr_S := ai_launch (cl_tlL S r x ev 8) 200
def cl_tt (S : hr_S) (r : Nat) (ev : Int32) : Nat → hr_S
  | 0 => S
  | x + 1 => if ¬ cl_tt S r ev x 1 0 (r * 8 + x) = 0 then cl_tell (cl_tt S r ev x) r x ev else cl_tt S r ev x
def cl_ten (S : hr_S) (r : Nat) : Int32 := (S 0 0 5 + nI r) - (S 0 0 5 + nI r) / 10 * 10
def cl_turn1 (S : hr_S) (r : Nat) : hr_S := if cl_ten S r = 0 then tb_clr (cl_tt S r 1 8) r 8 else if tb_any S r 8 = true then tb_clr (cl_tt S r 0 8) r 8 else S
def cl_g (S : hr_S) : Nat → hr_S
  | 0 => S
  | r + 1 => tb_grow (cl_g S r) r 8
def cl_t (S : hr_S) : Nat → hr_S
  | 0 => S
  | r + 1 => cl_turn1 (cl_t S r) r
def cl_pass (S : hr_S) : hr_S := cl_t (cl_g (hr_w S 0 0 5 (S 0 0 5 + 1)) 8) 8
def cl_anL (S : hr_S) (r : Nat) : Nat → hr_S
  | 0 => S
  | e9 + 1 => @ite _ (pk_sE (cl_anL S r e9) 201 e9) (Classical.propDecidable _) (pk_addE (cl_anL S r e9) 200 2 (nI (un (pk_dst (cl_anL S r e9) 201 e9))) (cl_mans (cl_anL S r e9) r (un (pk_dst (cl_anL S r e9) 201 e9)))) (cl_anL S r e9)
def cl_ans1 (S : hr_S) : hr_S := cl_anL (pk_begin S 200 (nI (un (S 6 201 1))) (nI (un (S 6 201 0))) 33685504) (un (S 6 201 1)) (pk_ent S 201)
def cl_ans (S : hr_S) : hr_S := @ite _ (pk_all S 201) (Classical.propDecidable _) (cl_tell S (un (S 6 201 1)) (un (S 6 201 0)) 1) (if 0 < pk_ent (cl_ans1 S) 200 then ai_launch (cl_ans1 S) 200 else cl_ans1 S)
def cl_hrL (S : hr_S) (r : Nat) : Nat → hr_S
  | 0 => S
  | e9 + 1 => @ite _ (pk_sE (cl_hrL S r e9) 201 e9 ∧ ¬ pk_dst (cl_hrL S r e9) 201 e9 = cl_hrL S r e9 6 201 1) (Classical.propDecidable _) (tb_hear (cl_hrL S r e9) r (un (pk_dst (cl_hrL S r e9) 201 e9)) (pk_met (cl_hrL S r e9) 201 e9) (cl_hrL S r e9 6 201 0)) (cl_hrL S r e9)
def cl_hr (S : hr_S) : hr_S := cl_hrL S (un (S 6 201 1)) (pk_ent S 201)
/-- a packet out of the air into the hands of 'arriving' -/
def cl_take (S : hr_S) (k : Nat) : hr_S := ai_remove (pk_become S 201 (ai_o S k)) k
def cl_up (S : hr_S) : Prop := ¬ S 1 0 (un (S 6 201 0) * 8 + un (S 6 201 1)) = 0
def cl_in (S : hr_S) : hr_S := @ite _ (cl_up S) (Classical.propDecidable _) (@ite _ (pk_snd S 201) (Classical.propDecidable _) (if S 7 201 0 = 16908288 then cl_ans S else cl_hr S) (hr_w S 0 0 7 (S 0 0 7 + 1))) (hr_w S 3 0 4 (S 3 0 4 + 1))
def cl_bring (S : hr_S) (k : Nat) : hr_S := cl_in (cl_take S k)
end
/-! invariants -/
theorem len_begin (S : hr_S) (i : Nat) (a b h : Int32) : un (pk_begin S i a b h 6 i 2) = 4 := by
  unfold pk_begin
  rw [hr_w_self]
  rfl
theorem len_addE {S : hr_S} {i : Nat} {f d t : Int32} (h : 4 ≤ un (S 6 i 2)) : 4 ≤ un (pk_addE S i f d t 6 i 2) := by
  unfold pk_addE
  split
  · rw [hr_w_self, un_nI (by omega)]; omega
  · exact h
theorem CI_tl1 {S : hr_S} (h : hr_CI S) {r x : Nat} {ev : Int32} (hr : r < 8) (hx : x < 8) : hr_CI (cl_tl1 S r x ev) := by
  have h1 : hr_CI (pk_begin S 200 (nI r) (nI x) 33685504) := CI_begin h (nb_nI hr (by decide)) (nb_nI hx (by decide))
  unfold cl_tl1
  split
  · exact h1
  · exact CI_addE h1
theorem CI_tlL {S : hr_S} (h : hr_CI S) {r x : Nat} {ev : Int32} (hr : r < 8) (hx : x < 8) : ∀ d, hr_CI (cl_tlL S r x ev d)
  | 0 => CI_tl1 h hr hx
  | d + 1 => by
    unfold cl_tlL
    split
    · exact CI_addE (CI_tlL h hr hx d)
    · exact CI_tlL h hr hx d
theorem len_tlL (S : hr_S) (r x : Nat) (ev : Int32) : ∀ d, 4 ≤ un (cl_tlL S r x ev d 6 200 2)
  | 0 => by
    unfold cl_tlL cl_tl1
    split
    · rw [len_begin]; omega
    · exact len_addE (by rw [len_begin]; omega)
  | d + 1 => by
    unfold cl_tlL
    split
    · exact len_addE (len_tlL S r x ev d)
    · exact len_tlL S r x ev d
theorem CI_tell {S : hr_S} (h : hr_CI S) {r x : Nat} {ev : Int32} (hr : r < 8) (hx : x < 8) : hr_CI (cl_tell S r x ev) := CI_launch (CI_tlL h hr hx 8) (by decide)
theorem CI_tt {S : hr_S} (h : hr_CI S) {r : Nat} {ev : Int32} (hr : r < 8) : ∀ x, x ≤ 8 → hr_CI (cl_tt S r ev x)
  | 0, _ => h
  | x + 1, hx => by
    unfold cl_tt
    split
    · exact CI_tell (CI_tt h hr x (by omega)) hr (by omega)
    · exact CI_tt h hr x (by omega)
theorem CI_turn1 {S : hr_S} (h : hr_CI S) {r : Nat} (hr : r < 8) : hr_CI (cl_turn1 S r) := by
  unfold cl_turn1
  split
  · exact CI_clr (CI_tt h hr 8 (by omega)) 8
  · split
    · exact CI_clr (CI_tt h hr 8 (by omega)) 8
    · exact h
theorem CI_g {S : hr_S} (h : hr_CI S) : ∀ r, hr_CI (cl_g S r)
  | 0 => h
  | r + 1 => CI_grow (CI_g h r) 8
theorem CI_t {S : hr_S} (h : hr_CI S) : ∀ r, r ≤ 8 → hr_CI (cl_t S r)
  | 0, _ => h
  | r + 1, hr => CI_turn1 (CI_t h r (by omega)) (by omega)
theorem CI_tm {S : hr_S} (h : hr_CI S) {j : Nat} {v : Int32} : hr_CI (hr_w S 0 0 j v) := CI_o h (by decide) (by omega) (by decide) (by decide) (by decide)
theorem CI_pass {S : hr_S} (h : hr_CI S) : hr_CI (cl_pass S) := CI_t (CI_g (CI_tm h) 8) 8 (by omega)
theorem CI_anL {S : hr_S} (h : hr_CI S) {r : Nat} : ∀ e9, hr_CI (cl_anL S r e9)
  | 0 => h
  | e9 + 1 => by
    unfold cl_anL
    split
    · exact CI_addE (CI_anL h e9)
    · exact CI_anL h e9
theorem len_anL {S : hr_S} (h : 4 ≤ un (S 6 200 2)) (r : Nat) : ∀ e9, 4 ≤ un (cl_anL S r e9 6 200 2)
  | 0 => h
  | e9 + 1 => by
    unfold cl_anL
    split
    · exact len_addE (len_anL h r e9)
    · exact len_anL h r e9
theorem CI_ans1 {S : hr_S} (h : hr_CI S) : hr_CI (cl_ans1 S) := CI_anL (CI_begin h (nb_nI (h.2.2.2.1 201 (by decide)).2.1.2 (by decide)) (nb_nI (h.2.2.2.1 201 (by decide)).1.2 (by decide))) _
theorem CI_ans {S : hr_S} (h : hr_CI S) : hr_CI (cl_ans S) := by
  unfold cl_ans
  split
  · exact CI_tell h (h.2.2.2.1 201 (by decide)).2.1.2 (h.2.2.2.1 201 (by decide)).1.2
  · split
    · exact CI_launch (CI_ans1 h) (by decide)
    · exact CI_ans1 h
theorem CI_hrL {S : hr_S} (h : hr_CI S) {r : Nat} : ∀ e9, hr_CI (cl_hrL S r e9)
  | 0 => h
  | e9 + 1 => by
    unfold cl_hrL
    split
    · exact CI_hear (CI_hrL h e9) ((CI_hrL h e9).2.2.2.1 201 (by decide)).1
    · exact CI_hrL h e9
theorem CI_hr {S : hr_S} (h : hr_CI S) : hr_CI (cl_hr S) := CI_hrL h _
theorem CI_take {S : hr_S} (h : hr_CI S) {k : Nat} (hk : k < ai_n S) : hr_CI (cl_take S k) := by
  have hn : ai_n S < 201 := h.1.2
  exact CI_remove (CI_become h (Nat.lt_trans (h.2.1 k (by omega)).2 (by decide))) hk
theorem CI_in {S : hr_S} (h : hr_CI S) : hr_CI (cl_in S) := by
  unfold cl_in
  split
  · split
    · split
      · exact CI_ans h
      · exact CI_hr h
    · exact CI_tm h
  · exact CI_o h (by decide) (by decide) (by decide) (by decide) (by decide)
theorem CI_bring {S : hr_S} (h : hr_CI S) {k : Nat} (hk : k < ai_n S) : hr_CI (cl_bring S k) := CI_in (CI_take h hk)
/-! the destination of a sound entry -/
def hr_bt (x : Int32) (i : Nat) : Bool := x.toBitVec.getLsbD i
theorem hr_bt_ext {x y : Int32} (h : ∀ i, i < 32 → hr_bt x i = hr_bt y i) : x = y := by
  have : x.toBitVec = y.toBitVec := BitVec.eq_of_getLsbD_eq h
  exact Int32.toBitVec_inj.mp this
theorem hr_bt_and (x y : Int32) (i : Nat) : hr_bt (x &&& y) i = (hr_bt x i && hr_bt y i) := by
  unfold hr_bt
  rw [Int32.toBitVec_and, BitVec.getLsbD_and]
theorem hr_bt_or (x y : Int32) (i : Nat) : hr_bt (x ||| y) i = (hr_bt x i || hr_bt y i) := by
  unfold hr_bt
  rw [Int32.toBitVec_or, BitVec.getLsbD_or]
theorem hr_dst_or (x : Int32) (h : (x &&& ((1792 : Int32) ^^^ (-1))) = 167772160) : x = 167772160 ||| (x &&& 1792) := by
  apply hr_bt_ext
  intro i hi
  have h1 : hr_bt (x &&& ((1792 : Int32) ^^^ (-1))) i = hr_bt 167772160 i := by rw [h]
  rw [hr_bt_and] at h1
  rw [hr_bt_or, hr_bt_and, ← h1]
  have h2 : hr_bt ((1792 : Int32) ^^^ (-1)) i = !(hr_bt 1792 i) := by
    have : ∀ i : Fin 32, hr_bt ((1792 : Int32) ^^^ (-1)) i.val = !(hr_bt 1792 i.val) := by decide
    exact this ⟨i, hi⟩
  rw [h2]
  cases hr_bt x i <;> cases hr_bt 1792 i <;> rfl
theorem hr_and1792 (x : Int32) : ∃ d : Nat, d < 8 ∧ (x &&& 1792) = nI (d * 256) := by
  have key : ∀ b0 b1 b2 : Bool, ∃ d : Nat, d < 8 ∧ ∀ i : Fin 32, hr_bt (nI (d * 256)) i.val = ((decide (i.val = 8) && b0) || (decide (i.val = 9) && b1) || (decide (i.val = 10) && b2)) := by
    intro b0 b1 b2
    refine ⟨(if b0 then 1 else 0) + (if b1 then 2 else 0) + (if b2 then 4 else 0), ?_, ?_⟩
    · cases b0 <;> cases b1 <;> cases b2 <;> decide
    · cases b0 <;> cases b1 <;> cases b2 <;> decide
  obtain ⟨d, hd, hb⟩ := key (hr_bt x 8) (hr_bt x 9) (hr_bt x 10)
  refine ⟨d, hd, hr_bt_ext (fun i hi => ?_)⟩
  rw [hr_bt_and, hb ⟨i, hi⟩]
  have h2 : hr_bt 1792 i = (decide (i = 8) || decide (i = 9) || decide (i = 10)) := by
    have : ∀ i : Fin 32, hr_bt 1792 i.val = (decide (i.val = 8) || decide (i.val = 9) || decide (i.val = 10)) := by decide
    exact this ⟨i, hi⟩
  rw [h2]
  by_cases e8 : i = 8
  · subst e8; simp
  · by_cases e9 : i = 9
    · subst e9; simp
    · by_cases e10 : i = 10
      · subst e10; simp
      · simp [e8, e9, e10]
theorem hr_dst (x : Int32) (h : (x &&& ((1792 : Int32) ^^^ (-1))) = 167772160) : nb ((x >>> ((8 : Int32) &&& 31)) &&& 255) 8 := by
  obtain ⟨d, hd, e⟩ := hr_and1792 x
  have h1 := hr_dst_or x h
  rw [e] at h1
  have h2 : ∀ d : Fin 8, (((167772160 : Int32) ||| nI (d.val * 256)) >>> ((8 : Int32) &&& 31)) &&& 255 = nI d.val := by decide
  rw [h1, h2 ⟨d, hd⟩]
  exact nb_nI hd (by decide)
theorem ai_ne {S : hr_S} (h : hr_CI S) {q : Nat} (hq : 200 ≤ q) : ai_n S < 200 → ¬ ai_o S (ai_n S) = q := fun hn z => by
  have : ai_o S (ai_n S) < 200 := (h.2.1 _ hn).2
  omega
end
section
set_option maxHeartbeats 4000000 in
set_option maxRecDepth 100000 in
theorem ct_X3_tell (l : Launch) (E : hr_E) (S : hr_S) (o : Int64) (r9 x9 : Nat) (hr9 : r9 < 8) (hx9 : x9 < 8) (ev : Int32) (hI : hr_CI S) : hr_Mv l E yX3_tell (Cond.code yX3_tell cX3_tell 6 none :: hr_W) ({ frames := 3, cells := 0, slots := 0, locals := 82 } : Room) [.ref (hr_ad E 0 0), .int (nI r9), .int (nI x9), .int ev] S o (fun u => u = cl_tell S r9 x9 ev) := by
  refine hr_of (by decide) (Nat.le_of_ble_eq_true rfl) (fun p e s m below meth c C hr => ?_)
  refine hr_aload_n C dX3_tell_0 rfl 0 rfl ?_
  refine hr_get (k := 0) (i := 0) (fld := 1) C (by decide) rfl rfl (by decide) kU_X3 kF_X3_15 rfl rfl dX3_tell_1 ?_
  refine hr_iload_n C dX3_tell_4 rfl 1 rfl ?_
  refine hr_aald (k := 2) (i := 0) (t0 := 4) (k2 := 8) r9 C (by decide) rfl rfl rfl (show r9 < 8 by omega) (by decide) dX3_tell_5 ?_
  refine hr_astore C [(4, .ref (hr_ad E 8 r9)), (0, .ref (hr_ad E 0 0)), (1, .int (nI r9)), (2, .int (nI x9)), (3, .int ev)] dX3_tell_6 (by decide) rfl ?_
  refine hr_aload_n C dX3_tell_8 rfl 1 rfl ?_
  refine hr_get (k := 0) (i := 0) (fld := 3) C (by decide) rfl rfl (by decide) kU_X3 kF_X3_29 rfl rfl dX3_tell_9 ?_
  refine hr_iload_n C dX3_tell_12 rfl 2 rfl ?_
  refine hr_iload_n C dX3_tell_13 rfl 3 rfl ?_
  refine hr_ldc (v := 33685504) C dX3_tell_14 kK_X3_184 ?_
  refine hr_cVv C (ct_X1_begin l E S o 200 (by omega) (nI r9) (nI x9) 33685504) (cwV 3 C.1.2.2.2.2 (hr_gV kM_X3_68 kI_X1_begin kS_X1_begin kN_X1 kC_X1_begin) rfl rfl rfl (by decide +kernel) ⟨Nat.le_of_ble_eq_true rfl, Nat.le_of_ble_eq_true rfl⟩) (by decide) rfl rfl rfl (Nat.le_of_ble_eq_true rfl) dX3_tell_16 ⟨Nat.le_of_ble_eq_true rfl, Nat.le_of_ble_eq_true rfl⟩ (fun S2 h3 => ?_) rfl
  refine hr_st (S1 := (pk_begin S 200 (nI r9) (nI x9) 33685504)) h3 ?_
  refine hr_iload_n C dX3_tell_19 rfl 4 rfl ?_
  refine hr_if_eq C 33 dX3_tell_20 (by decide) (fun c20 => ?_) (fun c20 => ?_)
  · skip
    refine hr_iconst (v := 0) C dX3_tell_33 (by decide) ?_
    refine hr_istore C [(5, .int 0), (4, .ref (hr_ad E 8 r9)), (0, .ref (hr_ad E 0 0)), (1, .int (nI r9)), (2, .int (nI x9)), (3, .int ev)] dX3_tell_34 (by decide) rfl ?_
    have LP36 : ∀ (n d : Nat) , d ≤ 8 → 8 + 1 ≤ d + n → hr_G p l e ({ frames := 3, cells := 0, slots := 0, locals := 82 } : Room) s m #[.ref (hr_ad E 0 0), .int (nI r9), .int (nI x9), .int ev] below meth c (MQ below (va_Qv (fun u => u = cl_tell S r9 x9 ev) (fun u t => hr_P E u o t.heap) (hr_A E)) #[.ref (hr_ad E 0 0), .int (nI r9), .int (nI x9), .int ev] s 0 0 (hr_A E)) E 6 0 0 (cl_tlL S r9 x9 ev d) o [(0, .ref (hr_ad E 0 0)), (1, .int (nI r9)), (2, .int (nI x9)), (3, .int ev), (4, .ref (hr_ad E 8 r9)), (5, .int (nI d))] 36 [] := by
      intro n
      induction n with
      | zero => intro d  h1 h2; omega
      | succ n ih =>
        intro d  hv1 hv2
        refine hr_iload C dX3_tell_36 5 rfl ?_
        refine hr_bipush (v := 8) C dX3_tell_38 (by decide) ?_
        refine hr_icmp_ge C 95 dX3_tell_40 (by decide) (fun c40 => ?_) (fun c40 => ?_)
        · skip
          have c40 : 8 ≤ d := (nI_leI (a := 8) (b := d) (by omega) (by omega)).mp c40
          have c40n : ¬ d < 8 := Nat.not_lt.mpr c40
          refine hr_aload_n C dX3_tell_95 rfl 0 rfl ?_
          refine hr_get (k := 0) (i := 0) (fld := 2) C (by decide) rfl rfl (by decide) kU_X3 kF_X3_22 rfl rfl dX3_tell_96 ?_
          refine hr_aload_n C dX3_tell_99 rfl 0 rfl ?_
          refine hr_get (k := 0) (i := 0) (fld := 3) C (by decide) rfl rfl (by decide) kU_X3 kF_X3_29 rfl rfl dX3_tell_100 ?_
          refine hr_cVv C (ct_X0_launch l E (cl_tlL S r9 x9 ev d) o 200 (by omega) (CI_tlL hI hr9 hx9 d) (ai_ne (CI_tlL hI hr9 hx9 d) (by omega))) (cwV 1 C.1.2.2.2.2 (hr_gV kM_X3_75 kI_X0_launch kS_X0_launch kN_X0 kC_X0_launch) rfl rfl rfl (by decide +kernel) ⟨Nat.le_of_ble_eq_true rfl, Nat.le_of_ble_eq_true rfl⟩) (by decide) rfl rfl rfl (Nat.le_of_ble_eq_true rfl) dX3_tell_103 ⟨Nat.le_of_ble_eq_true rfl, Nat.le_of_ble_eq_true rfl⟩ (fun S5 h6 => ?_) rfl
          refine hr_st (S1 := (ai_launch (cl_tlL S r9 x9 ev d) 200)) h6 ?_
          exact hr_vret C hr dX3_tell_106 (by rw [show d = 8 by omega]; rfl)
        · skip
          have c40 : ¬ 8 ≤ d := fun h => c40 ((nI_leI (a := 8) (b := d) (by omega) (by omega)).mpr h)
          have c40n : d < 8 := Nat.not_le.mp c40
          refine hr_iload_n C dX3_tell_43 rfl 3 rfl ?_
          refine hr_if_eq C 60 dX3_tell_44 (by decide) (fun c44 => ?_) (fun c44 => ?_)
          · skip
            refine hr_aload C dX3_tell_60 4 rfl ?_
            refine hr_get (k := 8) (i := r9) (fld := 4) C (show r9 < 8 by omega) rfl rfl (by decide) kU_X2 kF_X3_188 rfl rfl dX3_tell_62 ?_
            refine hr_iload C dX3_tell_65 5 rfl ?_
            refine hr_zald (k := 13) (i := r9) d C (show r9 < 8 by omega) rfl rfl (show d < 8 by omega) (by decide) dX3_tell_67 ?_
            refine hr_if_eq C 89 dX3_tell_68 (by decide) (fun c68 => ?_) (fun c68 => ?_)
            · skip
              refine hr_iinc (v := nI (d + 1)) C [(5, .int (nI (d + 1))), (0, .ref (hr_ad E 0 0)), (1, .int (nI r9)), (2, .int (nI x9)), (3, .int ev), (4, .ref (hr_ad E 8 r9))] dX3_tell_89 5 rfl (nI_add d 1) (by decide) rfl ?_
              refine hr_goto C 36 dX3_tell_92 (by decide) ?_
              refine hr_sub [1, 2, 3, 4, 5, 0] rfl ?_
              refine hr_st (S1 := cl_tlL S r9 x9 ev (d + 1)) (by rw [cl_tlL, if_neg (by unfold cl_tlc; rw [if_pos c44]; exact not_not_intro c68)]) ?_
              exact ih (d + 1)  (by omega) (by omega)
            · skip
              refine hr_aload_n C dX3_tell_71 rfl 0 rfl ?_
              refine hr_get (k := 0) (i := 0) (fld := 3) C (by decide) rfl rfl (by decide) kU_X3 kF_X3_29 rfl rfl dX3_tell_72 ?_
              refine hr_iconst (v := 2) C dX3_tell_75 (by decide) ?_
              refine hr_iload C dX3_tell_76 5 rfl ?_
              refine hr_aload C dX3_tell_78 4 rfl ?_
              refine hr_iload C dX3_tell_80 5 rfl ?_
              refine hr_iload_n C dX3_tell_82 rfl 2 rfl ?_
              refine hr_cVi C (ct_X2_metricTold l E (cl_tlL S r9 x9 ev d) o r9 (by omega) d (by omega) (nI x9)) (cwV 2 C.1.2.2.2.2 (hr_gV kM_X3_191 kI_X2_metricTold kS_X2_metricTold kN_X2 kC_X2_metricTold) rfl rfl rfl (by decide +kernel) ⟨Nat.le_of_ble_eq_true rfl, Nat.le_of_ble_eq_true rfl⟩) (show r9 < 8 by omega) rfl rfl rfl (Nat.le_of_ble_eq_true rfl) dX3_tell_83 ⟨Nat.le_of_ble_eq_true rfl, Nat.le_of_ble_eq_true rfl⟩ (fun r7 S8 h9 => ?_) rfl
              refine hr_tp (y := tb_told (cl_tlL S r9 x9 ev d) r9 d (nI x9)) h9.1 ?_
              refine hr_st (S1 := (cl_tlL S r9 x9 ev d)) h9.2 ?_
              refine hr_cVv C (ct_X1_addEntry l E (cl_tlL S r9 x9 ev d) o 200 (by omega) (((CI_tlL hI hr9 hx9 d).2.2.2.1 200 (by decide)).2.2) (len_tlL S r9 x9 ev d) 2 (nI d) (tb_told (cl_tlL S r9 x9 ev d) r9 d (nI x9))) (cwV 3 C.1.2.2.2.2 (hr_gV kM_X3_72 kI_X1_addEntry kS_X1_addEntry kN_X1 kC_X1_addEntry) rfl rfl rfl (by decide +kernel) ⟨Nat.le_of_ble_eq_true rfl, Nat.le_of_ble_eq_true rfl⟩) (by decide) rfl rfl rfl (Nat.le_of_ble_eq_true rfl) dX3_tell_86 ⟨Nat.le_of_ble_eq_true rfl, Nat.le_of_ble_eq_true rfl⟩ (fun S11 h12 => ?_) rfl
              refine hr_st (S1 := (pk_addE (cl_tlL S r9 x9 ev d) 200 2 (nI d) (tb_told (cl_tlL S r9 x9 ev d) r9 d (nI x9)))) h12 ?_
              refine hr_iinc (v := nI (d + 1)) C [(5, .int (nI (d + 1))), (0, .ref (hr_ad E 0 0)), (1, .int (nI r9)), (2, .int (nI x9)), (3, .int ev), (4, .ref (hr_ad E 8 r9))] dX3_tell_89 5 rfl (nI_add d 1) (by decide) rfl ?_
              refine hr_goto C 36 dX3_tell_92 (by decide) ?_
              refine hr_sub [1, 2, 3, 4, 5, 0] rfl ?_
              refine hr_st (S1 := cl_tlL S r9 x9 ev (d + 1)) (by rw [cl_tlL, if_pos (by unfold cl_tlc; rw [if_pos c44]; exact c68)]) ?_
              exact ih (d + 1)  (by omega) (by omega)
          · skip
            refine hr_aload C dX3_tell_47 4 rfl ?_
            refine hr_iload C dX3_tell_49 5 rfl ?_
            refine hr_cVi C (ct_X2_has l E (cl_tlL S r9 x9 ev d) o r9 (by omega) d (by omega)) (cwV 1 C.1.2.2.2.2 (hr_gV kM_X3_185 kI_X2_has kS_X2_has kN_X2 kC_X2_has) rfl rfl rfl (by decide +kernel) ⟨Nat.le_of_ble_eq_true rfl, Nat.le_of_ble_eq_true rfl⟩) (show r9 < 8 by omega) rfl rfl rfl (Nat.le_of_ble_eq_true rfl) dX3_tell_51 ⟨Nat.le_of_ble_eq_true rfl, Nat.le_of_ble_eq_true rfl⟩ (fun r13 S14 h15 => ?_) rfl
            refine hr_tp h15.1 ?_
            refine hr_st (S1 := (cl_tlL S r9 x9 ev d)) h15.2 ?_
            refine hr_if_eq C 89 dX3_tell_54 (by decide) (fun c54 => ?_) (fun c54 => ?_)
            · skip
              have c54 := hr_bz.mp c54
              have c54 : ¬ (¬ (cl_tlL S r9 x9 ev d) 9 r9 d = -1) := c54
              refine hr_iinc (v := nI (d + 1)) C [(5, .int (nI (d + 1))), (0, .ref (hr_ad E 0 0)), (1, .int (nI r9)), (2, .int (nI x9)), (3, .int ev), (4, .ref (hr_ad E 8 r9))] dX3_tell_89 5 rfl (nI_add d 1) (by decide) rfl ?_
              refine hr_goto C 36 dX3_tell_92 (by decide) ?_
              refine hr_sub [1, 2, 3, 4, 5, 0] rfl ?_
              refine hr_st (S1 := cl_tlL S r9 x9 ev (d + 1)) (by rw [cl_tlL, if_neg (by unfold cl_tlc; rw [if_neg c44]; exact c54)]) ?_
              exact ih (d + 1)  (by omega) (by omega)
            · skip
              have c54 := hr_bn.mp c54
              have c54 : ¬ (cl_tlL S r9 x9 ev d) 9 r9 d = -1 := c54
              refine hr_goto C 71 dX3_tell_57 (by decide) ?_
              refine hr_aload_n C dX3_tell_71 rfl 0 rfl ?_
              refine hr_get (k := 0) (i := 0) (fld := 3) C (by decide) rfl rfl (by decide) kU_X3 kF_X3_29 rfl rfl dX3_tell_72 ?_
              refine hr_iconst (v := 2) C dX3_tell_75 (by decide) ?_
              refine hr_iload C dX3_tell_76 5 rfl ?_
              refine hr_aload C dX3_tell_78 4 rfl ?_
              refine hr_iload C dX3_tell_80 5 rfl ?_
              refine hr_iload_n C dX3_tell_82 rfl 2 rfl ?_
              refine hr_cVi C (ct_X2_metricTold l E (cl_tlL S r9 x9 ev d) o r9 (by omega) d (by omega) (nI x9)) (cwV 2 C.1.2.2.2.2 (hr_gV kM_X3_191 kI_X2_metricTold kS_X2_metricTold kN_X2 kC_X2_metricTold) rfl rfl rfl (by decide +kernel) ⟨Nat.le_of_ble_eq_true rfl, Nat.le_of_ble_eq_true rfl⟩) (show r9 < 8 by omega) rfl rfl rfl (Nat.le_of_ble_eq_true rfl) dX3_tell_83 ⟨Nat.le_of_ble_eq_true rfl, Nat.le_of_ble_eq_true rfl⟩ (fun r16 S17 h18 => ?_) rfl
              refine hr_tp (y := tb_told (cl_tlL S r9 x9 ev d) r9 d (nI x9)) h18.1 ?_
              refine hr_st (S1 := (cl_tlL S r9 x9 ev d)) h18.2 ?_
              refine hr_cVv C (ct_X1_addEntry l E (cl_tlL S r9 x9 ev d) o 200 (by omega) (((CI_tlL hI hr9 hx9 d).2.2.2.1 200 (by decide)).2.2) (len_tlL S r9 x9 ev d) 2 (nI d) (tb_told (cl_tlL S r9 x9 ev d) r9 d (nI x9))) (cwV 3 C.1.2.2.2.2 (hr_gV kM_X3_72 kI_X1_addEntry kS_X1_addEntry kN_X1 kC_X1_addEntry) rfl rfl rfl (by decide +kernel) ⟨Nat.le_of_ble_eq_true rfl, Nat.le_of_ble_eq_true rfl⟩) (by decide) rfl rfl rfl (Nat.le_of_ble_eq_true rfl) dX3_tell_86 ⟨Nat.le_of_ble_eq_true rfl, Nat.le_of_ble_eq_true rfl⟩ (fun S20 h21 => ?_) rfl
              refine hr_st (S1 := (pk_addE (cl_tlL S r9 x9 ev d) 200 2 (nI d) (tb_told (cl_tlL S r9 x9 ev d) r9 d (nI x9)))) h21 ?_
              refine hr_iinc (v := nI (d + 1)) C [(5, .int (nI (d + 1))), (0, .ref (hr_ad E 0 0)), (1, .int (nI r9)), (2, .int (nI x9)), (3, .int ev), (4, .ref (hr_ad E 8 r9))] dX3_tell_89 5 rfl (nI_add d 1) (by decide) rfl ?_
              refine hr_goto C 36 dX3_tell_92 (by decide) ?_
              refine hr_sub [1, 2, 3, 4, 5, 0] rfl ?_
              refine hr_st (S1 := cl_tlL S r9 x9 ev (d + 1)) (by rw [cl_tlL, if_pos (by unfold cl_tlc; rw [if_neg c44]; exact c54)]) ?_
              exact ih (d + 1)  (by omega) (by omega)
    refine hr_sub [2, 3, 4, 5, 1, 0] rfl ?_
    refine hr_st (S1 := cl_tlL S r9 x9 ev 0) (by unfold cl_tlL cl_tl1; rw [if_pos c20]) ?_
    exact LP36 (8 + 1) 0  (by omega) (by omega)
  · skip
    refine hr_aload_n C dX3_tell_23 rfl 1 rfl ?_
    refine hr_get (k := 0) (i := 0) (fld := 3) C (by decide) rfl rfl (by decide) kU_X3 kF_X3_29 rfl rfl dX3_tell_24 ?_
    refine hr_iconst (v := 2) C dX3_tell_27 (by decide) ?_
    refine hr_iload_n C dX3_tell_28 rfl 2 rfl ?_
    refine hr_iconst (v := 1) C dX3_tell_29 (by decide) ?_
    refine hr_cVv C (ct_X1_addEntry l E (pk_begin S 200 (nI r9) (nI x9) 33685504) o 200 (by omega) (((CI_begin hI (nb_nI hr9 (by decide)) (nb_nI hx9 (by decide))).2.2.2.1 200 (by decide)).2.2) (by rw [len_begin]; omega) 2 (nI r9) 1) (cwV 3 C.1.2.2.2.2 (hr_gV kM_X3_72 kI_X1_addEntry kS_X1_addEntry kN_X1 kC_X1_addEntry) rfl rfl rfl (by decide +kernel) ⟨Nat.le_of_ble_eq_true rfl, Nat.le_of_ble_eq_true rfl⟩) (by decide) rfl rfl rfl (Nat.le_of_ble_eq_true rfl) dX3_tell_30 ⟨Nat.le_of_ble_eq_true rfl, Nat.le_of_ble_eq_true rfl⟩ (fun S23 h24 => ?_) rfl
    refine hr_st (S1 := (pk_addE (pk_begin S 200 (nI r9) (nI x9) 33685504) 200 2 (nI r9) 1)) h24 ?_
    refine hr_iconst (v := 0) C dX3_tell_33 (by decide) ?_
    refine hr_istore C [(5, .int 0), (4, .ref (hr_ad E 8 r9)), (0, .ref (hr_ad E 0 0)), (1, .int (nI r9)), (2, .int (nI x9)), (3, .int ev)] dX3_tell_34 (by decide) rfl ?_
    have LP36 : ∀ (n d : Nat) , d ≤ 8 → 8 + 1 ≤ d + n → hr_G p l e ({ frames := 3, cells := 0, slots := 0, locals := 82 } : Room) s m #[.ref (hr_ad E 0 0), .int (nI r9), .int (nI x9), .int ev] below meth c (MQ below (va_Qv (fun u => u = cl_tell S r9 x9 ev) (fun u t => hr_P E u o t.heap) (hr_A E)) #[.ref (hr_ad E 0 0), .int (nI r9), .int (nI x9), .int ev] s 0 0 (hr_A E)) E 6 0 0 (cl_tlL S r9 x9 ev d) o [(0, .ref (hr_ad E 0 0)), (1, .int (nI r9)), (2, .int (nI x9)), (3, .int ev), (4, .ref (hr_ad E 8 r9)), (5, .int (nI d))] 36 [] := by
      intro n
      induction n with
      | zero => intro d  h1 h2; omega
      | succ n ih =>
        intro d  hv1 hv2
        refine hr_iload C dX3_tell_36 5 rfl ?_
        refine hr_bipush (v := 8) C dX3_tell_38 (by decide) ?_
        refine hr_icmp_ge C 95 dX3_tell_40 (by decide) (fun c40 => ?_) (fun c40 => ?_)
        · skip
          have c40 : 8 ≤ d := (nI_leI (a := 8) (b := d) (by omega) (by omega)).mp c40
          have c40n : ¬ d < 8 := Nat.not_lt.mpr c40
          refine hr_aload_n C dX3_tell_95 rfl 0 rfl ?_
          refine hr_get (k := 0) (i := 0) (fld := 2) C (by decide) rfl rfl (by decide) kU_X3 kF_X3_22 rfl rfl dX3_tell_96 ?_
          refine hr_aload_n C dX3_tell_99 rfl 0 rfl ?_
          refine hr_get (k := 0) (i := 0) (fld := 3) C (by decide) rfl rfl (by decide) kU_X3 kF_X3_29 rfl rfl dX3_tell_100 ?_
          refine hr_cVv C (ct_X0_launch l E (cl_tlL S r9 x9 ev d) o 200 (by omega) (CI_tlL hI hr9 hx9 d) (ai_ne (CI_tlL hI hr9 hx9 d) (by omega))) (cwV 1 C.1.2.2.2.2 (hr_gV kM_X3_75 kI_X0_launch kS_X0_launch kN_X0 kC_X0_launch) rfl rfl rfl (by decide +kernel) ⟨Nat.le_of_ble_eq_true rfl, Nat.le_of_ble_eq_true rfl⟩) (by decide) rfl rfl rfl (Nat.le_of_ble_eq_true rfl) dX3_tell_103 ⟨Nat.le_of_ble_eq_true rfl, Nat.le_of_ble_eq_true rfl⟩ (fun S26 h27 => ?_) rfl
          refine hr_st (S1 := (ai_launch (cl_tlL S r9 x9 ev d) 200)) h27 ?_
          exact hr_vret C hr dX3_tell_106 (by rw [show d = 8 by omega]; rfl)
        · skip
          have c40 : ¬ 8 ≤ d := fun h => c40 ((nI_leI (a := 8) (b := d) (by omega) (by omega)).mpr h)
          have c40n : d < 8 := Nat.not_le.mp c40
          refine hr_iload_n C dX3_tell_43 rfl 3 rfl ?_
          refine hr_if_eq C 60 dX3_tell_44 (by decide) (fun c44 => ?_) (fun c44 => ?_)
          · skip
            refine hr_aload C dX3_tell_60 4 rfl ?_
            refine hr_get (k := 8) (i := r9) (fld := 4) C (show r9 < 8 by omega) rfl rfl (by decide) kU_X2 kF_X3_188 rfl rfl dX3_tell_62 ?_
            refine hr_iload C dX3_tell_65 5 rfl ?_
            refine hr_zald (k := 13) (i := r9) d C (show r9 < 8 by omega) rfl rfl (show d < 8 by omega) (by decide) dX3_tell_67 ?_
            refine hr_if_eq C 89 dX3_tell_68 (by decide) (fun c68 => ?_) (fun c68 => ?_)
            · skip
              refine hr_iinc (v := nI (d + 1)) C [(5, .int (nI (d + 1))), (0, .ref (hr_ad E 0 0)), (1, .int (nI r9)), (2, .int (nI x9)), (3, .int ev), (4, .ref (hr_ad E 8 r9))] dX3_tell_89 5 rfl (nI_add d 1) (by decide) rfl ?_
              refine hr_goto C 36 dX3_tell_92 (by decide) ?_
              refine hr_sub [1, 2, 3, 4, 5, 0] rfl ?_
              refine hr_st (S1 := cl_tlL S r9 x9 ev (d + 1)) (by rw [cl_tlL, if_neg (by unfold cl_tlc; rw [if_pos c44]; exact not_not_intro c68)]) ?_
              exact ih (d + 1)  (by omega) (by omega)
            · skip
              refine hr_aload_n C dX3_tell_71 rfl 0 rfl ?_
              refine hr_get (k := 0) (i := 0) (fld := 3) C (by decide) rfl rfl (by decide) kU_X3 kF_X3_29 rfl rfl dX3_tell_72 ?_
              refine hr_iconst (v := 2) C dX3_tell_75 (by decide) ?_
              refine hr_iload C dX3_tell_76 5 rfl ?_
              refine hr_aload C dX3_tell_78 4 rfl ?_
              refine hr_iload C dX3_tell_80 5 rfl ?_
              refine hr_iload_n C dX3_tell_82 rfl 2 rfl ?_
              refine hr_cVi C (ct_X2_metricTold l E (cl_tlL S r9 x9 ev d) o r9 (by omega) d (by omega) (nI x9)) (cwV 2 C.1.2.2.2.2 (hr_gV kM_X3_191 kI_X2_metricTold kS_X2_metricTold kN_X2 kC_X2_metricTold) rfl rfl rfl (by decide +kernel) ⟨Nat.le_of_ble_eq_true rfl, Nat.le_of_ble_eq_true rfl⟩) (show r9 < 8 by omega) rfl rfl rfl (Nat.le_of_ble_eq_true rfl) dX3_tell_83 ⟨Nat.le_of_ble_eq_true rfl, Nat.le_of_ble_eq_true rfl⟩ (fun r28 S29 h30 => ?_) rfl
              refine hr_tp (y := tb_told (cl_tlL S r9 x9 ev d) r9 d (nI x9)) h30.1 ?_
              refine hr_st (S1 := (cl_tlL S r9 x9 ev d)) h30.2 ?_
              refine hr_cVv C (ct_X1_addEntry l E (cl_tlL S r9 x9 ev d) o 200 (by omega) (((CI_tlL hI hr9 hx9 d).2.2.2.1 200 (by decide)).2.2) (len_tlL S r9 x9 ev d) 2 (nI d) (tb_told (cl_tlL S r9 x9 ev d) r9 d (nI x9))) (cwV 3 C.1.2.2.2.2 (hr_gV kM_X3_72 kI_X1_addEntry kS_X1_addEntry kN_X1 kC_X1_addEntry) rfl rfl rfl (by decide +kernel) ⟨Nat.le_of_ble_eq_true rfl, Nat.le_of_ble_eq_true rfl⟩) (by decide) rfl rfl rfl (Nat.le_of_ble_eq_true rfl) dX3_tell_86 ⟨Nat.le_of_ble_eq_true rfl, Nat.le_of_ble_eq_true rfl⟩ (fun S32 h33 => ?_) rfl
              refine hr_st (S1 := (pk_addE (cl_tlL S r9 x9 ev d) 200 2 (nI d) (tb_told (cl_tlL S r9 x9 ev d) r9 d (nI x9)))) h33 ?_
              refine hr_iinc (v := nI (d + 1)) C [(5, .int (nI (d + 1))), (0, .ref (hr_ad E 0 0)), (1, .int (nI r9)), (2, .int (nI x9)), (3, .int ev), (4, .ref (hr_ad E 8 r9))] dX3_tell_89 5 rfl (nI_add d 1) (by decide) rfl ?_
              refine hr_goto C 36 dX3_tell_92 (by decide) ?_
              refine hr_sub [1, 2, 3, 4, 5, 0] rfl ?_
              refine hr_st (S1 := cl_tlL S r9 x9 ev (d + 1)) (by rw [cl_tlL, if_pos (by unfold cl_tlc; rw [if_pos c44]; exact c68)]) ?_
              exact ih (d + 1)  (by omega) (by omega)
          · skip
            refine hr_aload C dX3_tell_47 4 rfl ?_
            refine hr_iload C dX3_tell_49 5 rfl ?_
            refine hr_cVi C (ct_X2_has l E (cl_tlL S r9 x9 ev d) o r9 (by omega) d (by omega)) (cwV 1 C.1.2.2.2.2 (hr_gV kM_X3_185 kI_X2_has kS_X2_has kN_X2 kC_X2_has) rfl rfl rfl (by decide +kernel) ⟨Nat.le_of_ble_eq_true rfl, Nat.le_of_ble_eq_true rfl⟩) (show r9 < 8 by omega) rfl rfl rfl (Nat.le_of_ble_eq_true rfl) dX3_tell_51 ⟨Nat.le_of_ble_eq_true rfl, Nat.le_of_ble_eq_true rfl⟩ (fun r34 S35 h36 => ?_) rfl
            refine hr_tp h36.1 ?_
            refine hr_st (S1 := (cl_tlL S r9 x9 ev d)) h36.2 ?_
            refine hr_if_eq C 89 dX3_tell_54 (by decide) (fun c54 => ?_) (fun c54 => ?_)
            · skip
              have c54 := hr_bz.mp c54
              have c54 : ¬ (¬ (cl_tlL S r9 x9 ev d) 9 r9 d = -1) := c54
              refine hr_iinc (v := nI (d + 1)) C [(5, .int (nI (d + 1))), (0, .ref (hr_ad E 0 0)), (1, .int (nI r9)), (2, .int (nI x9)), (3, .int ev), (4, .ref (hr_ad E 8 r9))] dX3_tell_89 5 rfl (nI_add d 1) (by decide) rfl ?_
              refine hr_goto C 36 dX3_tell_92 (by decide) ?_
              refine hr_sub [1, 2, 3, 4, 5, 0] rfl ?_
              refine hr_st (S1 := cl_tlL S r9 x9 ev (d + 1)) (by rw [cl_tlL, if_neg (by unfold cl_tlc; rw [if_neg c44]; exact c54)]) ?_
              exact ih (d + 1)  (by omega) (by omega)
            · skip
              have c54 := hr_bn.mp c54
              have c54 : ¬ (cl_tlL S r9 x9 ev d) 9 r9 d = -1 := c54
              refine hr_goto C 71 dX3_tell_57 (by decide) ?_
              refine hr_aload_n C dX3_tell_71 rfl 0 rfl ?_
              refine hr_get (k := 0) (i := 0) (fld := 3) C (by decide) rfl rfl (by decide) kU_X3 kF_X3_29 rfl rfl dX3_tell_72 ?_
              refine hr_iconst (v := 2) C dX3_tell_75 (by decide) ?_
              refine hr_iload C dX3_tell_76 5 rfl ?_
              refine hr_aload C dX3_tell_78 4 rfl ?_
              refine hr_iload C dX3_tell_80 5 rfl ?_
              refine hr_iload_n C dX3_tell_82 rfl 2 rfl ?_
              refine hr_cVi C (ct_X2_metricTold l E (cl_tlL S r9 x9 ev d) o r9 (by omega) d (by omega) (nI x9)) (cwV 2 C.1.2.2.2.2 (hr_gV kM_X3_191 kI_X2_metricTold kS_X2_metricTold kN_X2 kC_X2_metricTold) rfl rfl rfl (by decide +kernel) ⟨Nat.le_of_ble_eq_true rfl, Nat.le_of_ble_eq_true rfl⟩) (show r9 < 8 by omega) rfl rfl rfl (Nat.le_of_ble_eq_true rfl) dX3_tell_83 ⟨Nat.le_of_ble_eq_true rfl, Nat.le_of_ble_eq_true rfl⟩ (fun r37 S38 h39 => ?_) rfl
              refine hr_tp (y := tb_told (cl_tlL S r9 x9 ev d) r9 d (nI x9)) h39.1 ?_
              refine hr_st (S1 := (cl_tlL S r9 x9 ev d)) h39.2 ?_
              refine hr_cVv C (ct_X1_addEntry l E (cl_tlL S r9 x9 ev d) o 200 (by omega) (((CI_tlL hI hr9 hx9 d).2.2.2.1 200 (by decide)).2.2) (len_tlL S r9 x9 ev d) 2 (nI d) (tb_told (cl_tlL S r9 x9 ev d) r9 d (nI x9))) (cwV 3 C.1.2.2.2.2 (hr_gV kM_X3_72 kI_X1_addEntry kS_X1_addEntry kN_X1 kC_X1_addEntry) rfl rfl rfl (by decide +kernel) ⟨Nat.le_of_ble_eq_true rfl, Nat.le_of_ble_eq_true rfl⟩) (by decide) rfl rfl rfl (Nat.le_of_ble_eq_true rfl) dX3_tell_86 ⟨Nat.le_of_ble_eq_true rfl, Nat.le_of_ble_eq_true rfl⟩ (fun S41 h42 => ?_) rfl
              refine hr_st (S1 := (pk_addE (cl_tlL S r9 x9 ev d) 200 2 (nI d) (tb_told (cl_tlL S r9 x9 ev d) r9 d (nI x9)))) h42 ?_
              refine hr_iinc (v := nI (d + 1)) C [(5, .int (nI (d + 1))), (0, .ref (hr_ad E 0 0)), (1, .int (nI r9)), (2, .int (nI x9)), (3, .int ev), (4, .ref (hr_ad E 8 r9))] dX3_tell_89 5 rfl (nI_add d 1) (by decide) rfl ?_
              refine hr_goto C 36 dX3_tell_92 (by decide) ?_
              refine hr_sub [1, 2, 3, 4, 5, 0] rfl ?_
              refine hr_st (S1 := cl_tlL S r9 x9 ev (d + 1)) (by rw [cl_tlL, if_pos (by unfold cl_tlc; rw [if_neg c44]; exact c54)]) ?_
              exact ih (d + 1)  (by omega) (by omega)
    refine hr_sub [2, 3, 4, 5, 1, 0] rfl ?_
    refine hr_st (S1 := cl_tlL S r9 x9 ev 0) (by unfold cl_tlL cl_tl1; rw [if_neg c20]) ?_
    exact LP36 (8 + 1) 0  (by omega) (by omega)
set_option maxHeartbeats 4000000 in
set_option maxRecDepth 100000 in
theorem ct_X3_tellInTurn (l : Launch) (E : hr_E) (S : hr_S) (o : Int64) (r9 : Nat) (hr9 : r9 < 8) (hI : hr_CI S) : hr_Mv l E yX3_tellInTurn (Cond.code yX3_tellInTurn cX3_tellInTurn 5 none :: hr_W) ({ frames := 4, cells := 0, slots := 0, locals := 107 } : Room) [.ref (hr_ad E 0 0), .int (nI r9)] S o (fun u => u = cl_turn1 S r9) := by
  refine hr_of (by decide) (Nat.le_of_ble_eq_true rfl) (fun p e s m below meth c C hr => ?_)
  refine hr_aload_n C dX3_tellInTurn_0 rfl 0 rfl ?_
  refine hr_get (k := 0) (i := 0) (fld := 1) C (by decide) rfl rfl (by decide) kU_X3 kF_X3_15 rfl rfl dX3_tellInTurn_1 ?_
  refine hr_iload_n C dX3_tellInTurn_4 rfl 1 rfl ?_
  refine hr_aald (k := 2) (i := 0) (t0 := 4) (k2 := 8) r9 C (by decide) rfl rfl rfl (show r9 < 8 by omega) (by decide) dX3_tellInTurn_5 ?_
  refine hr_astore_n C [(2, .ref (hr_ad E 8 r9)), (0, .ref (hr_ad E 0 0)), (1, .int (nI r9))] dX3_tellInTurn_6 rfl (by decide) rfl ?_
  refine hr_aload_n C dX3_tellInTurn_7 rfl 1 rfl ?_
  refine hr_get (k := 0) (i := 0) (fld := 5) C (by decide) rfl rfl (by decide) kU_X3 kF_X3_153 rfl rfl dX3_tellInTurn_8 ?_
  refine hr_iload_n C dX3_tellInTurn_11 rfl 2 rfl ?_
  refine hr_iadd C dX3_tellInTurn_12 rfl ?_
  refine hr_bipush (v := 10) C dX3_tellInTurn_13 (by decide) ?_
  refine hr_irem C dX3_tellInTurn_15 (by decide) rfl ?_
  refine hr_if_ne C 23 dX3_tellInTurn_16 (by decide) (fun c16 => ?_) (fun c16 => ?_)
  · skip
    refine hr_iconst (v := 0) C dX3_tellInTurn_23 (by decide) ?_
    refine hr_istore_n C [(3, .int 0), (2, .ref (hr_ad E 8 r9)), (0, .ref (hr_ad E 0 0)), (1, .int (nI r9))] dX3_tellInTurn_24 rfl (by decide) rfl ?_
    refine hr_iload_n C dX3_tellInTurn_25 rfl 0 rfl ?_
    refine hr_if_ne C 37 dX3_tellInTurn_26 (by decide) (fun c26 => ?_) (fun c26 => ?_)
    · skip
      exact absurd c26 (by decide)
    · skip
      have c26 : 0 = 0 := (nI_eq (a := 0) (b := 0) (by omega) (by omega)).mp c26
      refine hr_aload_n C dX3_tellInTurn_29 rfl 1 rfl ?_
      refine hr_cVi C (ct_X2_hasChanges l E S o r9 (by omega)) (cwV 0 C.1.2.2.2.2 (hr_gV kM_X3_173 kI_X2_hasChanges kS_X2_hasChanges kN_X2 kC_X2_hasChanges) rfl rfl rfl (by decide +kernel) ⟨Nat.le_of_ble_eq_true rfl, Nat.le_of_ble_eq_true rfl⟩) (show r9 < 8 by omega) rfl rfl rfl (Nat.le_of_ble_eq_true rfl) dX3_tellInTurn_30 ⟨Nat.le_of_ble_eq_true rfl, Nat.le_of_ble_eq_true rfl⟩ (fun r1 S2 h3 => ?_) rfl
      refine hr_tp h3.1 ?_
      refine hr_st (S1 := S) h3.2 ?_
      refine hr_if_ne C 37 dX3_tellInTurn_33 (by decide) (fun c33 => ?_) (fun c33 => ?_)
      · skip
        have c33 := hr_bn.mp c33
        have c33 : tb_any S r9 8 = true := c33
        refine hr_iconst (v := 0) C dX3_tellInTurn_37 (by decide) ?_
        refine hr_istore C [(4, .int 0), (3, .int 0), (2, .ref (hr_ad E 8 r9)), (0, .ref (hr_ad E 0 0)), (1, .int (nI r9))] dX3_tellInTurn_38 (by decide) rfl ?_
        have LP40 : ∀ (n x9 : Nat) , x9 ≤ 8 → 8 + 1 ≤ x9 + n → hr_G p l e ({ frames := 4, cells := 0, slots := 0, locals := 107 } : Room) s m #[.ref (hr_ad E 0 0), .int (nI r9)] below meth c (MQ below (va_Qv (fun u => u = cl_turn1 S r9) (fun u t => hr_P E u o t.heap) (hr_A E)) #[.ref (hr_ad E 0 0), .int (nI r9)] s 0 0 (hr_A E)) E 5 0 0 (cl_tt S r9 0 x9) o [(0, .ref (hr_ad E 0 0)), (1, .int (nI r9)), (2, .ref (hr_ad E 8 r9)), (3, .int 0), (4, .int (nI x9))] 40 [] := by
          intro n
          induction n with
          | zero => intro x9  h1 h2; omega
          | succ n ih =>
            intro x9  hv1 hv2
            refine hr_iload C dX3_tellInTurn_40 4 rfl ?_
            refine hr_bipush (v := 8) C dX3_tellInTurn_42 (by decide) ?_
            refine hr_icmp_ge C 71 dX3_tellInTurn_44 (by decide) (fun c44 => ?_) (fun c44 => ?_)
            · skip
              have c44 : 8 ≤ x9 := (nI_leI (a := 8) (b := x9) (by omega) (by omega)).mp c44
              have c44n : ¬ x9 < 8 := Nat.not_lt.mpr c44
              refine hr_aload_n C dX3_tellInTurn_71 rfl 2 rfl ?_
              refine hr_cVv C (ct_X2_clearChanges l E (cl_tt S r9 0 x9) o r9 (by omega)) (cwV 0 C.1.2.2.2.2 (hr_gV kM_X3_181 kI_X2_clearChanges kS_X2_clearChanges kN_X2 kC_X2_clearChanges) rfl rfl rfl (by decide +kernel) ⟨Nat.le_of_ble_eq_true rfl, Nat.le_of_ble_eq_true rfl⟩) (show r9 < 8 by omega) rfl rfl rfl (Nat.le_of_ble_eq_true rfl) dX3_tellInTurn_72 ⟨Nat.le_of_ble_eq_true rfl, Nat.le_of_ble_eq_true rfl⟩ (fun S5 h6 => ?_) rfl
              refine hr_st (S1 := (tb_clr (cl_tt S r9 0 x9) r9 8)) h6 ?_
              exact hr_vret C hr dX3_tellInTurn_75 (by unfold cl_turn1; rw [if_neg (show ¬ cl_ten S r9 = 0 from c16), if_pos c33, show x9 = 8 by omega])
            · skip
              have c44 : ¬ 8 ≤ x9 := fun h => c44 ((nI_leI (a := 8) (b := x9) (by omega) (by omega)).mpr h)
              have c44n : x9 < 8 := Nat.not_le.mp c44
              refine hr_aload_n C dX3_tellInTurn_47 rfl 0 rfl ?_
              refine hr_iload_n C dX3_tellInTurn_48 rfl 1 rfl ?_
              refine hr_iload C dX3_tellInTurn_49 4 rfl ?_
              refine hr_cVi C (ct_X3_isUp l E (cl_tt S r9 0 x9) o r9 x9 (by omega) (by omega) ((CI_tt hI hr9 x9 (by omega)).2.2.2.2.2 _ (by omega))) (cwV 2 C.1.2.2.2.2 (hr_gV kM_X3_41 kI_X3_isUp kS_X3_isUp kN_X3 kC_X3_isUp) rfl rfl rfl (by decide +kernel) ⟨Nat.le_of_ble_eq_true rfl, Nat.le_of_ble_eq_true rfl⟩) (by decide) rfl rfl rfl (Nat.le_of_ble_eq_true rfl) dX3_tellInTurn_51 ⟨Nat.le_of_ble_eq_true rfl, Nat.le_of_ble_eq_true rfl⟩ (fun r7 S8 h9 => ?_) rfl
              refine hr_tp h9.1 ?_
              refine hr_st (S1 := (cl_tt S r9 0 x9)) h9.2 ?_
              refine hr_if_eq C 65 dX3_tellInTurn_54 (by decide) (fun c54 => ?_) (fun c54 => ?_)
              · skip
                have c54 := hr_bz.mp c54
                have c54 : ¬ (¬ (cl_tt S r9 0 x9) 1 0 (r9 * 8 + x9) = 0) := c54
                refine hr_iinc (v := nI (x9 + 1)) C [(4, .int (nI (x9 + 1))), (0, .ref (hr_ad E 0 0)), (1, .int (nI r9)), (2, .ref (hr_ad E 8 r9)), (3, .int 0)] dX3_tellInTurn_65 4 rfl (nI_add x9 1) (by decide) rfl ?_
                refine hr_goto C 40 dX3_tellInTurn_68 (by decide) ?_
                refine hr_sub [1, 2, 3, 4, 0] rfl ?_
                refine hr_st (S1 := cl_tt S r9 0 (x9 + 1)) (by rw [cl_tt, if_neg c54]) ?_
                exact ih (x9 + 1)  (by omega) (by omega)
              · skip
                have c54 := hr_bn.mp c54
                have c54 : ¬ (cl_tt S r9 0 x9) 1 0 (r9 * 8 + x9) = 0 := c54
                refine hr_aload_n C dX3_tellInTurn_57 rfl 0 rfl ?_
                refine hr_iload_n C dX3_tellInTurn_58 rfl 1 rfl ?_
                refine hr_iload C dX3_tellInTurn_59 4 rfl ?_
                refine hr_iload_n C dX3_tellInTurn_61 rfl 3 rfl ?_
                refine hr_cVv C (ct_X3_tell l E (cl_tt S r9 0 x9) o r9 x9 (by omega) (by omega) 0 (CI_tt hI hr9 x9 (by omega))) (cwV 3 C.1.2.2.2.2 (hr_gV kM_X3_177 kI_X3_tell kS_X3_tell kN_X3 kC_X3_tell) rfl rfl rfl (by decide +kernel) ⟨Nat.le_of_ble_eq_true rfl, Nat.le_of_ble_eq_true rfl⟩) (by decide) rfl rfl rfl (Nat.le_of_ble_eq_true rfl) dX3_tellInTurn_62 ⟨Nat.le_of_ble_eq_true rfl, Nat.le_of_ble_eq_true rfl⟩ (fun S11 h12 => ?_) rfl
                refine hr_st (S1 := (cl_tell (cl_tt S r9 0 x9) r9 x9 0)) h12 ?_
                refine hr_iinc (v := nI (x9 + 1)) C [(4, .int (nI (x9 + 1))), (0, .ref (hr_ad E 0 0)), (1, .int (nI r9)), (2, .ref (hr_ad E 8 r9)), (3, .int 0)] dX3_tellInTurn_65 4 rfl (nI_add x9 1) (by decide) rfl ?_
                refine hr_goto C 40 dX3_tellInTurn_68 (by decide) ?_
                refine hr_sub [1, 2, 3, 4, 0] rfl ?_
                refine hr_st (S1 := cl_tt S r9 0 (x9 + 1)) (by rw [cl_tt, if_pos c54]) ?_
                exact ih (x9 + 1)  (by omega) (by omega)
        refine hr_sub [3, 4, 2, 1, 0] rfl ?_
        refine hr_st (S1 := cl_tt S r9 0 0) rfl ?_
        exact LP40 (8 + 1) 0  (by omega) (by omega)
      · skip
        have c33 := hr_bz.mp c33
        have c33 : ¬ (tb_any S r9 8 = true) := c33
        exact hr_vret C hr dX3_tellInTurn_36 (by unfold cl_turn1; rw [if_neg (show ¬ cl_ten S r9 = 0 from c16), if_neg c33])
  · skip
    refine hr_iconst (v := 1) C dX3_tellInTurn_19 (by decide) ?_
    refine hr_goto C 24 dX3_tellInTurn_20 (by decide) ?_
    refine hr_istore_n C [(3, .int 1), (2, .ref (hr_ad E 8 r9)), (0, .ref (hr_ad E 0 0)), (1, .int (nI r9))] dX3_tellInTurn_24 rfl (by decide) rfl ?_
    refine hr_iload_n C dX3_tellInTurn_25 rfl 0 rfl ?_
    refine hr_if_ne C 37 dX3_tellInTurn_26 (by decide) (fun c26 => ?_) (fun c26 => ?_)
    · skip
      have c26 : ¬ 1 = 0 := fun h => c26 ((nI_eq (a := 1) (b := 0) (by omega) (by omega)).mpr h)
      refine hr_iconst (v := 0) C dX3_tellInTurn_37 (by decide) ?_
      refine hr_istore C [(4, .int 0), (3, .int 1), (2, .ref (hr_ad E 8 r9)), (0, .ref (hr_ad E 0 0)), (1, .int (nI r9))] dX3_tellInTurn_38 (by decide) rfl ?_
      have LP40 : ∀ (n x9 : Nat) , x9 ≤ 8 → 8 + 1 ≤ x9 + n → hr_G p l e ({ frames := 4, cells := 0, slots := 0, locals := 107 } : Room) s m #[.ref (hr_ad E 0 0), .int (nI r9)] below meth c (MQ below (va_Qv (fun u => u = cl_turn1 S r9) (fun u t => hr_P E u o t.heap) (hr_A E)) #[.ref (hr_ad E 0 0), .int (nI r9)] s 0 0 (hr_A E)) E 5 0 0 (cl_tt S r9 1 x9) o [(0, .ref (hr_ad E 0 0)), (1, .int (nI r9)), (2, .ref (hr_ad E 8 r9)), (3, .int 1), (4, .int (nI x9))] 40 [] := by
        intro n
        induction n with
        | zero => intro x9  h1 h2; omega
        | succ n ih =>
          intro x9  hv1 hv2
          refine hr_iload C dX3_tellInTurn_40 4 rfl ?_
          refine hr_bipush (v := 8) C dX3_tellInTurn_42 (by decide) ?_
          refine hr_icmp_ge C 71 dX3_tellInTurn_44 (by decide) (fun c44 => ?_) (fun c44 => ?_)
          · skip
            have c44 : 8 ≤ x9 := (nI_leI (a := 8) (b := x9) (by omega) (by omega)).mp c44
            have c44n : ¬ x9 < 8 := Nat.not_lt.mpr c44
            refine hr_aload_n C dX3_tellInTurn_71 rfl 2 rfl ?_
            refine hr_cVv C (ct_X2_clearChanges l E (cl_tt S r9 1 x9) o r9 (by omega)) (cwV 0 C.1.2.2.2.2 (hr_gV kM_X3_181 kI_X2_clearChanges kS_X2_clearChanges kN_X2 kC_X2_clearChanges) rfl rfl rfl (by decide +kernel) ⟨Nat.le_of_ble_eq_true rfl, Nat.le_of_ble_eq_true rfl⟩) (show r9 < 8 by omega) rfl rfl rfl (Nat.le_of_ble_eq_true rfl) dX3_tellInTurn_72 ⟨Nat.le_of_ble_eq_true rfl, Nat.le_of_ble_eq_true rfl⟩ (fun S14 h15 => ?_) rfl
            refine hr_st (S1 := (tb_clr (cl_tt S r9 1 x9) r9 8)) h15 ?_
            exact hr_vret C hr dX3_tellInTurn_75 (by unfold cl_turn1; rw [if_pos (show cl_ten S r9 = 0 from c16), show x9 = 8 by omega])
          · skip
            have c44 : ¬ 8 ≤ x9 := fun h => c44 ((nI_leI (a := 8) (b := x9) (by omega) (by omega)).mpr h)
            have c44n : x9 < 8 := Nat.not_le.mp c44
            refine hr_aload_n C dX3_tellInTurn_47 rfl 0 rfl ?_
            refine hr_iload_n C dX3_tellInTurn_48 rfl 1 rfl ?_
            refine hr_iload C dX3_tellInTurn_49 4 rfl ?_
            refine hr_cVi C (ct_X3_isUp l E (cl_tt S r9 1 x9) o r9 x9 (by omega) (by omega) ((CI_tt hI hr9 x9 (by omega)).2.2.2.2.2 _ (by omega))) (cwV 2 C.1.2.2.2.2 (hr_gV kM_X3_41 kI_X3_isUp kS_X3_isUp kN_X3 kC_X3_isUp) rfl rfl rfl (by decide +kernel) ⟨Nat.le_of_ble_eq_true rfl, Nat.le_of_ble_eq_true rfl⟩) (by decide) rfl rfl rfl (Nat.le_of_ble_eq_true rfl) dX3_tellInTurn_51 ⟨Nat.le_of_ble_eq_true rfl, Nat.le_of_ble_eq_true rfl⟩ (fun r16 S17 h18 => ?_) rfl
            refine hr_tp h18.1 ?_
            refine hr_st (S1 := (cl_tt S r9 1 x9)) h18.2 ?_
            refine hr_if_eq C 65 dX3_tellInTurn_54 (by decide) (fun c54 => ?_) (fun c54 => ?_)
            · skip
              have c54 := hr_bz.mp c54
              have c54 : ¬ (¬ (cl_tt S r9 1 x9) 1 0 (r9 * 8 + x9) = 0) := c54
              refine hr_iinc (v := nI (x9 + 1)) C [(4, .int (nI (x9 + 1))), (0, .ref (hr_ad E 0 0)), (1, .int (nI r9)), (2, .ref (hr_ad E 8 r9)), (3, .int 1)] dX3_tellInTurn_65 4 rfl (nI_add x9 1) (by decide) rfl ?_
              refine hr_goto C 40 dX3_tellInTurn_68 (by decide) ?_
              refine hr_sub [1, 2, 3, 4, 0] rfl ?_
              refine hr_st (S1 := cl_tt S r9 1 (x9 + 1)) (by rw [cl_tt, if_neg c54]) ?_
              exact ih (x9 + 1)  (by omega) (by omega)
            · skip
              have c54 := hr_bn.mp c54
              have c54 : ¬ (cl_tt S r9 1 x9) 1 0 (r9 * 8 + x9) = 0 := c54
              refine hr_aload_n C dX3_tellInTurn_57 rfl 0 rfl ?_
              refine hr_iload_n C dX3_tellInTurn_58 rfl 1 rfl ?_
              refine hr_iload C dX3_tellInTurn_59 4 rfl ?_
              refine hr_iload_n C dX3_tellInTurn_61 rfl 3 rfl ?_
              refine hr_cVv C (ct_X3_tell l E (cl_tt S r9 1 x9) o r9 x9 (by omega) (by omega) 1 (CI_tt hI hr9 x9 (by omega))) (cwV 3 C.1.2.2.2.2 (hr_gV kM_X3_177 kI_X3_tell kS_X3_tell kN_X3 kC_X3_tell) rfl rfl rfl (by decide +kernel) ⟨Nat.le_of_ble_eq_true rfl, Nat.le_of_ble_eq_true rfl⟩) (by decide) rfl rfl rfl (Nat.le_of_ble_eq_true rfl) dX3_tellInTurn_62 ⟨Nat.le_of_ble_eq_true rfl, Nat.le_of_ble_eq_true rfl⟩ (fun S20 h21 => ?_) rfl
              refine hr_st (S1 := (cl_tell (cl_tt S r9 1 x9) r9 x9 1)) h21 ?_
              refine hr_iinc (v := nI (x9 + 1)) C [(4, .int (nI (x9 + 1))), (0, .ref (hr_ad E 0 0)), (1, .int (nI r9)), (2, .ref (hr_ad E 8 r9)), (3, .int 1)] dX3_tellInTurn_65 4 rfl (nI_add x9 1) (by decide) rfl ?_
              refine hr_goto C 40 dX3_tellInTurn_68 (by decide) ?_
              refine hr_sub [1, 2, 3, 4, 0] rfl ?_
              refine hr_st (S1 := cl_tt S r9 1 (x9 + 1)) (by rw [cl_tt, if_pos c54]) ?_
              exact ih (x9 + 1)  (by omega) (by omega)
      refine hr_sub [3, 4, 2, 1, 0] rfl ?_
      refine hr_st (S1 := cl_tt S r9 1 0) rfl ?_
      exact LP40 (8 + 1) 0  (by omega) (by omega)
    · skip
      exact absurd c26 (by decide)
set_option maxHeartbeats 4000000 in
set_option maxRecDepth 100000 in
theorem ct_X3_passTime (l : Launch) (E : hr_E) (S : hr_S) (o : Int64) (hI : hr_CI S) : hr_Mv l E yX3_passTime (Cond.code yX3_passTime cX3_passTime 2 none :: hr_W) ({ frames := 5, cells := 0, slots := 0, locals := 131 } : Room) [.ref (hr_ad E 0 0)] S o (fun u => u = cl_pass S) := by
  refine hr_of (by decide) (Nat.le_of_ble_eq_true rfl) (fun p e s m below meth c C hr => ?_)
  refine hr_aload_n C dX3_passTime_0 rfl 0 rfl ?_
  refine hr_dup C dX3_passTime_1 rfl ?_
  refine hr_get (k := 0) (i := 0) (fld := 5) C (by decide) rfl rfl (by decide) kU_X3 kF_X3_153 rfl rfl dX3_passTime_2 ?_
  refine hr_iconst (v := 1) C dX3_passTime_5 (by decide) ?_
  refine hr_iadd C dX3_passTime_6 rfl ?_
  refine hr_put (k := 0) (i := 0) (fld := 5) C (by decide) rfl rfl (by decide) kU_X3 kF_X3_153 rfl tyX3 tyX3_ok nmX3 rfl (by decide +kernel) (Nat.le_of_ble_eq_true rfl) (by simp [hr_cell, hr_w, hr_wA, upd]) rfl dX3_passTime_7 ?_
  refine hr_iconst (v := 0) C dX3_passTime_10 (by decide) ?_
  refine hr_istore_n C [(1, .int 0), (0, .ref (hr_ad E 0 0))] dX3_passTime_11 rfl (by decide) rfl ?_
  have LP12 : ∀ (n r9 : Nat) , r9 ≤ 8 → 8 + 1 ≤ r9 + n → hr_G p l e ({ frames := 5, cells := 0, slots := 0, locals := 131 } : Room) s m #[.ref (hr_ad E 0 0)] below meth c (MQ below (va_Qv (fun u => u = cl_pass S) (fun u t => hr_P E u o t.heap) (hr_A E)) #[.ref (hr_ad E 0 0)] s 0 0 (hr_A E)) E 2 0 0 (cl_g (hr_w S 0 0 5 ((S 0 0 5) + 1)) r9) o [(0, .ref (hr_ad E 0 0)), (1, .int (nI r9))] 12 [] := by
    intro n
    induction n with
    | zero => intro r9  h1 h2; omega
    | succ n ih =>
      intro r9  hv1 hv2
      refine hr_iload_n C dX3_passTime_12 rfl 1 rfl ?_
      refine hr_bipush (v := 8) C dX3_passTime_13 (by decide) ?_
      refine hr_icmp_ge C 33 dX3_passTime_15 (by decide) (fun c15 => ?_) (fun c15 => ?_)
      · skip
        have c15 : 8 ≤ r9 := (nI_leI (a := 8) (b := r9) (by omega) (by omega)).mp c15
        have c15n : ¬ r9 < 8 := Nat.not_lt.mpr c15
        refine hr_iconst (v := 0) C dX3_passTime_33 (by decide) ?_
        refine hr_istore_n C [(1, .int 0), (0, .ref (hr_ad E 0 0))] dX3_passTime_34 rfl (by decide) rfl ?_
        have LP35 : ∀ (n r9 : Nat) , r9 ≤ 8 → 8 + 1 ≤ r9 + n → hr_G p l e ({ frames := 5, cells := 0, slots := 0, locals := 131 } : Room) s m #[.ref (hr_ad E 0 0)] below meth c (MQ below (va_Qv (fun u => u = cl_pass S) (fun u t => hr_P E u o t.heap) (hr_A E)) #[.ref (hr_ad E 0 0)] s 0 0 (hr_A E)) E 2 0 0 (cl_t (cl_g (hr_w S 0 0 5 ((S 0 0 5) + 1)) 8) r9) o [(0, .ref (hr_ad E 0 0)), (1, .int (nI r9))] 35 [] := by
          intro n
          induction n with
          | zero => intro r9  h1 h2; omega
          | succ n ih =>
            intro r9  hv1 hv2
            refine hr_iload_n C dX3_passTime_35 rfl 1 rfl ?_
            refine hr_bipush (v := 8) C dX3_passTime_36 (by decide) ?_
            refine hr_icmp_ge C 52 dX3_passTime_38 (by decide) (fun c38 => ?_) (fun c38 => ?_)
            · skip
              have c38 : 8 ≤ r9 := (nI_leI (a := 8) (b := r9) (by omega) (by omega)).mp c38
              have c38n : ¬ r9 < 8 := Nat.not_lt.mpr c38
              exact hr_vret C hr dX3_passTime_52 (by rw [show r9 = 8 by omega]; rfl)
            · skip
              have c38 : ¬ 8 ≤ r9 := fun h => c38 ((nI_leI (a := 8) (b := r9) (by omega) (by omega)).mpr h)
              have c38n : r9 < 8 := Nat.not_le.mp c38
              refine hr_aload_n C dX3_passTime_41 rfl 0 rfl ?_
              refine hr_iload_n C dX3_passTime_42 rfl 1 rfl ?_
              refine hr_cVv C (ct_X3_tellInTurn l E (cl_t (cl_g (hr_w S 0 0 5 ((S 0 0 5) + 1)) 8) r9) o r9 (by omega) (CI_t (CI_g (CI_tm hI) 8) r9 (by omega))) (cwV 1 C.1.2.2.2.2 (hr_gV kM_X3_170 kI_X3_tellInTurn kS_X3_tellInTurn kN_X3 kC_X3_tellInTurn) rfl rfl rfl (by decide +kernel) ⟨Nat.le_of_ble_eq_true rfl, Nat.le_of_ble_eq_true rfl⟩) (by decide) rfl rfl rfl (Nat.le_of_ble_eq_true rfl) dX3_passTime_43 ⟨Nat.le_of_ble_eq_true rfl, Nat.le_of_ble_eq_true rfl⟩ (fun S2 h3 => ?_) rfl
              refine hr_st (S1 := (cl_turn1 (cl_t (cl_g (hr_w S 0 0 5 ((S 0 0 5) + 1)) 8) r9) r9)) h3 ?_
              refine hr_iinc (v := nI (r9 + 1)) C [(1, .int (nI (r9 + 1))), (0, .ref (hr_ad E 0 0))] dX3_passTime_46 1 rfl (nI_add r9 1) (by decide) rfl ?_
              refine hr_goto C 35 dX3_passTime_49 (by decide) ?_
              refine hr_sub [1, 0] rfl ?_
              refine hr_st (S1 := cl_t (cl_g (hr_w S 0 0 5 ((S 0 0 5) + 1)) 8) (r9 + 1)) rfl ?_
              exact ih (r9 + 1)  (by omega) (by omega)
        refine hr_sub [1, 0] rfl ?_
        refine hr_st (S1 := cl_t (cl_g (hr_w S 0 0 5 ((S 0 0 5) + 1)) 8) 0) (by rw [show r9 = 8 by omega]; rfl) ?_
        exact LP35 (8 + 1) 0  (by omega) (by omega)
      · skip
        have c15 : ¬ 8 ≤ r9 := fun h => c15 ((nI_leI (a := 8) (b := r9) (by omega) (by omega)).mpr h)
        have c15n : r9 < 8 := Nat.not_le.mp c15
        refine hr_aload_n C dX3_passTime_18 rfl 0 rfl ?_
        refine hr_get (k := 0) (i := 0) (fld := 1) C (by decide) rfl rfl (by decide) kU_X3 kF_X3_15 rfl rfl dX3_passTime_19 ?_
        refine hr_iload_n C dX3_passTime_22 rfl 1 rfl ?_
        refine hr_aald (k := 2) (i := 0) (t0 := 4) (k2 := 8) r9 C (by decide) rfl rfl rfl (show r9 < 8 by omega) (by decide) dX3_passTime_23 ?_
        refine hr_cVv C (ct_X2_growOlder l E (cl_g (hr_w S 0 0 5 ((S 0 0 5) + 1)) r9) o r9 (by omega)) (cwV 0 C.1.2.2.2.2 (hr_gV kM_X3_167 kI_X2_growOlder kS_X2_growOlder kN_X2 kC_X2_growOlder) rfl rfl rfl (by decide +kernel) ⟨Nat.le_of_ble_eq_true rfl, Nat.le_of_ble_eq_true rfl⟩) (show r9 < 8 by omega) rfl rfl rfl (Nat.le_of_ble_eq_true rfl) dX3_passTime_24 ⟨Nat.le_of_ble_eq_true rfl, Nat.le_of_ble_eq_true rfl⟩ (fun S5 h6 => ?_) rfl
        refine hr_st (S1 := (tb_grow (cl_g (hr_w S 0 0 5 ((S 0 0 5) + 1)) r9) r9 8)) h6 ?_
        refine hr_iinc (v := nI (r9 + 1)) C [(1, .int (nI (r9 + 1))), (0, .ref (hr_ad E 0 0))] dX3_passTime_27 1 rfl (nI_add r9 1) (by decide) rfl ?_
        refine hr_goto C 12 dX3_passTime_30 (by decide) ?_
        refine hr_sub [1, 0] rfl ?_
        refine hr_st (S1 := cl_g (hr_w S 0 0 5 ((S 0 0 5) + 1)) (r9 + 1)) rfl ?_
        exact ih (r9 + 1)  (by omega) (by omega)
  refine hr_sub [1, 0] rfl ?_
  refine hr_st (S1 := cl_g (hr_w S 0 0 5 ((S 0 0 5) + 1)) 0) rfl ?_
  exact LP12 (8 + 1) 0  (by omega) (by omega)
set_option maxHeartbeats 4000000 in
set_option maxRecDepth 100000 in
theorem ct_X3_hearResponse (l : Launch) (E : hr_E) (S : hr_S) (o : Int64) (hI : hr_CI S) (hs : 24 ≤ un (S 6 201 2)) : hr_Mv l E yX3_hearResponse (Cond.code yX3_hearResponse cX3_hearResponse 5 none :: hr_W) ({ frames := 3, cells := 0, slots := 0, locals := 66 } : Room) [.ref (hr_ad E 0 0)] S o (fun u => u = cl_hr S) := by
  refine hr_of (by decide) (Nat.le_of_ble_eq_true rfl) (fun p e s m below meth c C hr => ?_)
  have hL5 := (hI.2.2.2.1 201 (by decide)).2.2.2
  have hr5 := (hI.2.2.2.1 201 (by decide)).2.1.2
  refine hr_aload_n C dX3_hearResponse_0 rfl 0 rfl ?_
  refine hr_get (k := 0) (i := 0) (fld := 1) C (by decide) rfl rfl (by decide) kU_X3 kF_X3_15 rfl rfl dX3_hearResponse_1 ?_
  refine hr_aload_n C dX3_hearResponse_4 rfl 0 rfl ?_
  refine hr_get (k := 0) (i := 0) (fld := 4) C (by decide) rfl rfl (by decide) kU_X3 kF_X3_33 rfl rfl dX3_hearResponse_5 ?_
  refine hr_get (k := 6) (i := 201) (fld := 1) C (by decide) rfl rfl (by decide) kU_X1 kF_X3_128 rfl rfl dX3_hearResponse_8 ?_
  refine hr_tp (y := nI (un (S 6 201 1))) (hI.2.2.2.1 201 (by decide)).2.1.1 ?_
  refine hr_aald (k := 2) (i := 0) (t0 := 4) (k2 := 8) (un (S 6 201 1)) C (by decide) rfl rfl rfl (hI.2.2.2.1 201 (by decide)).2.1.2 (by decide) dX3_hearResponse_11 ?_
  refine hr_astore_n C [(1, .ref (hr_ad E 8 (un (S 6 201 1)))), (0, .ref (hr_ad E 0 0))] dX3_hearResponse_12 rfl (by decide) rfl ?_
  refine hr_aload_n C dX3_hearResponse_13 rfl 1 rfl ?_
  refine hr_get (k := 0) (i := 0) (fld := 4) C (by decide) rfl rfl (by decide) kU_X3 kF_X3_33 rfl rfl dX3_hearResponse_14 ?_
  refine hr_cVi C (ct_X1_entries l E S o 201 (by omega) (un (S 6 201 2)) ((hI.2.2.2.1 201 (by decide)).2.2.1) (by omega) (by omega)) (cwV 0 C.1.2.2.2.2 (hr_gV kM_X3_209 kI_X1_entries kS_X1_entries kN_X1 kC_X1_entries) rfl rfl rfl (by decide +kernel) ⟨Nat.le_of_ble_eq_true rfl, Nat.le_of_ble_eq_true rfl⟩) (by decide) rfl rfl rfl (Nat.le_of_ble_eq_true rfl) dX3_hearResponse_17 ⟨Nat.le_of_ble_eq_true rfl, Nat.le_of_ble_eq_true rfl⟩ (fun r1 S2 h3 => ?_) rfl
  refine hr_tp (y := nI (((un (S 6 201 2)) - 4) / 20)) h3.1 ?_
  refine hr_st (S1 := S) h3.2 ?_
  refine hr_istore_n C [(2, .int (nI (((un (S 6 201 2)) - 4) / 20))), (1, .ref (hr_ad E 8 (un (S 6 201 1)))), (0, .ref (hr_ad E 0 0))] dX3_hearResponse_20 rfl (by decide) rfl ?_
  refine hr_iconst (v := 0) C dX3_hearResponse_21 (by decide) ?_
  refine hr_istore_n C [(3, .int 0), (2, .int (nI (((un (S 6 201 2)) - 4) / 20))), (1, .ref (hr_ad E 8 (un (S 6 201 1)))), (0, .ref (hr_ad E 0 0))] dX3_hearResponse_22 rfl (by decide) rfl ?_
  have LP23 : ∀ (n e9 : Nat) , e9 ≤ ((un (S 6 201 2) - 4) / 20) → ((un (S 6 201 2) - 4) / 20) + 1 ≤ e9 + n → hr_G p l e ({ frames := 3, cells := 0, slots := 0, locals := 66 } : Room) s m #[.ref (hr_ad E 0 0)] below meth c (MQ below (va_Qv (fun u => u = cl_hr S) (fun u t => hr_P E u o t.heap) (hr_A E)) #[.ref (hr_ad E 0 0)] s 0 0 (hr_A E)) E 5 0 0 (cl_hrL S (un (S 6 201 1)) e9) o [(0, .ref (hr_ad E 0 0)), (1, .ref (hr_ad E 8 (un (S 6 201 1)))), (2, .int (nI ((un (S 6 201 2) - 4) / 20))), (3, .int (nI e9))] 23 [] := by
    intro n
    induction n with
    | zero => intro e9  h1 h2; omega
    | succ n ih =>
      intro e9  hv1 hv2
      refine hr_iload_n C dX3_hearResponse_23 rfl 3 rfl ?_
      refine hr_iload_n C dX3_hearResponse_24 rfl 2 rfl ?_
      refine hr_icmp_ge C 88 dX3_hearResponse_25 (by decide) (fun c25 => ?_) (fun c25 => ?_)
      · skip
        have c25 : ((un (S 6 201 2) - 4) / 20) ≤ e9 := (nI_leI (a := ((un (S 6 201 2) - 4) / 20)) (b := e9) (by omega) (by omega)).mp c25
        have c25n : ¬ e9 < ((un (S 6 201 2) - 4) / 20) := Nat.not_lt.mpr c25
        exact hr_vret C hr dX3_hearResponse_88 (by rw [show e9 = (un (S 6 201 2) - 4) / 20 by omega]; rfl)
      · skip
        have c25 : ¬ ((un (S 6 201 2) - 4) / 20) ≤ e9 := fun h => c25 ((nI_leI (a := ((un (S 6 201 2) - 4) / 20)) (b := e9) (by omega) (by omega)).mpr h)
        have c25n : e9 < ((un (S 6 201 2) - 4) / 20) := Nat.not_le.mp c25
        refine hr_aload_n C dX3_hearResponse_28 rfl 0 rfl ?_
        refine hr_get (k := 0) (i := 0) (fld := 4) C (by decide) rfl rfl (by decide) kU_X3 kF_X3_33 rfl rfl dX3_hearResponse_29 ?_
        refine hr_iload_n C dX3_hearResponse_32 rfl 3 rfl ?_
        refine hr_cVi C (ct_X1_isSoundEntry l E (cl_hrL S (un (S 6 201 1)) e9) o 201 (by omega) e9 (by omega)) (cwV 1 C.1.2.2.2.2 (hr_gV kM_X3_213 kI_X1_isSoundEntry kS_X1_isSoundEntry kN_X1 kC_X1_isSoundEntry) rfl rfl rfl (by decide +kernel) ⟨Nat.le_of_ble_eq_true rfl, Nat.le_of_ble_eq_true rfl⟩) (by decide) rfl rfl rfl (Nat.le_of_ble_eq_true rfl) dX3_hearResponse_33 ⟨Nat.le_of_ble_eq_true rfl, Nat.le_of_ble_eq_true rfl⟩ (fun r4 S5 h6 => ?_) rfl
        refine hr_tp h6.1 ?_
        refine hr_st (S1 := (cl_hrL S (un (S 6 201 1)) e9)) h6.2 ?_
        refine hr_if_eq C 82 dX3_hearResponse_36 (by decide) (fun c36 => ?_) (fun c36 => ?_)
        · skip
          have c36 := hr_bz.mp c36
          have c36 : ¬ (pk_sE (cl_hrL S (un (S 6 201 1)) e9) 201 e9) := c36
          refine hr_iinc (v := nI (e9 + 1)) C [(3, .int (nI (e9 + 1))), (0, .ref (hr_ad E 0 0)), (1, .ref (hr_ad E 8 (un (S 6 201 1)))), (2, .int (nI ((un (S 6 201 2) - 4) / 20)))] dX3_hearResponse_82 3 rfl (nI_add e9 1) (by decide) rfl ?_
          refine hr_goto C 23 dX3_hearResponse_85 (by decide) ?_
          refine hr_sub [1, 2, 3, 0] rfl ?_
          refine hr_st (S1 := cl_hrL S (un (S 6 201 1)) (e9 + 1)) (by rw [cl_hrL, if_neg (fun h => c36 h.1)]) ?_
          exact ih (e9 + 1)  (by omega) (by omega)
        · skip
          have c36 := hr_bn.mp c36
          have c36 : pk_sE (cl_hrL S (un (S 6 201 1)) e9) 201 e9 := c36
          refine hr_aload_n C dX3_hearResponse_39 rfl 0 rfl ?_
          refine hr_get (k := 0) (i := 0) (fld := 4) C (by decide) rfl rfl (by decide) kU_X3 kF_X3_33 rfl rfl dX3_hearResponse_40 ?_
          refine hr_iload_n C dX3_hearResponse_43 rfl 3 rfl ?_
          refine hr_cVi C (ct_X1_destination l E (cl_hrL S (un (S 6 201 1)) e9) o 201 (by omega) e9 (by omega)) (cwV 1 C.1.2.2.2.2 (hr_gV kM_X3_216 kI_X1_destination kS_X1_destination kN_X1 kC_X1_destination) rfl rfl rfl (by decide +kernel) ⟨Nat.le_of_ble_eq_true rfl, Nat.le_of_ble_eq_true rfl⟩) (by decide) rfl rfl rfl (Nat.le_of_ble_eq_true rfl) dX3_hearResponse_44 ⟨Nat.le_of_ble_eq_true rfl, Nat.le_of_ble_eq_true rfl⟩ (fun r7 S8 h9 => ?_) rfl
          refine hr_tp (y := pk_dst (cl_hrL S (un (S 6 201 1)) e9) 201 e9) h9.1 ?_
          refine hr_st (S1 := (cl_hrL S (un (S 6 201 1)) e9)) h9.2 ?_
          refine hr_tp (y := nI (un (pk_dst (cl_hrL S (un (S 6 201 1)) e9) 201 e9))) (hr_dst _ c36.2.1.1).1 ?_
          refine hr_istore C [(4, .int (nI (un (pk_dst (cl_hrL S (un (S 6 201 1)) e9) 201 e9)))), (0, .ref (hr_ad E 0 0)), (1, .ref (hr_ad E 8 (un (S 6 201 1)))), (2, .int (nI ((un (S 6 201 2) - 4) / 20))), (3, .int (nI e9))] dX3_hearResponse_47 (by decide) rfl ?_
          refine hr_iload C dX3_hearResponse_49 0 rfl ?_
          refine hr_aload_n C dX3_hearResponse_51 rfl 1 rfl ?_
          refine hr_get (k := 0) (i := 0) (fld := 4) C (by decide) rfl rfl (by decide) kU_X3 kF_X3_33 rfl rfl dX3_hearResponse_52 ?_
          refine hr_get (k := 6) (i := 201) (fld := 1) C (by decide) rfl rfl (by decide) kU_X1 kF_X3_128 rfl rfl dX3_hearResponse_55 ?_
          refine hr_icmp_eq C 82 dX3_hearResponse_58 (by decide) (fun c58 => ?_) (fun c58 => ?_)
          · skip
            refine hr_iinc (v := nI (e9 + 1)) C [(3, .int (nI (e9 + 1))), (4, .int (nI (un (pk_dst (cl_hrL S (un (S 6 201 1)) e9) 201 e9)))), (0, .ref (hr_ad E 0 0)), (1, .ref (hr_ad E 8 (un (S 6 201 1)))), (2, .int (nI ((un (S 6 201 2) - 4) / 20)))] dX3_hearResponse_82 4 rfl (nI_add e9 1) (by decide) rfl ?_
            refine hr_goto C 23 dX3_hearResponse_85 (by decide) ?_
            refine hr_sub [2, 3, 4, 0] rfl ?_
            refine hr_st (S1 := cl_hrL S (un (S 6 201 1)) (e9 + 1)) (by rw [cl_hrL, if_neg (fun h => h.2 ((hr_dst _ c36.2.1.1).1.trans c58))]) ?_
            exact ih (e9 + 1)  (by omega) (by omega)
          · skip
            refine hr_aload_n C dX3_hearResponse_61 rfl 2 rfl ?_
            refine hr_iload C dX3_hearResponse_62 0 rfl ?_
            refine hr_aload_n C dX3_hearResponse_64 rfl 1 rfl ?_
            refine hr_get (k := 0) (i := 0) (fld := 4) C (by decide) rfl rfl (by decide) kU_X3 kF_X3_33 rfl rfl dX3_hearResponse_65 ?_
            refine hr_iload_n C dX3_hearResponse_68 rfl 4 rfl ?_
            refine hr_cVi C (ct_X1_metric l E (cl_hrL S (un (S 6 201 1)) e9) o 201 (by omega) e9 (by omega)) (cwV 1 C.1.2.2.2.2 (hr_gV kM_X3_219 kI_X1_metric kS_X1_metric kN_X1 kC_X1_metric) rfl rfl rfl (by decide +kernel) ⟨Nat.le_of_ble_eq_true rfl, Nat.le_of_ble_eq_true rfl⟩) (by decide) rfl rfl rfl (Nat.le_of_ble_eq_true rfl) dX3_hearResponse_69 ⟨Nat.le_of_ble_eq_true rfl, Nat.le_of_ble_eq_true rfl⟩ (fun r10 S11 h12 => ?_) rfl
            refine hr_tp (y := pk_met (cl_hrL S (un (S 6 201 1)) e9) 201 e9) h12.1 ?_
            refine hr_st (S1 := (cl_hrL S (un (S 6 201 1)) e9)) h12.2 ?_
            refine hr_aload_n C dX3_hearResponse_72 rfl 1 rfl ?_
            refine hr_get (k := 0) (i := 0) (fld := 4) C (by decide) rfl rfl (by decide) kU_X3 kF_X3_33 rfl rfl dX3_hearResponse_73 ?_
            refine hr_get (k := 6) (i := 201) (fld := 0) C (by decide) rfl rfl (by decide) kU_X1 kF_X3_125 rfl rfl dX3_hearResponse_76 ?_
            refine hr_cVv C (ct_X2_hear l E (cl_hrL S (un (S 6 201 1)) e9) o (un (S 6 201 1)) hr5 (un (pk_dst (cl_hrL S (un (S 6 201 1)) e9) 201 e9)) ((hr_dst _ c36.2.1.1).2) (pk_met (cl_hrL S (un (S 6 201 1)) e9) 201 e9) ((cl_hrL S (un (S 6 201 1)) e9) 6 201 0)) (cwV 3 C.1.2.2.2.2 (hr_gV kM_X3_222 kI_X2_hear kS_X2_hear kN_X2 kC_X2_hear) rfl rfl rfl (by decide +kernel) ⟨Nat.le_of_ble_eq_true rfl, Nat.le_of_ble_eq_true rfl⟩) (show _ < 8 from hr5) rfl rfl rfl (Nat.le_of_ble_eq_true rfl) dX3_hearResponse_79 ⟨Nat.le_of_ble_eq_true rfl, Nat.le_of_ble_eq_true rfl⟩ (fun S14 h15 => ?_) rfl
            refine hr_st (S1 := (tb_hear (cl_hrL S (un (S 6 201 1)) e9) (un (S 6 201 1)) (un (pk_dst (cl_hrL S (un (S 6 201 1)) e9) 201 e9)) (pk_met (cl_hrL S (un (S 6 201 1)) e9) 201 e9) ((cl_hrL S (un (S 6 201 1)) e9) 6 201 0))) h15 ?_
            refine hr_iinc (v := nI (e9 + 1)) C [(3, .int (nI (e9 + 1))), (4, .int (nI (un (pk_dst (cl_hrL S (un (S 6 201 1)) e9) 201 e9)))), (0, .ref (hr_ad E 0 0)), (1, .ref (hr_ad E 8 (un (S 6 201 1)))), (2, .int (nI ((un (S 6 201 2) - 4) / 20)))] dX3_hearResponse_82 4 rfl (nI_add e9 1) (by decide) rfl ?_
            refine hr_goto C 23 dX3_hearResponse_85 (by decide) ?_
            refine hr_sub [2, 3, 4, 0] rfl ?_
            refine hr_st (S1 := cl_hrL S (un (S 6 201 1)) (e9 + 1)) (by rw [cl_hrL, if_pos ⟨c36, fun h => c58 ((hr_dst _ c36.2.1.1).1.symm.trans h)⟩]; try rfl) ?_
            exact ih (e9 + 1)  (by omega) (by omega)
  refine hr_sub [3, 2, 1, 0] rfl ?_
  refine hr_st (S1 := cl_hrL S (un (S 6 201 1)) 0) rfl ?_
  exact LP23 (((un (S 6 201 2) - 4) / 20) + 1) 0  (by omega) (by omega)
end
section
set_option maxHeartbeats 4000000 in
set_option maxRecDepth 100000 in
theorem ct_X3_answerRequest (l : Launch) (E : hr_E) (S : hr_S) (o : Int64) (hI : hr_CI S) (hs : 24 ≤ un (S 6 201 2)) : hr_Mv l E yX3_answerRequest (Cond.code yX3_answerRequest cX3_answerRequest 5 none :: hr_W) ({ frames := 4, cells := 0, slots := 0, locals := 107 } : Room) [.ref (hr_ad E 0 0)] S o (fun u => u = cl_ans S) := by
  refine hr_of (by decide) (Nat.le_of_ble_eq_true rfl) (fun p e s m below meth c C hr => ?_)
  have hL5 := (hI.2.2.2.1 201 (by decide)).2.2.2
  have hr5 := (hI.2.2.2.1 201 (by decide)).2.1.2
  have hx5 := (hI.2.2.2.1 201 (by decide)).1.2
  refine hr_aload_n C dX3_answerRequest_0 rfl 0 rfl ?_
  refine hr_get (k := 0) (i := 0) (fld := 4) C (by decide) rfl rfl (by decide) kU_X3 kF_X3_33 rfl rfl dX3_answerRequest_1 ?_
  refine hr_get (k := 6) (i := 201) (fld := 1) C (by decide) rfl rfl (by decide) kU_X1 kF_X3_128 rfl rfl dX3_answerRequest_4 ?_
  refine hr_tp (y := nI (un (S 6 201 1))) (hI.2.2.2.1 201 (by decide)).2.1.1 ?_
  refine hr_istore_n C [(1, .int (nI (un (S 6 201 1)))), (0, .ref (hr_ad E 0 0))] dX3_answerRequest_7 rfl (by decide) rfl ?_
  refine hr_aload_n C dX3_answerRequest_8 rfl 1 rfl ?_
  refine hr_get (k := 0) (i := 0) (fld := 4) C (by decide) rfl rfl (by decide) kU_X3 kF_X3_33 rfl rfl dX3_answerRequest_9 ?_
  refine hr_cVi C (ct_X1_asksForAll l E S o 201 (by omega) (un (S 6 201 2)) ((hI.2.2.2.1 201 (by decide)).2.2.1) (by omega) (by omega)) (cwV 0 C.1.2.2.2.2 (hr_gV kM_X3_225 kI_X1_asksForAll kS_X1_asksForAll kN_X1 kC_X1_asksForAll) rfl rfl rfl (by decide +kernel) ⟨Nat.le_of_ble_eq_true rfl, Nat.le_of_ble_eq_true rfl⟩) (by decide) rfl rfl rfl (Nat.le_of_ble_eq_true rfl) dX3_answerRequest_12 ⟨Nat.le_of_ble_eq_true rfl, Nat.le_of_ble_eq_true rfl⟩ (fun r1 S2 h3 => ?_) rfl
  refine hr_tp h3.1 ?_
  refine hr_st (S1 := S) h3.2 ?_
  refine hr_if_eq C 32 dX3_answerRequest_15 (by decide) (fun c15 => ?_) (fun c15 => ?_)
  · skip
    have c15 := hr_bz.mp c15
    have c15 : ¬ (pk_all S 201) := c15
    refine hr_aload_n C dX3_answerRequest_32 rfl 1 rfl ?_
    refine hr_get (k := 0) (i := 0) (fld := 3) C (by decide) rfl rfl (by decide) kU_X3 kF_X3_29 rfl rfl dX3_answerRequest_33 ?_
    refine hr_iload_n C dX3_answerRequest_36 rfl 0 rfl ?_
    refine hr_aload_n C dX3_answerRequest_37 rfl 1 rfl ?_
    refine hr_get (k := 0) (i := 0) (fld := 4) C (by decide) rfl rfl (by decide) kU_X3 kF_X3_33 rfl rfl dX3_answerRequest_38 ?_
    refine hr_get (k := 6) (i := 201) (fld := 0) C (by decide) rfl rfl (by decide) kU_X1 kF_X3_125 rfl rfl dX3_answerRequest_41 ?_
    refine hr_tp (y := nI (un (S 6 201 0))) (hI.2.2.2.1 201 (by decide)).1.1 ?_
    refine hr_ldc (v := 33685504) C dX3_answerRequest_44 kK_X3_184 ?_
    refine hr_cVv C (ct_X1_begin l E S o 200 (by omega) (nI (un (S 6 201 1))) (nI (un (S 6 201 0))) 33685504) (cwV 3 C.1.2.2.2.2 (hr_gV kM_X3_68 kI_X1_begin kS_X1_begin kN_X1 kC_X1_begin) rfl rfl rfl (by decide +kernel) ⟨Nat.le_of_ble_eq_true rfl, Nat.le_of_ble_eq_true rfl⟩) (by decide) rfl rfl rfl (Nat.le_of_ble_eq_true rfl) dX3_answerRequest_46 ⟨Nat.le_of_ble_eq_true rfl, Nat.le_of_ble_eq_true rfl⟩ (fun S5 h6 => ?_) rfl
    refine hr_st (S1 := (pk_begin S 200 (nI (un (S 6 201 1))) (nI (un (S 6 201 0))) 33685504)) h6 ?_
    refine hr_aload_n C dX3_answerRequest_49 rfl 1 rfl ?_
    refine hr_get (k := 0) (i := 0) (fld := 4) C (by decide) rfl rfl (by decide) kU_X3 kF_X3_33 rfl rfl dX3_answerRequest_50 ?_
    refine hr_cVi C (ct_X1_entries l E (pk_begin S 200 (nI (un (S 6 201 1))) (nI (un (S 6 201 0))) 33685504) o 201 (by omega) (un (S 6 201 2)) (show S 6 201 2 = _ from (hI.2.2.2.1 201 (by decide)).2.2.1) (by omega) (by omega)) (cwV 0 C.1.2.2.2.2 (hr_gV kM_X3_209 kI_X1_entries kS_X1_entries kN_X1 kC_X1_entries) rfl rfl rfl (by decide +kernel) ⟨Nat.le_of_ble_eq_true rfl, Nat.le_of_ble_eq_true rfl⟩) (by decide) rfl rfl rfl (Nat.le_of_ble_eq_true rfl) dX3_answerRequest_53 ⟨Nat.le_of_ble_eq_true rfl, Nat.le_of_ble_eq_true rfl⟩ (fun r7 S8 h9 => ?_) rfl
    refine hr_tp (y := nI (((un (S 6 201 2)) - 4) / 20)) h9.1 ?_
    refine hr_st (S1 := (pk_begin S 200 (nI (un (S 6 201 1))) (nI (un (S 6 201 0))) 33685504)) h9.2 ?_
    refine hr_istore_n C [(2, .int (nI (((un (S 6 201 2)) - 4) / 20))), (1, .int (nI (un (S 6 201 1)))), (0, .ref (hr_ad E 0 0))] dX3_answerRequest_56 rfl (by decide) rfl ?_
    refine hr_iconst (v := 0) C dX3_answerRequest_57 (by decide) ?_
    refine hr_istore_n C [(3, .int 0), (2, .int (nI (((un (S 6 201 2)) - 4) / 20))), (1, .int (nI (un (S 6 201 1)))), (0, .ref (hr_ad E 0 0))] dX3_answerRequest_58 rfl (by decide) rfl ?_
    have LP59 : ∀ (n e9 : Nat) , e9 ≤ ((un (S 6 201 2) - 4) / 20) → ((un (S 6 201 2) - 4) / 20) + 1 ≤ e9 + n → hr_G p l e ({ frames := 4, cells := 0, slots := 0, locals := 107 } : Room) s m #[.ref (hr_ad E 0 0)] below meth c (MQ below (va_Qv (fun u => u = cl_ans S) (fun u t => hr_P E u o t.heap) (hr_A E)) #[.ref (hr_ad E 0 0)] s 0 0 (hr_A E)) E 5 0 0 (cl_anL (pk_begin S 200 (nI (un (S 6 201 1))) (nI (un (S 6 201 0))) 33685504) (un (S 6 201 1)) e9) o [(0, .ref (hr_ad E 0 0)), (1, .int (nI (un (S 6 201 1)))), (2, .int (nI ((un (S 6 201 2) - 4) / 20))), (3, .int (nI e9))] 59 [] := by
      intro n
      induction n with
      | zero => intro e9  h1 h2; omega
      | succ n ih =>
        intro e9  hv1 hv2
        refine hr_iload_n C dX3_answerRequest_59 rfl 3 rfl ?_
        refine hr_iload_n C dX3_answerRequest_60 rfl 2 rfl ?_
        refine hr_icmp_ge C 108 dX3_answerRequest_61 (by decide) (fun c61 => ?_) (fun c61 => ?_)
        · skip
          have c61 : ((un (S 6 201 2) - 4) / 20) ≤ e9 := (nI_leI (a := ((un (S 6 201 2) - 4) / 20)) (b := e9) (by omega) (by omega)).mp c61
          have c61n : ¬ e9 < ((un (S 6 201 2) - 4) / 20) := Nat.not_lt.mpr c61
          have hX : hr_CI (cl_anL (pk_begin S 200 (nI (un (S 6 201 1))) (nI (un (S 6 201 0))) 33685504) (un (S 6 201 1)) e9) := (CI_anL (r := un (S 6 201 1)) (CI_begin hI (nb_nI hr5 (by decide)) (nb_nI hx5 (by decide))) e9)
          have hX2 := (hX.2.2.2.1 200 (by decide)).2.2.2
          refine hr_aload_n C dX3_answerRequest_108 rfl 0 rfl ?_
          refine hr_get (k := 0) (i := 0) (fld := 3) C (by decide) rfl rfl (by decide) kU_X3 kF_X3_29 rfl rfl dX3_answerRequest_109 ?_
          refine hr_cVi C (ct_X1_entries l E (cl_anL (pk_begin S 200 (nI (un (S 6 201 1))) (nI (un (S 6 201 0))) 33685504) (un (S 6 201 1)) e9) o 200 (by omega) (un ((cl_anL (pk_begin S 200 (nI (un (S 6 201 1))) (nI (un (S 6 201 0))) 33685504) (un (S 6 201 1)) e9) 6 200 2)) ((hX.2.2.2.1 200 (by decide)).2.2.1) (len_anL (by rw [len_begin]; omega) _ e9) (by omega)) (cwV 0 C.1.2.2.2.2 (hr_gV kM_X3_209 kI_X1_entries kS_X1_entries kN_X1 kC_X1_entries) rfl rfl rfl (by decide +kernel) ⟨Nat.le_of_ble_eq_true rfl, Nat.le_of_ble_eq_true rfl⟩) (by decide) rfl rfl rfl (Nat.le_of_ble_eq_true rfl) dX3_answerRequest_112 ⟨Nat.le_of_ble_eq_true rfl, Nat.le_of_ble_eq_true rfl⟩ (fun r10 S11 h12 => ?_) rfl
          refine hr_tp (y := nI (((un ((cl_anL (pk_begin S 200 (nI (un (S 6 201 1))) (nI (un (S 6 201 0))) 33685504) (un (S 6 201 1)) e9) 6 200 2)) - 4) / 20)) h12.1 ?_
          refine hr_st (S1 := (cl_anL (pk_begin S 200 (nI (un (S 6 201 1))) (nI (un (S 6 201 0))) 33685504) (un (S 6 201 1)) e9)) h12.2 ?_
          refine hr_if_le C 129 dX3_answerRequest_115 (by decide) (fun c115 => ?_) (fun c115 => ?_)
          · skip
            have c115 : (((un ((cl_anL (pk_begin S 200 (nI (un (S 6 201 1))) (nI (un (S 6 201 0))) 33685504) (un (S 6 201 1)) e9) 6 200 2)) - 4) / 20) ≤ 0 := (nI_leI (a := (((un ((cl_anL (pk_begin S 200 (nI (un (S 6 201 1))) (nI (un (S 6 201 0))) 33685504) (un (S 6 201 1)) e9) 6 200 2)) - 4) / 20)) (b := 0) (by omega) (by omega)).mp c115
            have c115n : ¬ 0 < (((un ((cl_anL (pk_begin S 200 (nI (un (S 6 201 1))) (nI (un (S 6 201 0))) 33685504) (un (S 6 201 1)) e9) 6 200 2)) - 4) / 20) := Nat.not_lt.mpr c115
            exact hr_vret C hr dX3_answerRequest_129 (by have he : cl_ans1 S = cl_anL (pk_begin S 200 (nI (un (S 6 201 1))) (nI (un (S 6 201 0))) 33685504) (un (S 6 201 1)) e9 := (by rw [show e9 = ((un (S 6 201 2) - 4) / 20) by omega]; rfl); unfold cl_ans; rw [if_neg c15, he, if_neg (by unfold pk_ent; omega)])
          · skip
            have c115 : ¬ (((un ((cl_anL (pk_begin S 200 (nI (un (S 6 201 1))) (nI (un (S 6 201 0))) 33685504) (un (S 6 201 1)) e9) 6 200 2)) - 4) / 20) ≤ 0 := fun h => c115 ((nI_leI (a := (((un ((cl_anL (pk_begin S 200 (nI (un (S 6 201 1))) (nI (un (S 6 201 0))) 33685504) (un (S 6 201 1)) e9) 6 200 2)) - 4) / 20)) (b := 0) (by omega) (by omega)).mpr h)
            have c115n : 0 < (((un ((cl_anL (pk_begin S 200 (nI (un (S 6 201 1))) (nI (un (S 6 201 0))) 33685504) (un (S 6 201 1)) e9) 6 200 2)) - 4) / 20) := Nat.not_le.mp c115
            refine hr_aload_n C dX3_answerRequest_118 rfl 0 rfl ?_
            refine hr_get (k := 0) (i := 0) (fld := 2) C (by decide) rfl rfl (by decide) kU_X3 kF_X3_22 rfl rfl dX3_answerRequest_119 ?_
            refine hr_aload_n C dX3_answerRequest_122 rfl 0 rfl ?_
            refine hr_get (k := 0) (i := 0) (fld := 3) C (by decide) rfl rfl (by decide) kU_X3 kF_X3_29 rfl rfl dX3_answerRequest_123 ?_
            refine hr_cVv C (ct_X0_launch l E (cl_anL (pk_begin S 200 (nI (un (S 6 201 1))) (nI (un (S 6 201 0))) 33685504) (un (S 6 201 1)) e9) o 200 (by omega) hX (ai_ne hX (by omega))) (cwV 1 C.1.2.2.2.2 (hr_gV kM_X3_75 kI_X0_launch kS_X0_launch kN_X0 kC_X0_launch) rfl rfl rfl (by decide +kernel) ⟨Nat.le_of_ble_eq_true rfl, Nat.le_of_ble_eq_true rfl⟩) (by decide) rfl rfl rfl (Nat.le_of_ble_eq_true rfl) dX3_answerRequest_126 ⟨Nat.le_of_ble_eq_true rfl, Nat.le_of_ble_eq_true rfl⟩ (fun S14 h15 => ?_) rfl
            refine hr_st (S1 := (ai_launch (cl_anL (pk_begin S 200 (nI (un (S 6 201 1))) (nI (un (S 6 201 0))) 33685504) (un (S 6 201 1)) e9) 200)) h15 ?_
            exact hr_vret C hr dX3_answerRequest_129 (by have he : cl_ans1 S = cl_anL (pk_begin S 200 (nI (un (S 6 201 1))) (nI (un (S 6 201 0))) 33685504) (un (S 6 201 1)) e9 := (by rw [show e9 = ((un (S 6 201 2) - 4) / 20) by omega]; rfl); unfold cl_ans; rw [if_neg c15, he, if_pos (by unfold pk_ent; omega)])
        · skip
          have c61 : ¬ ((un (S 6 201 2) - 4) / 20) ≤ e9 := fun h => c61 ((nI_leI (a := ((un (S 6 201 2) - 4) / 20)) (b := e9) (by omega) (by omega)).mpr h)
          have c61n : e9 < ((un (S 6 201 2) - 4) / 20) := Nat.not_le.mp c61
          refine hr_aload_n C dX3_answerRequest_64 rfl 0 rfl ?_
          refine hr_get (k := 0) (i := 0) (fld := 4) C (by decide) rfl rfl (by decide) kU_X3 kF_X3_33 rfl rfl dX3_answerRequest_65 ?_
          refine hr_iload_n C dX3_answerRequest_68 rfl 3 rfl ?_
          refine hr_cVi C (ct_X1_isSoundEntry l E (cl_anL (pk_begin S 200 (nI (un (S 6 201 1))) (nI (un (S 6 201 0))) 33685504) (un (S 6 201 1)) e9) o 201 (by omega) e9 (by omega)) (cwV 1 C.1.2.2.2.2 (hr_gV kM_X3_213 kI_X1_isSoundEntry kS_X1_isSoundEntry kN_X1 kC_X1_isSoundEntry) rfl rfl rfl (by decide +kernel) ⟨Nat.le_of_ble_eq_true rfl, Nat.le_of_ble_eq_true rfl⟩) (by decide) rfl rfl rfl (Nat.le_of_ble_eq_true rfl) dX3_answerRequest_69 ⟨Nat.le_of_ble_eq_true rfl, Nat.le_of_ble_eq_true rfl⟩ (fun r16 S17 h18 => ?_) rfl
          refine hr_tp h18.1 ?_
          refine hr_st (S1 := (cl_anL (pk_begin S 200 (nI (un (S 6 201 1))) (nI (un (S 6 201 0))) 33685504) (un (S 6 201 1)) e9)) h18.2 ?_
          refine hr_if_eq C 102 dX3_answerRequest_72 (by decide) (fun c72 => ?_) (fun c72 => ?_)
          · skip
            have c72 := hr_bz.mp c72
            have c72 : ¬ (pk_sE (cl_anL (pk_begin S 200 (nI (un (S 6 201 1))) (nI (un (S 6 201 0))) 33685504) (un (S 6 201 1)) e9) 201 e9) := c72
            refine hr_iinc (v := nI (e9 + 1)) C [(3, .int (nI (e9 + 1))), (0, .ref (hr_ad E 0 0)), (1, .int (nI (un (S 6 201 1)))), (2, .int (nI ((un (S 6 201 2) - 4) / 20)))] dX3_answerRequest_102 3 rfl (nI_add e9 1) (by decide) rfl ?_
            refine hr_goto C 59 dX3_answerRequest_105 (by decide) ?_
            refine hr_sub [1, 2, 3, 0] rfl ?_
            refine hr_st (S1 := cl_anL (pk_begin S 200 (nI (un (S 6 201 1))) (nI (un (S 6 201 0))) 33685504) (un (S 6 201 1)) (e9 + 1)) (by rw [cl_anL, if_neg c72]) ?_
            exact ih (e9 + 1)  (by omega) (by omega)
          · skip
            have c72 := hr_bn.mp c72
            have c72 : pk_sE (cl_anL (pk_begin S 200 (nI (un (S 6 201 1))) (nI (un (S 6 201 0))) 33685504) (un (S 6 201 1)) e9) 201 e9 := c72
            refine hr_aload_n C dX3_answerRequest_75 rfl 0 rfl ?_
            refine hr_get (k := 0) (i := 0) (fld := 4) C (by decide) rfl rfl (by decide) kU_X3 kF_X3_33 rfl rfl dX3_answerRequest_76 ?_
            refine hr_iload_n C dX3_answerRequest_79 rfl 3 rfl ?_
            refine hr_cVi C (ct_X1_destination l E (cl_anL (pk_begin S 200 (nI (un (S 6 201 1))) (nI (un (S 6 201 0))) 33685504) (un (S 6 201 1)) e9) o 201 (by omega) e9 (by omega)) (cwV 1 C.1.2.2.2.2 (hr_gV kM_X3_216 kI_X1_destination kS_X1_destination kN_X1 kC_X1_destination) rfl rfl rfl (by decide +kernel) ⟨Nat.le_of_ble_eq_true rfl, Nat.le_of_ble_eq_true rfl⟩) (by decide) rfl rfl rfl (Nat.le_of_ble_eq_true rfl) dX3_answerRequest_80 ⟨Nat.le_of_ble_eq_true rfl, Nat.le_of_ble_eq_true rfl⟩ (fun r19 S20 h21 => ?_) rfl
            refine hr_tp (y := pk_dst (cl_anL (pk_begin S 200 (nI (un (S 6 201 1))) (nI (un (S 6 201 0))) 33685504) (un (S 6 201 1)) e9) 201 e9) h21.1 ?_
            refine hr_st (S1 := (cl_anL (pk_begin S 200 (nI (un (S 6 201 1))) (nI (un (S 6 201 0))) 33685504) (un (S 6 201 1)) e9)) h21.2 ?_
            refine hr_tp (y := nI (un (pk_dst (cl_anL (pk_begin S 200 (nI (un (S 6 201 1))) (nI (un (S 6 201 0))) 33685504) (un (S 6 201 1)) e9) 201 e9))) (hr_dst _ c72.2.1.1).1 ?_
            refine hr_istore C [(4, .int (nI (un (pk_dst (cl_anL (pk_begin S 200 (nI (un (S 6 201 1))) (nI (un (S 6 201 0))) 33685504) (un (S 6 201 1)) e9) 201 e9)))), (0, .ref (hr_ad E 0 0)), (1, .int (nI (un (S 6 201 1)))), (2, .int (nI ((un (S 6 201 2) - 4) / 20))), (3, .int (nI e9))] dX3_answerRequest_83 (by decide) rfl ?_
            refine hr_aload_n C dX3_answerRequest_85 rfl 1 rfl ?_
            refine hr_get (k := 0) (i := 0) (fld := 3) C (by decide) rfl rfl (by decide) kU_X3 kF_X3_29 rfl rfl dX3_answerRequest_86 ?_
            refine hr_iconst (v := 2) C dX3_answerRequest_89 (by decide) ?_
            refine hr_iload C dX3_answerRequest_90 0 rfl ?_
            refine hr_aload_n C dX3_answerRequest_92 rfl 1 rfl ?_
            refine hr_iload_n C dX3_answerRequest_93 rfl 2 rfl ?_
            refine hr_iload C dX3_answerRequest_94 0 rfl ?_
            refine hr_cVi C (ct_X3_metricAnswered l E (cl_anL (pk_begin S 200 (nI (un (S 6 201 1))) (nI (un (S 6 201 0))) 33685504) (un (S 6 201 1)) e9) o (un (S 6 201 1)) (un (pk_dst (cl_anL (pk_begin S 200 (nI (un (S 6 201 1))) (nI (un (S 6 201 0))) 33685504) (un (S 6 201 1)) e9) 201 e9)) hr5 ((hr_dst _ c72.2.1.1).2)) (cwV 2 C.1.2.2.2.2 (hr_gV kM_X3_228 kI_X3_metricAnswered kS_X3_metricAnswered kN_X3 kC_X3_metricAnswered) rfl rfl rfl (by decide +kernel) ⟨Nat.le_of_ble_eq_true rfl, Nat.le_of_ble_eq_true rfl⟩) (by decide) rfl rfl rfl (Nat.le_of_ble_eq_true rfl) dX3_answerRequest_96 ⟨Nat.le_of_ble_eq_true rfl, Nat.le_of_ble_eq_true rfl⟩ (fun r22 S23 h24 => ?_) rfl
            refine hr_tp (y := cl_mans (cl_anL (pk_begin S 200 (nI (un (S 6 201 1))) (nI (un (S 6 201 0))) 33685504) (un (S 6 201 1)) e9) (un (S 6 201 1)) (un (pk_dst (cl_anL (pk_begin S 200 (nI (un (S 6 201 1))) (nI (un (S 6 201 0))) 33685504) (un (S 6 201 1)) e9) 201 e9))) h24.1 ?_
            refine hr_st (S1 := (cl_anL (pk_begin S 200 (nI (un (S 6 201 1))) (nI (un (S 6 201 0))) 33685504) (un (S 6 201 1)) e9)) h24.2 ?_
            refine hr_cVv C (ct_X1_addEntry l E (cl_anL (pk_begin S 200 (nI (un (S 6 201 1))) (nI (un (S 6 201 0))) 33685504) (un (S 6 201 1)) e9) o 200 (by omega) (((CI_anL (r := un (S 6 201 1)) (CI_begin hI (nb_nI hr5 (by decide)) (nb_nI hx5 (by decide))) e9).2.2.2.1 200 (by decide)).2.2) (len_anL (by rw [len_begin]; omega) _ e9) 2 (nI (un (pk_dst (cl_anL (pk_begin S 200 (nI (un (S 6 201 1))) (nI (un (S 6 201 0))) 33685504) (un (S 6 201 1)) e9) 201 e9))) (cl_mans (cl_anL (pk_begin S 200 (nI (un (S 6 201 1))) (nI (un (S 6 201 0))) 33685504) (un (S 6 201 1)) e9) (un (S 6 201 1)) (un (pk_dst (cl_anL (pk_begin S 200 (nI (un (S 6 201 1))) (nI (un (S 6 201 0))) 33685504) (un (S 6 201 1)) e9) 201 e9)))) (cwV 3 C.1.2.2.2.2 (hr_gV kM_X3_72 kI_X1_addEntry kS_X1_addEntry kN_X1 kC_X1_addEntry) rfl rfl rfl (by decide +kernel) ⟨Nat.le_of_ble_eq_true rfl, Nat.le_of_ble_eq_true rfl⟩) (by decide) rfl rfl rfl (Nat.le_of_ble_eq_true rfl) dX3_answerRequest_99 ⟨Nat.le_of_ble_eq_true rfl, Nat.le_of_ble_eq_true rfl⟩ (fun S26 h27 => ?_) rfl
            refine hr_st (S1 := (pk_addE (cl_anL (pk_begin S 200 (nI (un (S 6 201 1))) (nI (un (S 6 201 0))) 33685504) (un (S 6 201 1)) e9) 200 2 (nI (un (pk_dst (cl_anL (pk_begin S 200 (nI (un (S 6 201 1))) (nI (un (S 6 201 0))) 33685504) (un (S 6 201 1)) e9) 201 e9))) (cl_mans (cl_anL (pk_begin S 200 (nI (un (S 6 201 1))) (nI (un (S 6 201 0))) 33685504) (un (S 6 201 1)) e9) (un (S 6 201 1)) (un (pk_dst (cl_anL (pk_begin S 200 (nI (un (S 6 201 1))) (nI (un (S 6 201 0))) 33685504) (un (S 6 201 1)) e9) 201 e9))))) h27 ?_
            refine hr_iinc (v := nI (e9 + 1)) C [(3, .int (nI (e9 + 1))), (4, .int (nI (un (pk_dst (cl_anL (pk_begin S 200 (nI (un (S 6 201 1))) (nI (un (S 6 201 0))) 33685504) (un (S 6 201 1)) e9) 201 e9)))), (0, .ref (hr_ad E 0 0)), (1, .int (nI (un (S 6 201 1)))), (2, .int (nI ((un (S 6 201 2) - 4) / 20)))] dX3_answerRequest_102 4 rfl (nI_add e9 1) (by decide) rfl ?_
            refine hr_goto C 59 dX3_answerRequest_105 (by decide) ?_
            refine hr_sub [2, 3, 4, 0] rfl ?_
            refine hr_st (S1 := cl_anL (pk_begin S 200 (nI (un (S 6 201 1))) (nI (un (S 6 201 0))) 33685504) (un (S 6 201 1)) (e9 + 1)) (by rw [cl_anL, if_pos c72]) ?_
            exact ih (e9 + 1)  (by omega) (by omega)
    refine hr_sub [3, 2, 1, 0] rfl ?_
    refine hr_st (S1 := cl_anL (pk_begin S 200 (nI (un (S 6 201 1))) (nI (un (S 6 201 0))) 33685504) (un (S 6 201 1)) 0) rfl ?_
    exact LP59 (((un (S 6 201 2) - 4) / 20) + 1) 0  (by omega) (by omega)
  · skip
    have c15 := hr_bn.mp c15
    have c15 : pk_all S 201 := c15
    refine hr_aload_n C dX3_answerRequest_18 rfl 1 rfl ?_
    refine hr_iload_n C dX3_answerRequest_19 rfl 0 rfl ?_
    refine hr_aload_n C dX3_answerRequest_20 rfl 1 rfl ?_
    refine hr_get (k := 0) (i := 0) (fld := 4) C (by decide) rfl rfl (by decide) kU_X3 kF_X3_33 rfl rfl dX3_answerRequest_21 ?_
    refine hr_get (k := 6) (i := 201) (fld := 0) C (by decide) rfl rfl (by decide) kU_X1 kF_X3_125 rfl rfl dX3_answerRequest_24 ?_
    refine hr_tp (y := nI (un (S 6 201 0))) (hI.2.2.2.1 201 (by decide)).1.1 ?_
    refine hr_iconst (v := 1) C dX3_answerRequest_27 (by decide) ?_
    refine hr_cVv C (ct_X3_tell l E S o (un (S 6 201 1)) (un (S 6 201 0)) hr5 hx5 1 hI) (cwV 3 C.1.2.2.2.2 (hr_gV kM_X3_177 kI_X3_tell kS_X3_tell kN_X3 kC_X3_tell) rfl rfl rfl (by decide +kernel) ⟨Nat.le_of_ble_eq_true rfl, Nat.le_of_ble_eq_true rfl⟩) (by decide) rfl rfl rfl (Nat.le_of_ble_eq_true rfl) dX3_answerRequest_28 ⟨Nat.le_of_ble_eq_true rfl, Nat.le_of_ble_eq_true rfl⟩ (fun S29 h30 => ?_) rfl
    refine hr_st (S1 := (cl_tell S (un (S 6 201 1)) (un (S 6 201 0)) 1)) h30 ?_
    exact hr_vret C hr dX3_answerRequest_31 (by unfold cl_ans; rw [if_pos c15])
set_option maxHeartbeats 4000000 in
set_option maxRecDepth 100000 in
theorem ct_X3_bring (l : Launch) (E : hr_E) (S : hr_S) (o : Int64) (k : Nat) (hk : k < ai_n S) (hI : hr_CI S) : hr_Mi l E yX3_bring (Cond.code yX3_bring cX3_bring 2 (some .boolean) :: hr_W) ({ frames := 5, cells := 0, slots := 0, locals := 131 } : Room) [.ref (hr_ad E 0 0), .int (nI k)] S o (fun r u => r = (if ¬ (cl_take S k) 1 0 (un ((cl_take S k) 6 201 0) * 8 + un ((cl_take S k) 6 201 1)) = 0 then 1 else 0) ∧ u = cl_bring S k) := by
  refine hr_of (by decide) (Nat.le_of_ble_eq_true rfl) (fun p e s m below meth c C hr => ?_)
  have hn2 : ai_n S < 201 := hI.1.2
  have hj2 := (hI.2.1 k (by omega)).2
  refine hr_aload_n C dX3_bring_0 rfl 0 rfl ?_
  refine hr_get (k := 0) (i := 0) (fld := 4) C (by decide) rfl rfl (by decide) kU_X3 kF_X3_33 rfl rfl dX3_bring_1 ?_
  refine hr_aload_n C dX3_bring_4 rfl 0 rfl ?_
  refine hr_get (k := 0) (i := 0) (fld := 2) C (by decide) rfl rfl (by decide) kU_X3 kF_X3_22 rfl rfl dX3_bring_5 ?_
  refine hr_iload_n C dX3_bring_8 rfl 1 rfl ?_
  refine hr_cVr C (ct_X0_at l E S o k (by omega) (hI.2.1 k (by omega))) (cwV 1 C.1.2.2.2.2 (hr_gV kM_X3_104 kI_X0_at kS_X0_at kN_X0 kC_X0_at) rfl rfl rfl (by decide +kernel) ⟨Nat.le_of_ble_eq_true rfl, Nat.le_of_ble_eq_true rfl⟩) (by decide) rfl rfl rfl (Nat.le_of_ble_eq_true rfl) dX3_bring_9 ⟨Nat.le_of_ble_eq_true rfl, Nat.le_of_ble_eq_true rfl⟩ (fun S2 h3 => ?_) rfl
  refine hr_st (S1 := S) h3 ?_
  refine hr_cVv C (ct_X1_become l E S o 201 (by omega) (un (S 5 0 k)) (by omega) (by omega)) (cwV 1 C.1.2.2.2.2 (hr_gV kM_X3_194 kI_X1_become kS_X1_become kN_X1 kC_X1_become) rfl rfl rfl (by decide +kernel) ⟨Nat.le_of_ble_eq_true rfl, Nat.le_of_ble_eq_true rfl⟩) (by decide) rfl rfl rfl (Nat.le_of_ble_eq_true rfl) dX3_bring_12 ⟨Nat.le_of_ble_eq_true rfl, Nat.le_of_ble_eq_true rfl⟩ (fun S5 h6 => ?_) rfl
  refine hr_st (S1 := (pk_become S 201 (un (S 5 0 k)))) h6 ?_
  refine hr_aload_n C dX3_bring_15 rfl 0 rfl ?_
  refine hr_get (k := 0) (i := 0) (fld := 2) C (by decide) rfl rfl (by decide) kU_X3 kF_X3_22 rfl rfl dX3_bring_16 ?_
  refine hr_iload_n C dX3_bring_19 rfl 1 rfl ?_
  refine hr_cVv C (ct_X0_remove l E (pk_become S 201 (un (S 5 0 k))) o k hk (CI_become hI (by omega))) (cwV 1 C.1.2.2.2.2 (hr_gV kM_X3_101 kI_X0_remove kS_X0_remove kN_X0 kC_X0_remove) rfl rfl rfl (by decide +kernel) ⟨Nat.le_of_ble_eq_true rfl, Nat.le_of_ble_eq_true rfl⟩) (by decide) rfl rfl rfl (Nat.le_of_ble_eq_true rfl) dX3_bring_20 ⟨Nat.le_of_ble_eq_true rfl, Nat.le_of_ble_eq_true rfl⟩ (fun S8 h9 => ?_) rfl
  refine hr_st (S1 := (ai_remove (pk_become S 201 (un (S 5 0 k))) k)) h9 ?_
  refine hr_st (S1 := cl_take S k) rfl ?_
  have hT := CI_take hI hk
  have hA := (hT.2.2.2.1 201 (by decide)).1.2
  have hB := (hT.2.2.2.1 201 (by decide)).2.1.2
  have hL9 := (hT.2.2.2.1 201 (by decide)).2.2.2
  refine hr_aload_n C dX3_bring_23 rfl 0 rfl ?_
  refine hr_aload_n C dX3_bring_24 rfl 0 rfl ?_
  refine hr_get (k := 0) (i := 0) (fld := 4) C (by decide) rfl rfl (by decide) kU_X3 kF_X3_33 rfl rfl dX3_bring_25 ?_
  refine hr_get (k := 6) (i := 201) (fld := 0) C (by decide) rfl rfl (by decide) kU_X1 kF_X3_125 rfl rfl dX3_bring_28 ?_
  refine hr_tp (y := nI (un ((cl_take S k) 6 201 0))) (hT.2.2.2.1 201 (by decide)).1.1 ?_
  refine hr_aload_n C dX3_bring_31 rfl 0 rfl ?_
  refine hr_get (k := 0) (i := 0) (fld := 4) C (by decide) rfl rfl (by decide) kU_X3 kF_X3_33 rfl rfl dX3_bring_32 ?_
  refine hr_get (k := 6) (i := 201) (fld := 1) C (by decide) rfl rfl (by decide) kU_X1 kF_X3_128 rfl rfl dX3_bring_35 ?_
  refine hr_tp (y := nI (un ((cl_take S k) 6 201 1))) (hT.2.2.2.1 201 (by decide)).2.1.1 ?_
  refine hr_cVi C (ct_X3_isUp l E (cl_take S k) o (un ((cl_take S k) 6 201 0)) (un ((cl_take S k) 6 201 1)) (by omega) (by omega) (hT.2.2.2.2.2 _ (by omega))) (cwV 2 C.1.2.2.2.2 (hr_gV kM_X3_41 kI_X3_isUp kS_X3_isUp kN_X3 kC_X3_isUp) rfl rfl rfl (by decide +kernel) ⟨Nat.le_of_ble_eq_true rfl, Nat.le_of_ble_eq_true rfl⟩) (by decide) rfl rfl rfl (Nat.le_of_ble_eq_true rfl) dX3_bring_38 ⟨Nat.le_of_ble_eq_true rfl, Nat.le_of_ble_eq_true rfl⟩ (fun r10 S11 h12 => ?_) rfl
  refine hr_tp h12.1 ?_
  refine hr_st (S1 := (cl_take S k)) h12.2 ?_
  refine hr_if_ne C 59 dX3_bring_41 (by decide) (fun c41 => ?_) (fun c41 => ?_)
  · skip
    have c41 := hr_bn.mp c41
    have c41 : ¬ (cl_take S k) 1 0 ((un ((cl_take S k) 6 201 0)) * 8 + (un ((cl_take S k) 6 201 1))) = 0 := c41
    refine hr_aload_n C dX3_bring_59 rfl 0 rfl ?_
    refine hr_get (k := 0) (i := 0) (fld := 4) C (by decide) rfl rfl (by decide) kU_X3 kF_X3_33 rfl rfl dX3_bring_60 ?_
    refine hr_cVi C (ct_X1_isSound l E (cl_take S k) o 201 (by omega) (un ((cl_take S k) 6 201 2)) ((hT.2.2.2.1 201 (by decide)).2.2.1) (by omega)) (cwV 0 C.1.2.2.2.2 (hr_gV kM_X3_197 kI_X1_isSound kS_X1_isSound kN_X1 kC_X1_isSound) rfl rfl rfl (by decide +kernel) ⟨Nat.le_of_ble_eq_true rfl, Nat.le_of_ble_eq_true rfl⟩) (by decide) rfl rfl rfl (Nat.le_of_ble_eq_true rfl) dX3_bring_63 ⟨Nat.le_of_ble_eq_true rfl, Nat.le_of_ble_eq_true rfl⟩ (fun r13 S14 h15 => ?_) rfl
    refine hr_tp h15.1 ?_
    refine hr_st (S1 := (cl_take S k)) h15.2 ?_
    refine hr_if_ne C 82 dX3_bring_66 (by decide) (fun c66 => ?_) (fun c66 => ?_)
    · skip
      have c66 := hr_bn.mp c66
      have c66 : pk_snd (cl_take S k) 201 := c66
      refine hr_aload_n C dX3_bring_82 rfl 0 rfl ?_
      refine hr_get (k := 0) (i := 0) (fld := 4) C (by decide) rfl rfl (by decide) kU_X3 kF_X3_33 rfl rfl dX3_bring_83 ?_
      refine hr_cVi C (ct_X1_isRequest l E (cl_take S k) o 201 (by omega)) (cwV 0 C.1.2.2.2.2 (hr_gV kM_X3_200 kI_X1_isRequest kS_X1_isRequest kN_X1 kC_X1_isRequest) rfl rfl rfl (by decide +kernel) ⟨Nat.le_of_ble_eq_true rfl, Nat.le_of_ble_eq_true rfl⟩) (by decide) rfl rfl rfl (Nat.le_of_ble_eq_true rfl) dX3_bring_86 ⟨Nat.le_of_ble_eq_true rfl, Nat.le_of_ble_eq_true rfl⟩ (fun r16 S17 h18 => ?_) rfl
      refine hr_tp h18.1 ?_
      refine hr_st (S1 := (cl_take S k)) h18.2 ?_
      refine hr_if_eq C 99 dX3_bring_89 (by decide) (fun c89 => ?_) (fun c89 => ?_)
      · skip
        have c89 := hr_bz.mp c89
        have c89 : ¬ ((cl_take S k) 7 201 0 = 16908288) := c89
        refine hr_aload_n C dX3_bring_99 rfl 0 rfl ?_
        refine hr_cVv C (ct_X3_hearResponse l E (cl_take S k) o hT c66.1) (cwV 0 C.1.2.2.2.2 (hr_gV kM_X3_206 kI_X3_hearResponse kS_X3_hearResponse kN_X3 kC_X3_hearResponse) rfl rfl rfl (by decide +kernel) ⟨Nat.le_of_ble_eq_true rfl, Nat.le_of_ble_eq_true rfl⟩) (by decide) rfl rfl rfl (Nat.le_of_ble_eq_true rfl) dX3_bring_100 ⟨Nat.le_of_ble_eq_true rfl, Nat.le_of_ble_eq_true rfl⟩ (fun S20 h21 => ?_) rfl
        refine hr_st (S1 := (cl_hr (cl_take S k))) h21 ?_
        refine hr_iconst (v := 1) C dX3_bring_103 (by decide) ?_
        exact hr_zret C hr rfl dX3_bring_104 ⟨by rw [if_pos c41], by unfold cl_bring cl_in; rw [if_pos (show cl_up (cl_take S k) from c41), if_pos c66, if_neg c89]⟩
      · skip
        have c89 := hr_bn.mp c89
        have c89 : (cl_take S k) 7 201 0 = 16908288 := c89
        refine hr_aload_n C dX3_bring_92 rfl 0 rfl ?_
        refine hr_cVv C (ct_X3_answerRequest l E (cl_take S k) o hT c66.1) (cwV 0 C.1.2.2.2.2 (hr_gV kM_X3_203 kI_X3_answerRequest kS_X3_answerRequest kN_X3 kC_X3_answerRequest) rfl rfl rfl (by decide +kernel) ⟨Nat.le_of_ble_eq_true rfl, Nat.le_of_ble_eq_true rfl⟩) (by decide) rfl rfl rfl (Nat.le_of_ble_eq_true rfl) dX3_bring_93 ⟨Nat.le_of_ble_eq_true rfl, Nat.le_of_ble_eq_true rfl⟩ (fun S23 h24 => ?_) rfl
        refine hr_st (S1 := (cl_ans (cl_take S k))) h24 ?_
        refine hr_goto C 103 dX3_bring_96 (by decide) ?_
        refine hr_iconst (v := 1) C dX3_bring_103 (by decide) ?_
        exact hr_zret C hr rfl dX3_bring_104 ⟨by rw [if_pos c41], by unfold cl_bring cl_in; rw [if_pos (show cl_up (cl_take S k) from c41), if_pos c66, if_pos c89]⟩
    · skip
      have c66 := hr_bz.mp c66
      have c66 : ¬ (pk_snd (cl_take S k) 201) := c66
      refine hr_aload_n C dX3_bring_69 rfl 0 rfl ?_
      refine hr_dup C dX3_bring_70 rfl ?_
      refine hr_get (k := 0) (i := 0) (fld := 7) C (by decide) rfl rfl (by decide) kU_X3 kF_X3_156 rfl rfl dX3_bring_71 ?_
      refine hr_iconst (v := 1) C dX3_bring_74 (by decide) ?_
      refine hr_iadd C dX3_bring_75 rfl ?_
      refine hr_put (k := 0) (i := 0) (fld := 7) C (by decide) rfl rfl (by decide) kU_X3 kF_X3_156 rfl tyX3 tyX3_ok nmX3 rfl (by decide +kernel) (Nat.le_of_ble_eq_true rfl) (by simp [hr_cell, hr_w, hr_wA, upd]) rfl dX3_bring_76 ?_
      refine hr_goto C 103 dX3_bring_79 (by decide) ?_
      refine hr_iconst (v := 1) C dX3_bring_103 (by decide) ?_
      exact hr_zret C hr rfl dX3_bring_104 ⟨by rw [if_pos c41], by unfold cl_bring cl_in; rw [if_pos (show cl_up (cl_take S k) from c41), if_neg c66]; try rfl⟩
  · skip
    have c41 := hr_bz.mp c41
    have c41 : ¬ (¬ (cl_take S k) 1 0 ((un ((cl_take S k) 6 201 0)) * 8 + (un ((cl_take S k) 6 201 1))) = 0) := c41
    refine hr_aload_n C dX3_bring_44 rfl 0 rfl ?_
    refine hr_get (k := 0) (i := 0) (fld := 2) C (by decide) rfl rfl (by decide) kU_X3 kF_X3_22 rfl rfl dX3_bring_45 ?_
    refine hr_dup C dX3_bring_48 rfl ?_
    refine hr_get (k := 3) (i := 0) (fld := 4) C (by decide) rfl rfl (by decide) kU_X0 kF_X3_147 rfl rfl dX3_bring_49 ?_
    refine hr_iconst (v := 1) C dX3_bring_52 (by decide) ?_
    refine hr_iadd C dX3_bring_53 rfl ?_
    refine hr_put (k := 3) (i := 0) (fld := 4) C (by decide) rfl rfl (by decide) kU_X0 kF_X3_147 rfl tyX0 tyX0_ok nmX0 rfl (by decide +kernel) (Nat.le_of_ble_eq_true rfl) (by simp [hr_cell, hr_w, hr_wA, upd]) rfl dX3_bring_54 ?_
    refine hr_iconst (v := 0) C dX3_bring_57 (by decide) ?_
    exact hr_zret C hr rfl dX3_bring_58 ⟨by rw [if_neg c41], by unfold cl_bring cl_in; rw [if_neg (show ¬ cl_up (cl_take S k) from c41)]; try rfl⟩
end
section
/-! the public methods -/
theorem nb_le {x y : Int32} {N : Nat} (h0 : ¬ x < 0) (h : x ≤ y) (hy : y = nI N) (hN : N + 1 < 2 ^ 31) : nb x (N + 1) := by
  obtain ⟨j, hj, rfl⟩ := nI_of h0
  subst hy
  have : j ≤ N := (nI_leI hj (by omega)).mp h
  exact nb_nI (by omega) (by omega)
theorem nb_nle {x y : Int32} {N : Nat} (h : ¬ x ≤ y) (hy : y = nI N) (hN : N + 1 < 2 ^ 31) : ¬ nb x (N + 1) := fun z => by
  rw [z.1, hy] at h
  exact h (nI_le (by have := z.2; omega) (by omega))
theorem nb_out {x : Int32} {N : Nat} (h : ¬ nb x N) (hN : N < 2 ^ 31) : x.toInt < 0 ∨ (N : Int) - 1 < x.toInt := by
  rcases pk_ix x hN with h1 | h1 | ⟨j, hj, rfl⟩
  · left; simpa using Int32.lt_iff_toInt_lt.mp h1
  · right
    have h2 := Int32.le_iff_toInt_le.mp h1
    rw [nI_toInt hN] at h2
    omega
  · exact absurd (nb_nI hj (by omega)) h
theorem nb_eq {x : Int32} {N n : Nat} (h : nb x N) (hn : un x = n) : x = nI n := by rw [← hn]; exact h.1
theorem un_inj {x y : Int32} {M N : Nat} (hx : nb x M) (hy : nb y N) (h : un x = un y) : x = y := by rw [hx.1, hy.1, h]
noncomputable section
def cl_lv (S : hr_S) (a b : Nat) : Int32 := if ¬ S 1 0 (a * 8 + b) = 0 then 1 else 0
def cl_lk0 (S : hr_S) (a b : Nat) (up : Int32) : hr_S := hr_w (hr_w S 1 0 (a * 8 + b) (vp_nar .boolean up)) 1 0 (b * 8 + a) (vp_nar .boolean up)
def cl_link (S : hr_S) (a b : Nat) (up : Int32) : hr_S := hr_w (cl_lk0 S a b up) 0 0 6 (S 0 0 6 + (if up = 0 then -1 else 1))
def cl_rs1 (S : hr_S) (r x : Nat) : hr_S := ai_launch (pk_addE (pk_begin S 200 (nI r) (nI x) 16908288) 200 0 0 16) 200
def cl_rsL (S : hr_S) (r : Nat) : Nat → hr_S
  | 0 => S
  | x + 1 => if ¬ cl_rsL S r x 1 0 (r * 8 + x) = 0 then cl_rs1 (cl_rsL S r x) r x else cl_rsL S r x
def cl_askL (S : hr_S) (r x : Nat) (ds : Int32) : Nat → hr_S
  | 0 => pk_begin S 200 (nI r) (nI x) 16908288
  | d + 1 => if ((ds >>> (nI d &&& 31)) &&& 1) = 1 then pk_addE (cl_askL S r x ds d) 200 2 (nI d) 16 else cl_askL S r x ds d
def cl_dr : Nat → hr_S → hr_S
  | 0, S => S
  | c + 1, S => if 0 < ai_n S then cl_dr c (cl_bring S 0) else S
def cl_tk1 (S : hr_S) (al : Int32) : hr_S := if al = 0 then cl_pass S else cl_dr 1000 (cl_pass S)
def cl_tick (S : hr_S) (al : Int32) : Nat → hr_S
  | 0 => S
  | i + 1 => cl_tk1 (cl_tick S al i) al
def cl_sd (S : hr_S) (d : Nat) : Nat → Nat → Int32
  | 0, at9 => if at9 = d then 16 else -3
  | f + 1, at9 => if at9 = d then nI (16 - (f + 1)) else if (¬ S 9 at9 d = -1) ∧ S 9 at9 d < 16 then (if ¬ S 1 0 (at9 * 8 + un (S 10 at9 d)) = 0 then cl_sd S d f (un (S 10 at9 d)) else -2) else -1
end
theorem CI_rs1 {S : hr_S} (h : hr_CI S) {r x : Nat} (hr : r < 8) (hx : x < 8) : hr_CI (cl_rs1 S r x) := CI_launch (CI_addE (CI_begin h (nb_nI hr (by decide)) (nb_nI hx (by decide)))) (by decide)
theorem CI_rsL {S : hr_S} (h : hr_CI S) {r : Nat} (hr : r < 8) : ∀ x, x ≤ 8 → hr_CI (cl_rsL S r x)
  | 0, _ => h
  | x + 1, hx => by
    unfold cl_rsL
    split
    · exact CI_rs1 (CI_rsL h hr x (by omega)) hr (by omega)
    · exact CI_rsL h hr x (by omega)
theorem CI_askL {S : hr_S} (h : hr_CI S) {r x : Nat} {ds : Int32} (hr : r < 8) (hx : x < 8) : ∀ d, hr_CI (cl_askL S r x ds d)
  | 0 => CI_begin h (nb_nI hr (by decide)) (nb_nI hx (by decide))
  | d + 1 => by
    unfold cl_askL
    split
    · exact CI_addE (CI_askL h hr hx d)
    · exact CI_askL h hr hx d
theorem len_askL (S : hr_S) (r x : Nat) (ds : Int32) : ∀ d, 4 ≤ un (cl_askL S r x ds d 6 200 2)
  | 0 => by unfold cl_askL; rw [len_begin]; omega
  | d + 1 => by
    unfold cl_askL
    split
    · exact len_addE (len_askL S r x ds d)
    · exact len_askL S r x ds d
theorem CI_dr : ∀ (c : Nat) {S : hr_S}, hr_CI S → hr_CI (cl_dr c S)
  | 0, _, h => h
  | c + 1, S, h => by
    unfold cl_dr
    split
    · next hn => exact CI_dr c (CI_bring h hn)
    · exact h
theorem CI_tick {S : hr_S} (h : hr_CI S) {al : Int32} : ∀ i, hr_CI (cl_tick S al i)
  | 0 => h
  | i + 1 => by
    have h1 := CI_pass (CI_tick h (al := al) i)
    unfold cl_tick cl_tk1
    split
    · exact h1
    · exact CI_dr 1000 h1
theorem vp_nar01 {x : Int32} (h : x = 0 ∨ x = 1) : vp_nar .boolean x = x := by rcases h with rfl | rfl <;> rfl
theorem CI_link {S : hr_S} (h : hr_CI S) {a b : Nat} {up : Int32} (hu : up = 0 ∨ up = 1) : hr_CI (cl_link S a b up) := by
  unfold cl_link cl_lk0
  rw [vp_nar01 hu]
  exact CI_tm (CI_l (CI_l h hu) hu)
theorem ai_twne {S : hr_S} (h : hr_CI S) {k : Nat} (hk : k < ai_n S) : ai_n S < 200 → ¬ ai_o S (ai_n S) = ai_o S k := fun hn z => by
  have := h.2.2.1 (ai_n S) k hn (by omega) z
  omega
end
section
set_option maxHeartbeats 4000000 in
set_option maxRecDepth 100000 in
theorem ct_X3_link (l : Launch) (htr : l.stackTraces = false) (E : hr_E) (S : hr_S) (o : Int64) (a b up : Int32) (hI : hr_CI S) : hr_Xi l E yX3_link (Cond.code yX3_link cX3_link 4 (some .boolean) :: hr_W) ({ frames := 8, cells := 3, slots := 18, locals := 131 } : Room) [.ref (hr_ad E 0 0), .int a, .int b, .int up] S o (fun r u => (r = (if cl_lv S (un a) (un b) = up then 0 else 1) ∧ u = (if cl_lv S (un a) (un b) = up then S else cl_link S (un a) (un b) up)) ∧ nb a 8 ∧ nb b 8 ∧ ¬ a = b) (fun X => (X = "java/lang/IndexOutOfBoundsException" ∧ ¬ (nb a 8 ∧ nb b 8)) ∨ (X = "java/lang/IllegalArgumentException" ∧ (nb a 8 ∧ nb b 8) ∧ a = b)) 3 18 := by
  refine hr_ofX (by decide) (Nat.le_of_ble_eq_true rfl) (fun p e s m below meth c C hr htab => ?_)
  refine hr_iload_n C dX3_link_0 rfl 1 rfl ?_
  refine hr_iload_n C dX3_link_1 rfl 2 rfl ?_
  refine hr_xSv C htab (ct_X3_checkPair l htr E S o a b) (cwS 2 C.1.2.2.2.2 (hr_gS kM_X3_37 kT_X3_checkPair kN_X3 kC_X3_checkPair) rfl rfl rfl (by decide +kernel) ⟨Nat.le_of_ble_eq_true rfl, Nat.le_of_ble_eq_true rfl⟩) rfl (Nat.le_of_ble_eq_true rfl) dX3_link_2 ⟨Nat.le_of_ble_eq_true rfl, Nat.le_of_ble_eq_true rfl⟩ ⟨Nat.le_of_ble_eq_true rfl, Nat.le_of_ble_eq_true rfl⟩ (fun _ h => h) (fun S2 h3 => ?_) rfl
  obtain ⟨h3, ⟨fA, fB, fN⟩⟩ := h3
  refine hr_st (S1 := S) h3 ?_
  have hA := fA.2
  have hB := fB.2
  refine hr_aload_n C dX3_link_5 rfl 0 rfl ?_
  refine hr_iload_n C dX3_link_6 rfl 1 rfl ?_
  refine hr_tp (y := nI (un a)) fA.1 ?_
  refine hr_iload_n C dX3_link_7 rfl 2 rfl ?_
  refine hr_tp (y := nI (un b)) fB.1 ?_
  refine hr_cVi C (ct_X3_isUp l E S o (un a) (un b) (by omega) (by omega) (hI.2.2.2.2.2 _ (by omega))) (cwV 2 C.1.2.2.2.2 (hr_gV kM_X3_41 kI_X3_isUp kS_X3_isUp kN_X3 kC_X3_isUp) rfl rfl rfl (by decide +kernel) ⟨Nat.le_of_ble_eq_true rfl, Nat.le_of_ble_eq_true rfl⟩) (by decide) rfl rfl rfl (Nat.le_of_ble_eq_true rfl) dX3_link_8 ⟨Nat.le_of_ble_eq_true rfl, Nat.le_of_ble_eq_true rfl⟩ (fun r4 S5 h6 => ?_) rfl
  refine hr_tp h6.1 ?_
  refine hr_st (S1 := S) h6.2 ?_
  refine hr_iload_n C dX3_link_11 rfl 3 rfl ?_
  refine hr_icmp_ne C 17 dX3_link_12 (by decide) (fun c12 => ?_) (fun c12 => ?_)
  · skip
    refine hr_aload_n C dX3_link_17 rfl 0 rfl ?_
    refine hr_get (k := 0) (i := 0) (fld := 0) C (by decide) rfl rfl (by decide) kU_X3 kF_X3_9 rfl rfl dX3_link_18 ?_
    refine hr_iload_n C dX3_link_21 rfl 1 rfl ?_
    refine hr_tp (y := nI (un a)) fA.1 ?_
    refine hr_bipush (v := 8) C dX3_link_22 (by decide) ?_
    refine hr_imul (v := nI ((un a) * 8)) C dX3_link_24 (pk_mul (un a) 8) ?_
    refine hr_iload_n C dX3_link_25 rfl 2 rfl ?_
    refine hr_tp (y := nI (un b)) fB.1 ?_
    refine hr_iadd (v := nI (((un a) * 8) + (un b))) C dX3_link_26 (nI_add ((un a) * 8) (un b)) ?_
    refine hr_iload_n C dX3_link_27 rfl 3 rfl ?_
    refine hr_zast (k := 1) (i := 0) (((un a) * 8) + (un b)) C (by decide) rfl rfl (show ((un a) * 8) + (un b) < 64 by omega) (by decide) (by simp [hr_cell, hr_wA]) rfl dX3_link_28 ?_
    refine hr_aload_n C dX3_link_29 rfl 0 rfl ?_
    refine hr_get (k := 0) (i := 0) (fld := 0) C (by decide) rfl rfl (by decide) kU_X3 kF_X3_9 rfl rfl dX3_link_30 ?_
    refine hr_iload_n C dX3_link_33 rfl 2 rfl ?_
    refine hr_tp (y := nI (un b)) fB.1 ?_
    refine hr_bipush (v := 8) C dX3_link_34 (by decide) ?_
    refine hr_imul (v := nI ((un b) * 8)) C dX3_link_36 (pk_mul (un b) 8) ?_
    refine hr_iload_n C dX3_link_37 rfl 1 rfl ?_
    refine hr_tp (y := nI (un a)) fA.1 ?_
    refine hr_iadd (v := nI (((un b) * 8) + (un a))) C dX3_link_38 (nI_add ((un b) * 8) (un a)) ?_
    refine hr_iload_n C dX3_link_39 rfl 3 rfl ?_
    refine hr_zast (k := 1) (i := 0) (((un b) * 8) + (un a)) C (by decide) rfl rfl (show ((un b) * 8) + (un a) < 64 by omega) (by decide) (by simp [hr_cell, hr_wA]) rfl dX3_link_40 ?_
    refine hr_aload_n C dX3_link_41 rfl 0 rfl ?_
    refine hr_dup C dX3_link_42 rfl ?_
    refine hr_get (k := 0) (i := 0) (fld := 6) C (by decide) rfl rfl (by decide) kU_X3 kF_X3_45 rfl rfl dX3_link_43 ?_
    refine hr_tp (y := S 0 0 6) rfl ?_
    refine hr_iload_n C dX3_link_46 rfl 3 rfl ?_
    refine hr_if_eq C 54 dX3_link_47 (by decide) (fun c47 => ?_) (fun c47 => ?_)
    · skip
      refine hr_iconst (v := (-1)) C dX3_link_54 (by decide) ?_
      refine hr_iadd C dX3_link_55 rfl ?_
      refine hr_put (k := 0) (i := 0) (fld := 6) C (by decide) rfl rfl (by decide) kU_X3 kF_X3_45 rfl tyX3 tyX3_ok nmX3 rfl (by decide +kernel) (Nat.le_of_ble_eq_true rfl) (by simp [hr_cell, hr_w, hr_wA, upd]) rfl dX3_link_56 ?_
      refine hr_iconst (v := 1) C dX3_link_59 (by decide) ?_
      refine hr_xr ?_ (Nat.le_of_ble_eq_true rfl) (Nat.le_of_ble_eq_true rfl)
      exact hr_zret C hr rfl dX3_link_60 ⟨⟨by rw [if_neg (show ¬ cl_lv S (un a) (un b) = up from c12)], by rw [if_neg (show ¬ cl_lv S (un a) (un b) = up from c12)]; unfold cl_link cl_lk0; rw [if_pos c47]; rfl⟩, fA, fB, fN⟩
    · skip
      refine hr_iconst (v := 1) C dX3_link_50 (by decide) ?_
      refine hr_goto C 55 dX3_link_51 (by decide) ?_
      refine hr_iadd C dX3_link_55 rfl ?_
      refine hr_put (k := 0) (i := 0) (fld := 6) C (by decide) rfl rfl (by decide) kU_X3 kF_X3_45 rfl tyX3 tyX3_ok nmX3 rfl (by decide +kernel) (Nat.le_of_ble_eq_true rfl) (by simp [hr_cell, hr_w, hr_wA, upd]) rfl dX3_link_56 ?_
      refine hr_iconst (v := 1) C dX3_link_59 (by decide) ?_
      refine hr_xr ?_ (Nat.le_of_ble_eq_true rfl) (Nat.le_of_ble_eq_true rfl)
      exact hr_zret C hr rfl dX3_link_60 ⟨⟨by rw [if_neg (show ¬ cl_lv S (un a) (un b) = up from c12)], by rw [if_neg (show ¬ cl_lv S (un a) (un b) = up from c12)]; unfold cl_link cl_lk0; rw [if_neg c47]; rfl⟩, fA, fB, fN⟩
  · skip
    refine hr_iconst (v := 0) C dX3_link_15 (by decide) ?_
    refine hr_xr ?_ (Nat.le_of_ble_eq_true rfl) (Nat.le_of_ble_eq_true rfl)
    exact hr_zret C hr rfl dX3_link_16 ⟨⟨by rw [if_pos (show cl_lv S (un a) (un b) = up from c12)], by rw [if_pos (show cl_lv S (un a) (un b) = up from c12)]⟩, fA, fB, fN⟩
set_option maxHeartbeats 4000000 in
set_option maxRecDepth 100000 in
theorem ct_X3_sees (l : Launch) (htr : l.stackTraces = false) (E : hr_E) (S : hr_S) (o : Int64) (a b : Int32) (hI : hr_CI S) : hr_Xi l E yX3_sees (Cond.code yX3_sees cX3_sees 3 (some .int) :: hr_W) ({ frames := 8, cells := 4, slots := 24, locals := 131 } : Room) [.ref (hr_ad E 0 0), .int a, .int b] S o (fun r u => (r = nI (tb_lose S (un a) (nI (un b)) 8).2 ∧ u = (tb_lose S (un a) (nI (un b)) 8).1) ∧ (nb a 8 ∧ nb b 8 ∧ ¬ a = b) ∧ S 1 0 (un a * 8 + un b) = 0) (fun X => ((X = "java/lang/IndexOutOfBoundsException" ∧ ¬ (nb a 8 ∧ nb b 8)) ∨ (X = "java/lang/IllegalArgumentException" ∧ (nb a 8 ∧ nb b 8) ∧ a = b)) ∨ (X = "java/lang/IllegalStateException" ∧ (nb a 8 ∧ nb b 8 ∧ ¬ a = b) ∧ ¬ S 1 0 (un a * 8 + un b) = 0)) 4 24 := by
  refine hr_ofX (by decide) (Nat.le_of_ble_eq_true rfl) (fun p e s m below meth c C hr htab => ?_)
  refine hr_iload_n C dX3_sees_0 rfl 1 rfl ?_
  refine hr_iload_n C dX3_sees_1 rfl 2 rfl ?_
  refine hr_xSv C htab (ct_X3_checkPair l htr E S o a b) (cwS 2 C.1.2.2.2.2 (hr_gS kM_X3_37 kT_X3_checkPair kN_X3 kC_X3_checkPair) rfl rfl rfl (by decide +kernel) ⟨Nat.le_of_ble_eq_true rfl, Nat.le_of_ble_eq_true rfl⟩) rfl (Nat.le_of_ble_eq_true rfl) dX3_sees_2 ⟨Nat.le_of_ble_eq_true rfl, Nat.le_of_ble_eq_true rfl⟩ ⟨Nat.le_of_ble_eq_true rfl, Nat.le_of_ble_eq_true rfl⟩ (fun X h => Or.inl h) (fun S2 h3 => ?_) rfl
  obtain ⟨h3, ⟨fA, fB, fN⟩⟩ := h3
  refine hr_st (S1 := S) h3 ?_
  have hA := fA.2
  have hB := fB.2
  refine hr_aload_n C dX3_sees_5 rfl 0 rfl ?_
  refine hr_iload_n C dX3_sees_6 rfl 1 rfl ?_
  refine hr_tp (y := nI (un a)) fA.1 ?_
  refine hr_iload_n C dX3_sees_7 rfl 2 rfl ?_
  refine hr_tp (y := nI (un b)) fB.1 ?_
  refine hr_cVi C (ct_X3_isUp l E S o (un a) (un b) (by omega) (by omega) (hI.2.2.2.2.2 _ (by omega))) (cwV 2 C.1.2.2.2.2 (hr_gV kM_X3_41 kI_X3_isUp kS_X3_isUp kN_X3 kC_X3_isUp) rfl rfl rfl (by decide +kernel) ⟨Nat.le_of_ble_eq_true rfl, Nat.le_of_ble_eq_true rfl⟩) (by decide) rfl rfl rfl (Nat.le_of_ble_eq_true rfl) dX3_sees_8 ⟨Nat.le_of_ble_eq_true rfl, Nat.le_of_ble_eq_true rfl⟩ (fun r4 S5 h6 => ?_) rfl
  refine hr_tp h6.1 ?_
  refine hr_st (S1 := S) h6.2 ?_
  refine hr_if_eq C 24 dX3_sees_11 (by decide) (fun c11 => ?_) (fun c11 => ?_)
  · skip
    have c11 := hr_bz.mp c11
    have c11 : ¬ (¬ S 1 0 ((un a) * 8 + (un b)) = 0) := c11
    refine hr_aload_n C dX3_sees_24 rfl 0 rfl ?_
    refine hr_get (k := 0) (i := 0) (fld := 1) C (by decide) rfl rfl (by decide) kU_X3 kF_X3_15 rfl rfl dX3_sees_25 ?_
    refine hr_iload_n C dX3_sees_28 rfl 1 rfl ?_
    refine hr_tp (y := nI (un a)) fA.1 ?_
    refine hr_aald (k := 2) (i := 0) (t0 := 4) (k2 := 8) (un a) C (by decide) rfl rfl rfl (show un a < 8 by omega) (by decide) dX3_sees_29 ?_
    refine hr_iload_n C dX3_sees_30 rfl 2 rfl ?_
    refine hr_tp (y := nI (un b)) fB.1 ?_
    refine hr_cVi C (ct_X2_loseNext l E S o (un a) (by omega) (nI (un b))) (cwV 1 C.1.2.2.2.2 (hr_gV kM_X3_56 kI_X2_loseNext kS_X2_loseNext kN_X2 kC_X2_loseNext) rfl rfl rfl (by decide +kernel) ⟨Nat.le_of_ble_eq_true rfl, Nat.le_of_ble_eq_true rfl⟩) (show un a < 8 by omega) rfl rfl rfl (Nat.le_of_ble_eq_true rfl) dX3_sees_31 ⟨Nat.le_of_ble_eq_true rfl, Nat.le_of_ble_eq_true rfl⟩ (fun r7 S8 h9 => ?_) rfl
    refine hr_tp (y := nI (tb_lose S (un a) (nI (un b)) 8).2) h9.1 ?_
    refine hr_st (S1 := ((tb_lose S (un a) (nI (un b)) 8).1)) h9.2 ?_
    refine hr_xr ?_ (Nat.le_of_ble_eq_true rfl) (Nat.le_of_ble_eq_true rfl)
    exact hr_iret C hr dX3_sees_34 ⟨⟨rfl, rfl⟩, ⟨fA, fB, fN⟩, Decidable.not_not.mp c11⟩
  · skip
    have c11 := hr_bn.mp c11
    have c11 : ¬ S 1 0 ((un a) * 8 + (un b)) = 0 := c11
    exact hr_throw (text := "the link is up") C htr htab (by decide) (Or.inr ⟨rfl, ⟨fA, fB, fN⟩, c11⟩) kL_X3_49 kN_IllegalStateException (by decide) (hr_at_53 C) hr_good_53 dX3_sees_14 dX3_sees_17 dX3_sees_18 dX3_sees_20 dX3_sees_23 (Nat.le_of_ble_eq_true rfl) (Nat.le_of_ble_eq_true rfl) (Nat.le_of_ble_eq_true rfl) (Nat.le_of_ble_eq_true rfl) (Nat.le_of_ble_eq_true rfl) (Nat.le_of_ble_eq_true rfl) rfl
set_option maxHeartbeats 4000000 in
set_option maxRecDepth 100000 in
theorem ct_X3_restart (l : Launch) (htr : l.stackTraces = false) (E : hr_E) (S : hr_S) (o : Int64) (a : Int32) (hI : hr_CI S) : hr_Xi l E yX3_restart (Cond.code yX3_restart cX3_restart 3 (some .int) :: hr_W) ({ frames := 7, cells := 1, slots := 6, locals := 110 } : Room) [.ref (hr_ad E 0 0), .int a] S o (fun r u => (r = (cl_rsL (tb_fall S (un a) 8) (un a) 8) 3 0 2 ∧ u = (cl_rsL (tb_fall S (un a) 8) (un a) 8)) ∧ nb a 8) (fun X => X = "java/lang/IndexOutOfBoundsException" ∧ ¬ nb a 8) 1 6 := by
  refine hr_ofX (by decide) (Nat.le_of_ble_eq_true rfl) (fun p e s m below meth c C hr htab => ?_)
  refine hr_iload_n C dX3_restart_0 rfl 1 rfl ?_
  refine hr_xSv C htab (ct_X3_checkRouter l htr E S o a) (cwS 1 C.1.2.2.2.2 (hr_gS kM_X3_60 kT_X3_checkRouter kN_X3 kC_X3_checkRouter) rfl rfl rfl (by decide +kernel) ⟨Nat.le_of_ble_eq_true rfl, Nat.le_of_ble_eq_true rfl⟩) rfl (Nat.le_of_ble_eq_true rfl) dX3_restart_1 ⟨Nat.le_of_ble_eq_true rfl, Nat.le_of_ble_eq_true rfl⟩ ⟨Nat.le_of_ble_eq_true rfl, Nat.le_of_ble_eq_true rfl⟩ (fun _ h => h) (fun S2 h3 => ?_) rfl
  obtain ⟨h3, fA⟩ := h3
  refine hr_st (S1 := S) h3 ?_
  have hA := fA.2
  refine hr_aload_n C dX3_restart_4 rfl 0 rfl ?_
  refine hr_get (k := 0) (i := 0) (fld := 1) C (by decide) rfl rfl (by decide) kU_X3 kF_X3_15 rfl rfl dX3_restart_5 ?_
  refine hr_iload_n C dX3_restart_8 rfl 1 rfl ?_
  refine hr_tp (y := nI (un a)) fA.1 ?_
  refine hr_aald (k := 2) (i := 0) (t0 := 4) (k2 := 8) (un a) C (by decide) rfl rfl rfl (show un a < 8 by omega) (by decide) dX3_restart_9 ?_
  refine hr_cVv C (ct_X2_forgetAll l E S o (un a) (by omega)) (cwV 0 C.1.2.2.2.2 (hr_gV kM_X3_64 kI_X2_forgetAll kS_X2_forgetAll kN_X2 kC_X2_forgetAll) rfl rfl rfl (by decide +kernel) ⟨Nat.le_of_ble_eq_true rfl, Nat.le_of_ble_eq_true rfl⟩) (show un a < 8 by omega) rfl rfl rfl (Nat.le_of_ble_eq_true rfl) dX3_restart_10 ⟨Nat.le_of_ble_eq_true rfl, Nat.le_of_ble_eq_true rfl⟩ (fun S5 h6 => ?_) rfl
  refine hr_st (S1 := (tb_fall S (un a) 8)) h6 ?_
  refine hr_iconst (v := 0) C dX3_restart_13 (by decide) ?_
  refine hr_istore_n C [(2, .int 0), (0, .ref (hr_ad E 0 0)), (1, .int a)] dX3_restart_14 rfl (by decide) rfl ?_
  have LP15 : ∀ (n x9 : Nat) , x9 ≤ 8 → 8 + 1 ≤ x9 + n → hr_G p l e ({ frames := 7, cells := 1, slots := 6, locals := 110 } : Room) s m #[.ref (hr_ad E 0 0), .int a] below meth c (vx_MQ below (va_Qi (fun r u => (r = (cl_rsL (tb_fall S (un a) 8) (un a) 8) 3 0 2 ∧ u = (cl_rsL (tb_fall S (un a) 8) (un a) 8)) ∧ nb a 8) (fun u t => hr_P E u o t.heap) (hr_A E)) (vx_X (fun _ : Unit => True) (fun X _ t => (fun X => X = "java/lang/IndexOutOfBoundsException" ∧ ¬ nb a 8) X ∧ hr_P E S o t.heap) (hr_A E)) #[.ref (hr_ad E 0 0), .int a] s 1 6 (hr_A E)) E 3 1 6 (cl_rsL (tb_fall S (un a) 8) (un a) x9) o [(0, .ref (hr_ad E 0 0)), (1, .int a), (2, .int (nI x9))] 15 [] := by
    intro n
    induction n with
    | zero => intro x9  h1 h2; omega
    | succ n ih =>
      intro x9  hv1 hv2
      refine hr_iload_n C dX3_restart_15 rfl 2 rfl ?_
      refine hr_bipush (v := 8) C dX3_restart_16 (by decide) ?_
      refine hr_icmp_ge C 69 dX3_restart_18 (by decide) (fun c18 => ?_) (fun c18 => ?_)
      · skip
        have c18 : 8 ≤ x9 := (nI_leI (a := 8) (b := x9) (by omega) (by omega)).mp c18
        have c18n : ¬ x9 < 8 := Nat.not_lt.mpr c18
        refine hr_aload_n C dX3_restart_69 rfl 0 rfl ?_
        refine hr_get (k := 0) (i := 0) (fld := 2) C (by decide) rfl rfl (by decide) kU_X3 kF_X3_22 rfl rfl dX3_restart_70 ?_
        refine hr_get (k := 3) (i := 0) (fld := 2) C (by decide) rfl rfl (by decide) kU_X0 kF_X3_79 rfl rfl dX3_restart_73 ?_
        refine hr_xr ?_ (Nat.le_of_ble_eq_true rfl) (Nat.le_of_ble_eq_true rfl)
        exact hr_iret C hr dX3_restart_76 ⟨⟨by rw [show x9 = 8 by omega], by rw [show x9 = 8 by omega]⟩, fA⟩
      · skip
        have c18 : ¬ 8 ≤ x9 := fun h => c18 ((nI_leI (a := 8) (b := x9) (by omega) (by omega)).mpr h)
        have c18n : x9 < 8 := Nat.not_le.mp c18
        refine hr_aload_n C dX3_restart_21 rfl 0 rfl ?_
        refine hr_iload_n C dX3_restart_22 rfl 1 rfl ?_
        refine hr_tp (y := nI (un a)) fA.1 ?_
        refine hr_iload_n C dX3_restart_23 rfl 2 rfl ?_
        refine hr_cVi C (ct_X3_isUp l E (cl_rsL (tb_fall S (un a) 8) (un a) x9) o (un a) x9 (by omega) (by omega) ((CI_rsL (CI_fall hI 8) hA x9 (by omega)).2.2.2.2.2 _ (by omega))) (cwV 2 C.1.2.2.2.2 (hr_gV kM_X3_41 kI_X3_isUp kS_X3_isUp kN_X3 kC_X3_isUp) rfl rfl rfl (by decide +kernel) ⟨Nat.le_of_ble_eq_true rfl, Nat.le_of_ble_eq_true rfl⟩) (by decide) rfl rfl rfl (Nat.le_of_ble_eq_true rfl) dX3_restart_24 ⟨Nat.le_of_ble_eq_true rfl, Nat.le_of_ble_eq_true rfl⟩ (fun r7 S8 h9 => ?_) rfl
        refine hr_tp h9.1 ?_
        refine hr_st (S1 := (cl_rsL (tb_fall S (un a) 8) (un a) x9)) h9.2 ?_
        refine hr_if_eq C 63 dX3_restart_27 (by decide) (fun c27 => ?_) (fun c27 => ?_)
        · skip
          have c27 := hr_bz.mp c27
          have c27 : ¬ (¬ (cl_rsL (tb_fall S (un a) 8) (un a) x9) 1 0 ((un a) * 8 + x9) = 0) := c27
          refine hr_iinc (v := nI (x9 + 1)) C [(2, .int (nI (x9 + 1))), (0, .ref (hr_ad E 0 0)), (1, .int a)] dX3_restart_63 2 rfl (nI_add x9 1) (by decide) rfl ?_
          refine hr_goto C 15 dX3_restart_66 (by decide) ?_
          refine hr_sub [1, 2, 0] rfl ?_
          refine hr_st (S1 := cl_rsL (tb_fall S (un a) 8) (un a) (x9 + 1)) (by rw [cl_rsL, if_neg c27]) ?_
          exact ih (x9 + 1)  (by omega) (by omega)
        · skip
          have c27 := hr_bn.mp c27
          have c27 : ¬ (cl_rsL (tb_fall S (un a) 8) (un a) x9) 1 0 ((un a) * 8 + x9) = 0 := c27
          refine hr_aload_n C dX3_restart_30 rfl 0 rfl ?_
          refine hr_get (k := 0) (i := 0) (fld := 3) C (by decide) rfl rfl (by decide) kU_X3 kF_X3_29 rfl rfl dX3_restart_31 ?_
          refine hr_iload_n C dX3_restart_34 rfl 1 rfl ?_
          refine hr_tp (y := nI (un a)) fA.1 ?_
          refine hr_iload_n C dX3_restart_35 rfl 2 rfl ?_
          refine hr_ldc (v := 16908288) C dX3_restart_36 kK_X3_67 ?_
          refine hr_cVv C (ct_X1_begin l E (cl_rsL (tb_fall S (un a) 8) (un a) x9) o 200 (by omega) (nI (un a)) (nI x9) 16908288) (cwV 3 C.1.2.2.2.2 (hr_gV kM_X3_68 kI_X1_begin kS_X1_begin kN_X1 kC_X1_begin) rfl rfl rfl (by decide +kernel) ⟨Nat.le_of_ble_eq_true rfl, Nat.le_of_ble_eq_true rfl⟩) (by decide) rfl rfl rfl (Nat.le_of_ble_eq_true rfl) dX3_restart_38 ⟨Nat.le_of_ble_eq_true rfl, Nat.le_of_ble_eq_true rfl⟩ (fun S11 h12 => ?_) rfl
          refine hr_st (S1 := (pk_begin (cl_rsL (tb_fall S (un a) 8) (un a) x9) 200 (nI (un a)) (nI x9) 16908288)) h12 ?_
          refine hr_aload_n C dX3_restart_41 rfl 0 rfl ?_
          refine hr_get (k := 0) (i := 0) (fld := 3) C (by decide) rfl rfl (by decide) kU_X3 kF_X3_29 rfl rfl dX3_restart_42 ?_
          refine hr_iconst (v := 0) C dX3_restart_45 (by decide) ?_
          refine hr_iconst (v := 0) C dX3_restart_46 (by decide) ?_
          refine hr_bipush (v := 16) C dX3_restart_47 (by decide) ?_
          refine hr_cVv C (ct_X1_addEntry l E (pk_begin (cl_rsL (tb_fall S (un a) 8) (un a) x9) 200 (nI (un a)) (nI x9) 16908288) o 200 (by omega) (((CI_begin (CI_rsL (CI_fall hI 8) hA x9 (by omega)) (nb_nI hA (by decide)) (nb_nI (show x9 < 8 by omega) (by decide))).2.2.2.1 200 (by decide)).2.2) (by rw [len_begin]; omega) 0 0 16) (cwV 3 C.1.2.2.2.2 (hr_gV kM_X3_72 kI_X1_addEntry kS_X1_addEntry kN_X1 kC_X1_addEntry) rfl rfl rfl (by decide +kernel) ⟨Nat.le_of_ble_eq_true rfl, Nat.le_of_ble_eq_true rfl⟩) (by decide) rfl rfl rfl (Nat.le_of_ble_eq_true rfl) dX3_restart_49 ⟨Nat.le_of_ble_eq_true rfl, Nat.le_of_ble_eq_true rfl⟩ (fun S14 h15 => ?_) rfl
          refine hr_st (S1 := (pk_addE (pk_begin (cl_rsL (tb_fall S (un a) 8) (un a) x9) 200 (nI (un a)) (nI x9) 16908288) 200 0 0 16)) h15 ?_
          refine hr_aload_n C dX3_restart_52 rfl 0 rfl ?_
          refine hr_get (k := 0) (i := 0) (fld := 2) C (by decide) rfl rfl (by decide) kU_X3 kF_X3_22 rfl rfl dX3_restart_53 ?_
          refine hr_aload_n C dX3_restart_56 rfl 0 rfl ?_
          refine hr_get (k := 0) (i := 0) (fld := 3) C (by decide) rfl rfl (by decide) kU_X3 kF_X3_29 rfl rfl dX3_restart_57 ?_
          refine hr_cVv C (ct_X0_launch l E (pk_addE (pk_begin (cl_rsL (tb_fall S (un a) 8) (un a) x9) 200 (nI (un a)) (nI x9) 16908288) 200 0 0 16) o 200 (by omega) (CI_addE (CI_begin (CI_rsL (CI_fall hI 8) hA x9 (by omega)) (nb_nI hA (by decide)) (nb_nI (show x9 < 8 by omega) (by decide)))) (ai_ne (CI_addE (CI_begin (CI_rsL (CI_fall hI 8) hA x9 (by omega)) (nb_nI hA (by decide)) (nb_nI (show x9 < 8 by omega) (by decide)))) (by omega))) (cwV 1 C.1.2.2.2.2 (hr_gV kM_X3_75 kI_X0_launch kS_X0_launch kN_X0 kC_X0_launch) rfl rfl rfl (by decide +kernel) ⟨Nat.le_of_ble_eq_true rfl, Nat.le_of_ble_eq_true rfl⟩) (by decide) rfl rfl rfl (Nat.le_of_ble_eq_true rfl) dX3_restart_60 ⟨Nat.le_of_ble_eq_true rfl, Nat.le_of_ble_eq_true rfl⟩ (fun S17 h18 => ?_) rfl
          refine hr_st (S1 := (ai_launch (pk_addE (pk_begin (cl_rsL (tb_fall S (un a) 8) (un a) x9) 200 (nI (un a)) (nI x9) 16908288) 200 0 0 16) 200)) h18 ?_
          refine hr_iinc (v := nI (x9 + 1)) C [(2, .int (nI (x9 + 1))), (0, .ref (hr_ad E 0 0)), (1, .int a)] dX3_restart_63 2 rfl (nI_add x9 1) (by decide) rfl ?_
          refine hr_goto C 15 dX3_restart_66 (by decide) ?_
          refine hr_sub [1, 2, 0] rfl ?_
          refine hr_st (S1 := cl_rsL (tb_fall S (un a) 8) (un a) (x9 + 1)) (by rw [cl_rsL, if_pos c27]; rfl) ?_
          exact ih (x9 + 1)  (by omega) (by omega)
  refine hr_sub [1, 2, 0] rfl ?_
  refine hr_st (S1 := cl_rsL (tb_fall S (un a) 8) (un a) 0) rfl ?_
  exact LP15 (8 + 1) 0  (by omega) (by omega)
end
section
set_option maxHeartbeats 4000000 in
set_option maxRecDepth 100000 in
theorem ct_X3_ask (l : Launch) (htr : l.stackTraces = false) (E : hr_E) (S : hr_S) (o : Int64) (a b ds : Int32) (hI : hr_CI S) : hr_Xi l E yX3_ask (Cond.code yX3_ask cX3_ask 5 (some .int) :: hr_W) ({ frames := 8, cells := 4, slots := 24, locals := 131 } : Room) [.ref (hr_ad E 0 0), .int a, .int b, .int ds] S o (fun r u => (r = (ai_launch (cl_askL S (un a) (un b) ds 8) 200) 3 0 2 ∧ u = (ai_launch (cl_askL S (un a) (un b) ds 8) 200)) ∧ (nb a 8 ∧ nb b 8 ∧ ¬ a = b) ∧ (¬ ds < 1 ∧ ds ≤ 255) ∧ ¬ S 1 0 (un a * 8 + un b) = 0) (fun X => ((X = "java/lang/IndexOutOfBoundsException" ∧ ¬ (nb a 8 ∧ nb b 8)) ∨ (X = "java/lang/IllegalArgumentException" ∧ (nb a 8 ∧ nb b 8) ∧ a = b)) ∨ (X = "java/lang/IllegalArgumentException" ∧ (nb a 8 ∧ nb b 8 ∧ ¬ a = b) ∧ ¬ (¬ ds < 1 ∧ ds ≤ 255)) ∨ (X = "java/lang/IllegalStateException" ∧ (nb a 8 ∧ nb b 8 ∧ ¬ a = b) ∧ (¬ ds < 1 ∧ ds ≤ 255) ∧ S 1 0 (un a * 8 + un b) = 0)) 4 24 := by
  refine hr_ofX (by decide) (Nat.le_of_ble_eq_true rfl) (fun p e s m below meth c C hr htab => ?_)
  refine hr_iload_n C dX3_ask_0 rfl 1 rfl ?_
  refine hr_iload_n C dX3_ask_1 rfl 2 rfl ?_
  refine hr_xSv C htab (ct_X3_checkPair l htr E S o a b) (cwS 2 C.1.2.2.2.2 (hr_gS kM_X3_37 kT_X3_checkPair kN_X3 kC_X3_checkPair) rfl rfl rfl (by decide +kernel) ⟨Nat.le_of_ble_eq_true rfl, Nat.le_of_ble_eq_true rfl⟩) rfl (Nat.le_of_ble_eq_true rfl) dX3_ask_2 ⟨Nat.le_of_ble_eq_true rfl, Nat.le_of_ble_eq_true rfl⟩ ⟨Nat.le_of_ble_eq_true rfl, Nat.le_of_ble_eq_true rfl⟩ (fun X h => Or.inl h) (fun S2 h3 => ?_) rfl
  obtain ⟨h3, ⟨fA, fB, fN⟩⟩ := h3
  refine hr_st (S1 := S) h3 ?_
  have hA := fA.2
  have hB := fB.2
  refine hr_iload_n C dX3_ask_5 rfl 3 rfl ?_
  refine hr_iconst (v := 1) C dX3_ask_6 (by decide) ?_
  refine hr_icmp_lt C 17 dX3_ask_7 (by decide) (fun c7 => ?_) (fun c7 => ?_)
  · skip
    have c7n : ¬ 1 ≤ ds := Int32.not_le.mpr c7
    exact hr_throw (text := "destinations are not 1 .. 255") C htr htab (by decide) (Or.inr (Or.inl ⟨rfl, ⟨fA, fB, fN⟩, fun h => h.1 c7⟩)) kL_X3_82 kN_IllegalArgumentException (by decide) (hr_at_86 C) hr_good_86 dX3_ask_17 dX3_ask_20 dX3_ask_21 dX3_ask_23 dX3_ask_26 (Nat.le_of_ble_eq_true rfl) (Nat.le_of_ble_eq_true rfl) (Nat.le_of_ble_eq_true rfl) (Nat.le_of_ble_eq_true rfl) (Nat.le_of_ble_eq_true rfl) (Nat.le_of_ble_eq_true rfl) rfl
  · skip
    have c7n : 1 ≤ ds := Int32.not_lt.mp c7
    refine hr_iload_n C dX3_ask_10 rfl 3 rfl ?_
    refine hr_sipush (v := 255) C dX3_ask_11 (by decide) ?_
    refine hr_icmp_le C 27 dX3_ask_14 (by decide) (fun c14 => ?_) (fun c14 => ?_)
    · skip
      have c14n : ¬ 255 < ds := Int32.not_lt.mpr c14
      refine hr_aload_n C dX3_ask_27 rfl 0 rfl ?_
      refine hr_iload_n C dX3_ask_28 rfl 1 rfl ?_
      refine hr_tp (y := nI (un a)) fA.1 ?_
      refine hr_iload_n C dX3_ask_29 rfl 2 rfl ?_
      refine hr_tp (y := nI (un b)) fB.1 ?_
      refine hr_cVi C (ct_X3_isUp l E S o (un a) (un b) (by omega) (by omega) (hI.2.2.2.2.2 _ (by omega))) (cwV 2 C.1.2.2.2.2 (hr_gV kM_X3_41 kI_X3_isUp kS_X3_isUp kN_X3 kC_X3_isUp) rfl rfl rfl (by decide +kernel) ⟨Nat.le_of_ble_eq_true rfl, Nat.le_of_ble_eq_true rfl⟩) (by decide) rfl rfl rfl (Nat.le_of_ble_eq_true rfl) dX3_ask_30 ⟨Nat.le_of_ble_eq_true rfl, Nat.le_of_ble_eq_true rfl⟩ (fun r4 S5 h6 => ?_) rfl
      refine hr_tp h6.1 ?_
      refine hr_st (S1 := S) h6.2 ?_
      refine hr_if_ne C 46 dX3_ask_33 (by decide) (fun c33 => ?_) (fun c33 => ?_)
      · skip
        have c33 := hr_bn.mp c33
        have c33 : ¬ S 1 0 ((un a) * 8 + (un b)) = 0 := c33
        refine hr_aload_n C dX3_ask_46 rfl 0 rfl ?_
        refine hr_get (k := 0) (i := 0) (fld := 3) C (by decide) rfl rfl (by decide) kU_X3 kF_X3_29 rfl rfl dX3_ask_47 ?_
        refine hr_iload_n C dX3_ask_50 rfl 1 rfl ?_
        refine hr_tp (y := nI (un a)) fA.1 ?_
        refine hr_iload_n C dX3_ask_51 rfl 2 rfl ?_
        refine hr_tp (y := nI (un b)) fB.1 ?_
        refine hr_ldc (v := 16908288) C dX3_ask_52 kK_X3_67 ?_
        refine hr_cVv C (ct_X1_begin l E S o 200 (by omega) (nI (un a)) (nI (un b)) 16908288) (cwV 3 C.1.2.2.2.2 (hr_gV kM_X3_68 kI_X1_begin kS_X1_begin kN_X1 kC_X1_begin) rfl rfl rfl (by decide +kernel) ⟨Nat.le_of_ble_eq_true rfl, Nat.le_of_ble_eq_true rfl⟩) (by decide) rfl rfl rfl (Nat.le_of_ble_eq_true rfl) dX3_ask_54 ⟨Nat.le_of_ble_eq_true rfl, Nat.le_of_ble_eq_true rfl⟩ (fun S8 h9 => ?_) rfl
        refine hr_st (S1 := (pk_begin S 200 (nI (un a)) (nI (un b)) 16908288)) h9 ?_
        refine hr_iconst (v := 0) C dX3_ask_57 (by decide) ?_
        refine hr_istore C [(4, .int 0), (0, .ref (hr_ad E 0 0)), (1, .int a), (2, .int b), (3, .int ds)] dX3_ask_58 (by decide) rfl ?_
        have LP60 : ∀ (n d : Nat) , d ≤ 8 → 8 + 1 ≤ d + n → hr_G p l e ({ frames := 8, cells := 4, slots := 24, locals := 131 } : Room) s m #[.ref (hr_ad E 0 0), .int a, .int b, .int ds] below meth c (vx_MQ below (va_Qi (fun r u => (r = (ai_launch (cl_askL S (un a) (un b) ds 8) 200) 3 0 2 ∧ u = (ai_launch (cl_askL S (un a) (un b) ds 8) 200)) ∧ (nb a 8 ∧ nb b 8 ∧ ¬ a = b) ∧ (¬ ds < 1 ∧ ds ≤ 255) ∧ ¬ S 1 0 (un a * 8 + un b) = 0) (fun u t => hr_P E u o t.heap) (hr_A E)) (vx_X (fun _ : Unit => True) (fun X _ t => (fun X => ((X = "java/lang/IndexOutOfBoundsException" ∧ ¬ (nb a 8 ∧ nb b 8)) ∨ (X = "java/lang/IllegalArgumentException" ∧ (nb a 8 ∧ nb b 8) ∧ a = b)) ∨ (X = "java/lang/IllegalArgumentException" ∧ (nb a 8 ∧ nb b 8 ∧ ¬ a = b) ∧ ¬ (¬ ds < 1 ∧ ds ≤ 255)) ∨ (X = "java/lang/IllegalStateException" ∧ (nb a 8 ∧ nb b 8 ∧ ¬ a = b) ∧ (¬ ds < 1 ∧ ds ≤ 255) ∧ S 1 0 (un a * 8 + un b) = 0)) X ∧ hr_P E S o t.heap) (hr_A E)) #[.ref (hr_ad E 0 0), .int a, .int b, .int ds] s 4 24 (hr_A E)) E 5 3 18 (cl_askL S (un a) (un b) ds d) o [(0, .ref (hr_ad E 0 0)), (1, .int a), (2, .int b), (3, .int ds), (4, .int (nI d))] 60 [] := by
          intro n
          induction n with
          | zero => intro d  h1 h2; omega
          | succ n ih =>
            intro d  hv1 hv2
            refine hr_iload C dX3_ask_60 4 rfl ?_
            refine hr_bipush (v := 8) C dX3_ask_62 (by decide) ?_
            refine hr_icmp_ge C 95 dX3_ask_64 (by decide) (fun c64 => ?_) (fun c64 => ?_)
            · skip
              have c64 : 8 ≤ d := (nI_leI (a := 8) (b := d) (by omega) (by omega)).mp c64
              have c64n : ¬ d < 8 := Nat.not_lt.mpr c64
              refine hr_aload_n C dX3_ask_95 rfl 0 rfl ?_
              refine hr_get (k := 0) (i := 0) (fld := 2) C (by decide) rfl rfl (by decide) kU_X3 kF_X3_22 rfl rfl dX3_ask_96 ?_
              refine hr_aload_n C dX3_ask_99 rfl 0 rfl ?_
              refine hr_get (k := 0) (i := 0) (fld := 3) C (by decide) rfl rfl (by decide) kU_X3 kF_X3_29 rfl rfl dX3_ask_100 ?_
              refine hr_cVv C (ct_X0_launch l E (cl_askL S (un a) (un b) ds d) o 200 (by omega) (CI_askL (ds := ds) hI hA hB d) (ai_ne (CI_askL (ds := ds) hI hA hB d) (by omega))) (cwV 1 C.1.2.2.2.2 (hr_gV kM_X3_75 kI_X0_launch kS_X0_launch kN_X0 kC_X0_launch) rfl rfl rfl (by decide +kernel) ⟨Nat.le_of_ble_eq_true rfl, Nat.le_of_ble_eq_true rfl⟩) (by decide) rfl rfl rfl (Nat.le_of_ble_eq_true rfl) dX3_ask_103 ⟨Nat.le_of_ble_eq_true rfl, Nat.le_of_ble_eq_true rfl⟩ (fun S11 h12 => ?_) rfl
              refine hr_st (S1 := (ai_launch (cl_askL S (un a) (un b) ds d) 200)) h12 ?_
              refine hr_aload_n C dX3_ask_106 rfl 0 rfl ?_
              refine hr_get (k := 0) (i := 0) (fld := 2) C (by decide) rfl rfl (by decide) kU_X3 kF_X3_22 rfl rfl dX3_ask_107 ?_
              refine hr_get (k := 3) (i := 0) (fld := 2) C (by decide) rfl rfl (by decide) kU_X0 kF_X3_79 rfl rfl dX3_ask_110 ?_
              refine hr_xr ?_ (Nat.le_of_ble_eq_true rfl) (Nat.le_of_ble_eq_true rfl)
              exact hr_iret C hr dX3_ask_113 ⟨⟨by rw [show d = 8 by omega], by rw [show d = 8 by omega]⟩, ⟨fA, fB, fN⟩, ⟨c7, c14⟩, c33⟩
            · skip
              have c64 : ¬ 8 ≤ d := fun h => c64 ((nI_leI (a := 8) (b := d) (by omega) (by omega)).mpr h)
              have c64n : d < 8 := Nat.not_le.mp c64
              refine hr_iload_n C dX3_ask_67 rfl 3 rfl ?_
              refine hr_iload C dX3_ask_68 4 rfl ?_
              refine hr_ishr C dX3_ask_70 rfl ?_
              refine hr_iconst (v := 1) C dX3_ask_71 (by decide) ?_
              refine hr_iand C dX3_ask_72 rfl ?_
              refine hr_iconst (v := 1) C dX3_ask_73 (by decide) ?_
              refine hr_icmp_ne C 89 dX3_ask_74 (by decide) (fun c74 => ?_) (fun c74 => ?_)
              · skip
                refine hr_iinc (v := nI (d + 1)) C [(4, .int (nI (d + 1))), (0, .ref (hr_ad E 0 0)), (1, .int a), (2, .int b), (3, .int ds)] dX3_ask_89 4 rfl (nI_add d 1) (by decide) rfl ?_
                refine hr_goto C 60 dX3_ask_92 (by decide) ?_
                refine hr_sub [1, 2, 3, 4, 0] rfl ?_
                refine hr_st (S1 := cl_askL S (un a) (un b) ds (d + 1)) (by rw [cl_askL, if_neg c74]) ?_
                exact ih (d + 1)  (by omega) (by omega)
              · skip
                refine hr_aload_n C dX3_ask_77 rfl 0 rfl ?_
                refine hr_get (k := 0) (i := 0) (fld := 3) C (by decide) rfl rfl (by decide) kU_X3 kF_X3_29 rfl rfl dX3_ask_78 ?_
                refine hr_iconst (v := 2) C dX3_ask_81 (by decide) ?_
                refine hr_iload C dX3_ask_82 4 rfl ?_
                refine hr_bipush (v := 16) C dX3_ask_84 (by decide) ?_
                refine hr_cVv C (ct_X1_addEntry l E (cl_askL S (un a) (un b) ds d) o 200 (by omega) (((CI_askL (ds := ds) hI hA hB d).2.2.2.1 200 (by decide)).2.2) (len_askL S (un a) (un b) ds d) 2 (nI d) 16) (cwV 3 C.1.2.2.2.2 (hr_gV kM_X3_72 kI_X1_addEntry kS_X1_addEntry kN_X1 kC_X1_addEntry) rfl rfl rfl (by decide +kernel) ⟨Nat.le_of_ble_eq_true rfl, Nat.le_of_ble_eq_true rfl⟩) (by decide) rfl rfl rfl (Nat.le_of_ble_eq_true rfl) dX3_ask_86 ⟨Nat.le_of_ble_eq_true rfl, Nat.le_of_ble_eq_true rfl⟩ (fun S14 h15 => ?_) rfl
                refine hr_st (S1 := (pk_addE (cl_askL S (un a) (un b) ds d) 200 2 (nI d) 16)) h15 ?_
                refine hr_iinc (v := nI (d + 1)) C [(4, .int (nI (d + 1))), (0, .ref (hr_ad E 0 0)), (1, .int a), (2, .int b), (3, .int ds)] dX3_ask_89 4 rfl (nI_add d 1) (by decide) rfl ?_
                refine hr_goto C 60 dX3_ask_92 (by decide) ?_
                refine hr_sub [1, 2, 3, 4, 0] rfl ?_
                refine hr_st (S1 := cl_askL S (un a) (un b) ds (d + 1)) (by rw [cl_askL, if_pos c74]) ?_
                exact ih (d + 1)  (by omega) (by omega)
        refine hr_sub [1, 2, 3, 4, 0] rfl ?_
        refine hr_st (S1 := cl_askL S (un a) (un b) ds 0) rfl ?_
        exact LP60 (8 + 1) 0  (by omega) (by omega)
      · skip
        have c33 := hr_bz.mp c33
        have c33 : ¬ (¬ S 1 0 ((un a) * 8 + (un b)) = 0) := c33
        exact hr_throw (text := "the link is down") C htr htab (by decide) (Or.inr (Or.inr ⟨rfl, ⟨fA, fB, fN⟩, ⟨c7, c14⟩, Decidable.not_not.mp c33⟩)) kL_X3_49 kN_IllegalStateException (by decide) (hr_at_53 C) hr_good_53 dX3_ask_36 dX3_ask_39 dX3_ask_40 dX3_ask_42 dX3_ask_45 (Nat.le_of_ble_eq_true rfl) (Nat.le_of_ble_eq_true rfl) (Nat.le_of_ble_eq_true rfl) (Nat.le_of_ble_eq_true rfl) (Nat.le_of_ble_eq_true rfl) (Nat.le_of_ble_eq_true rfl) rfl
    · skip
      have c14n : 255 < ds := Int32.not_le.mp c14
      exact hr_throw (text := "destinations are not 1 .. 255") C htr htab (by decide) (Or.inr (Or.inl ⟨rfl, ⟨fA, fB, fN⟩, fun h => c14 h.2⟩)) kL_X3_82 kN_IllegalArgumentException (by decide) (hr_at_86 C) hr_good_86 dX3_ask_17 dX3_ask_20 dX3_ask_21 dX3_ask_23 dX3_ask_26 (Nat.le_of_ble_eq_true rfl) (Nat.le_of_ble_eq_true rfl) (Nat.le_of_ble_eq_true rfl) (Nat.le_of_ble_eq_true rfl) (Nat.le_of_ble_eq_true rfl) (Nat.le_of_ble_eq_true rfl) rfl
set_option maxHeartbeats 4000000 in
set_option maxRecDepth 100000 in
theorem ct_X3_tick (l : Launch) (htr : l.stackTraces = false) (E : hr_E) (S : hr_S) (o : Int64) (n9 al : Int32) (hI : hr_CI S) : hr_Xi l E yX3_tick (Cond.code yX3_tick cX3_tick 5 (some .int) :: hr_W) ({ frames := 6, cells := 1, slots := 6, locals := 152 } : Room) [.ref (hr_ad E 0 0), .int n9, .int al] S o (fun r u => (r = (cl_tick S al (un n9)) 3 0 2 ∧ u = (cl_tick S al (un n9))) ∧ nb n9 1001) (fun X => X = "java/lang/IllegalArgumentException" ∧ ¬ nb n9 1001) 1 6 := by
  refine hr_ofX (by decide) (Nat.le_of_ble_eq_true rfl) (fun p e s m below meth c C hr htab => ?_)
  refine hr_iload_n C dX3_tick_0 rfl 1 rfl ?_
  refine hr_if_lt C 11 dX3_tick_1 (by decide) (fun c1 => ?_) (fun c1 => ?_)
  · skip
    have c1n : ¬ 0 ≤ n9 := Int32.not_le.mpr c1
    exact hr_throw (text := "n is not 0 .. 1000") C htr htab (by decide) ⟨rfl, nb_lt0 c1 (by decide)⟩ kL_X3_82 kN_IllegalArgumentException (by decide) (hr_at_86 C) hr_good_86 dX3_tick_11 dX3_tick_14 dX3_tick_15 dX3_tick_17 dX3_tick_20 (Nat.le_of_ble_eq_true rfl) (Nat.le_of_ble_eq_true rfl) (Nat.le_of_ble_eq_true rfl) (Nat.le_of_ble_eq_true rfl) (Nat.le_of_ble_eq_true rfl) (Nat.le_of_ble_eq_true rfl) rfl
  · skip
    have c1n : 0 ≤ n9 := Int32.not_lt.mp c1
    refine hr_iload_n C dX3_tick_4 rfl 1 rfl ?_
    refine hr_sipush (v := 1000) C dX3_tick_5 (by decide) ?_
    refine hr_icmp_le C 21 dX3_tick_8 (by decide) (fun c8 => ?_) (fun c8 => ?_)
    · skip
      have c8n : ¬ 1000 < n9 := Int32.not_lt.mpr c8
      have fN : nb n9 1001 := nb_le (N := 1000) c1 c8 rfl (by decide)
      have hN := fN.2
      refine hr_iconst (v := 0) C dX3_tick_21 (by decide) ?_
      refine hr_istore_n C [(3, .int 0), (0, .ref (hr_ad E 0 0)), (1, .int n9), (2, .int al)] dX3_tick_22 rfl (by decide) rfl ?_
      have LP23 : ∀ (n i9 : Nat) , i9 ≤ (un n9) → (un n9) + 1 ≤ i9 + n → hr_G p l e ({ frames := 6, cells := 1, slots := 6, locals := 152 } : Room) s m #[.ref (hr_ad E 0 0), .int n9, .int al] below meth c (vx_MQ below (va_Qi (fun r u => (r = (cl_tick S al (un n9)) 3 0 2 ∧ u = (cl_tick S al (un n9))) ∧ nb n9 1001) (fun u t => hr_P E u o t.heap) (hr_A E)) (vx_X (fun _ : Unit => True) (fun X _ t => (fun X => X = "java/lang/IllegalArgumentException" ∧ ¬ nb n9 1001) X ∧ hr_P E S o t.heap) (hr_A E)) #[.ref (hr_ad E 0 0), .int n9, .int al] s 1 6 (hr_A E)) E 5 0 0 (cl_tick S al i9) o [(0, .ref (hr_ad E 0 0)), (1, .int n9), (2, .int al), (3, .int (nI i9))] 23 [] := by
        intro n
        induction n with
        | zero => intro i9  h1 h2; omega
        | succ n ih =>
          intro i9  hv1 hv2
          refine hr_iload_n C dX3_tick_23 rfl 3 rfl ?_
          refine hr_iload_n C dX3_tick_24 rfl 1 rfl ?_
          refine hr_tp (y := nI (un n9)) fN.1 ?_
          refine hr_icmp_ge C 75 dX3_tick_25 (by decide) (fun c25 => ?_) (fun c25 => ?_)
          · skip
            have c25 : (un n9) ≤ i9 := (nI_leI (a := (un n9)) (b := i9) (by omega) (by omega)).mp c25
            have c25n : ¬ i9 < (un n9) := Nat.not_lt.mpr c25
            refine hr_aload_n C dX3_tick_75 rfl 0 rfl ?_
            refine hr_get (k := 0) (i := 0) (fld := 2) C (by decide) rfl rfl (by decide) kU_X3 kF_X3_22 rfl rfl dX3_tick_76 ?_
            refine hr_get (k := 3) (i := 0) (fld := 2) C (by decide) rfl rfl (by decide) kU_X0 kF_X3_79 rfl rfl dX3_tick_79 ?_
            refine hr_xr ?_ (Nat.le_of_ble_eq_true rfl) (Nat.le_of_ble_eq_true rfl)
            exact hr_iret C hr dX3_tick_82 ⟨⟨by rw [show i9 = un n9 by omega], by rw [show i9 = un n9 by omega]⟩, fN⟩
          · skip
            have c25 : ¬ (un n9) ≤ i9 := fun h => c25 ((nI_leI (a := (un n9)) (b := i9) (by omega) (by omega)).mpr h)
            have c25n : i9 < (un n9) := Nat.not_le.mp c25
            refine hr_aload_n C dX3_tick_28 rfl 0 rfl ?_
            refine hr_cVv C (ct_X3_passTime l E (cl_tick S al i9) o (CI_tick hI i9)) (cwV 0 C.1.2.2.2.2 (hr_gV kM_X3_91 kI_X3_passTime kS_X3_passTime kN_X3 kC_X3_passTime) rfl rfl rfl (by decide +kernel) ⟨Nat.le_of_ble_eq_true rfl, Nat.le_of_ble_eq_true rfl⟩) (by decide) rfl rfl rfl (Nat.le_of_ble_eq_true rfl) dX3_tick_29 ⟨Nat.le_of_ble_eq_true rfl, Nat.le_of_ble_eq_true rfl⟩ (fun S2 h3 => ?_) rfl
            refine hr_st (S1 := (cl_pass (cl_tick S al i9))) h3 ?_
            refine hr_iconst (v := 0) C dX3_tick_32 (by decide) ?_
            refine hr_istore C [(4, .int 0), (0, .ref (hr_ad E 0 0)), (1, .int n9), (2, .int al), (3, .int (nI i9))] dX3_tick_33 (by decide) rfl ?_
            have LPI : ∀ (n2 came : Nat) (S1 : hr_S), came ≤ 1000 → 1001 ≤ came + n2 → hr_CI S1 → (if al = 0 then S1 else cl_dr (1000 - came) S1) = cl_tk1 (cl_tick S al i9) al → hr_G p l e ({ frames := 6, cells := 1, slots := 6, locals := 152 } : Room) s m #[.ref (hr_ad E 0 0), .int n9, .int al] below meth c (vx_MQ below (va_Qi (fun r u => (r = (cl_tick S al (un n9)) 3 0 2 ∧ u = (cl_tick S al (un n9))) ∧ nb n9 1001) (fun u t => hr_P E u o t.heap) (hr_A E)) (vx_X (fun _ : Unit => True) (fun X _ t => (fun X => X = "java/lang/IllegalArgumentException" ∧ ¬ nb n9 1001) X ∧ hr_P E S o t.heap) (hr_A E)) #[.ref (hr_ad E 0 0), .int n9, .int al] s 1 6 (hr_A E)) E 5 0 0 S1 o [(0, .ref (hr_ad E 0 0)), (1, .int n9), (2, .int al), (3, .int (nI i9)), (4, .int (nI came))] 35 [] := by
              intro n2
              induction n2 with
              | zero => intro came S1 h1 h2; omega
              | succ n2 ih2 =>
                intro came S1 h6 h7 h8 h9
                have h8b := h8.1.2
                refine hr_iload_n C dX3_tick_35 rfl 2 rfl ?_
                refine hr_if_eq C 69 dX3_tick_36 (by decide) (fun c36 => ?_) (fun c36 => ?_)
                · skip
                  rw [if_pos c36] at h9
                  refine hr_st (S1 := cl_tick S al (i9 + 1)) (show S1 = _ from h9) ?_
                  refine hr_iinc (v := nI (i9 + 1)) C [(3, .int (nI (i9 + 1))), (0, .ref (hr_ad E 0 0)), (1, .int n9), (2, .int al), (4, .int (nI came))] dX3_tick_69 3 rfl (nI_add i9 1) (by decide) rfl ?_
                  refine hr_goto C 23 dX3_tick_72 (by decide) ?_
                  refine hr_sub [1, 2, 3, 0] rfl ?_
                  refine hr_st (S1 := cl_tick S al (i9 + 1)) rfl ?_
                  exact ih (i9 + 1)  (by omega) (by omega)
                · skip
                  rw [if_neg c36] at h9
                  refine hr_iload C dX3_tick_39 4 rfl ?_
                  refine hr_sipush (v := 1000) C dX3_tick_41 (by decide) ?_
                  refine hr_icmp_ge C 69 dX3_tick_44 (by decide) (fun c44 => ?_) (fun c44 => ?_)
                  · skip
                    have c44 : 1000 ≤ came := (nI_leI (a := 1000) (b := came) (by omega) (by omega)).mp c44
                    have c44n : ¬ came < 1000 := Nat.not_lt.mpr c44
                    rw [show 1000 - came = 0 by omega] at h9
                    have h9 : S1 = cl_tk1 (cl_tick S al i9) al := h9
                    refine hr_st (S1 := cl_tick S al (i9 + 1)) (show S1 = _ from h9) ?_
                    refine hr_iinc (v := nI (i9 + 1)) C [(3, .int (nI (i9 + 1))), (0, .ref (hr_ad E 0 0)), (1, .int n9), (2, .int al), (4, .int (nI came))] dX3_tick_69 3 rfl (nI_add i9 1) (by decide) rfl ?_
                    refine hr_goto C 23 dX3_tick_72 (by decide) ?_
                    refine hr_sub [1, 2, 3, 0] rfl ?_
                    refine hr_st (S1 := cl_tick S al (i9 + 1)) rfl ?_
                    exact ih (i9 + 1)  (by omega) (by omega)
                  · skip
                    have c44 : ¬ 1000 ≤ came := fun h => c44 ((nI_leI (a := 1000) (b := came) (by omega) (by omega)).mpr h)
                    have c44n : came < 1000 := Nat.not_le.mp c44
                    refine hr_aload_n C dX3_tick_47 rfl 0 rfl ?_
                    refine hr_get (k := 0) (i := 0) (fld := 2) C (by decide) rfl rfl (by decide) kU_X3 kF_X3_22 rfl rfl dX3_tick_48 ?_
                    refine hr_get (k := 3) (i := 0) (fld := 2) C (by decide) rfl rfl (by decide) kU_X0 kF_X3_79 rfl rfl dX3_tick_51 ?_
                    refine hr_tp (y := nI (un (S1 3 0 2))) h8.1.1 ?_
                    refine hr_if_le C 69 dX3_tick_54 (by decide) (fun c54 => ?_) (fun c54 => ?_)
                    · skip
                      have c54 : (un (S1 3 0 2)) ≤ 0 := (nI_leI (a := (un (S1 3 0 2))) (b := 0) (by omega) (by omega)).mp c54
                      have c54n : ¬ 0 < (un (S1 3 0 2)) := Nat.not_lt.mpr c54
                      have h9 : S1 = cl_tk1 (cl_tick S al i9) al := by rw [← h9, show 1000 - came = (1000 - (came + 1)) + 1 by omega, cl_dr, if_neg (by show ¬ 0 < un (S1 3 0 2); omega)]
                      refine hr_st (S1 := cl_tick S al (i9 + 1)) (show S1 = _ from h9) ?_
                      refine hr_iinc (v := nI (i9 + 1)) C [(3, .int (nI (i9 + 1))), (0, .ref (hr_ad E 0 0)), (1, .int n9), (2, .int al), (4, .int (nI came))] dX3_tick_69 3 rfl (nI_add i9 1) (by decide) rfl ?_
                      refine hr_goto C 23 dX3_tick_72 (by decide) ?_
                      refine hr_sub [1, 2, 3, 0] rfl ?_
                      refine hr_st (S1 := cl_tick S al (i9 + 1)) rfl ?_
                      exact ih (i9 + 1)  (by omega) (by omega)
                    · skip
                      have c54 : ¬ (un (S1 3 0 2)) ≤ 0 := fun h => c54 ((nI_leI (a := (un (S1 3 0 2))) (b := 0) (by omega) (by omega)).mpr h)
                      have c54n : 0 < (un (S1 3 0 2)) := Nat.not_le.mp c54
                      have hpos : 0 < ai_n S1 := by show 0 < un (S1 3 0 2); omega
                      refine hr_aload_n C dX3_tick_57 rfl 0 rfl ?_
                      refine hr_iconst (v := 0) C dX3_tick_58 (by decide) ?_
                      refine hr_cVi C (ct_X3_bring l E S1 o 0 hpos h8) (cwV 1 C.1.2.2.2.2 (hr_gV kM_X3_94 kI_X3_bring kS_X3_bring kN_X3 kC_X3_bring) rfl rfl rfl (by decide +kernel) ⟨Nat.le_of_ble_eq_true rfl, Nat.le_of_ble_eq_true rfl⟩) (by decide) rfl rfl rfl (Nat.le_of_ble_eq_true rfl) dX3_tick_59 ⟨Nat.le_of_ble_eq_true rfl, Nat.le_of_ble_eq_true rfl⟩ (fun r4 S5 h6 => ?_) rfl
                      refine hr_tp h6.1 ?_
                      refine hr_st (S1 := (cl_bring S1 0)) h6.2 ?_
                      refine hr_pop C dX3_tick_62 rfl ?_
                      refine hr_iinc (v := nI (came + 1)) C [(4, .int (nI (came + 1))), (0, .ref (hr_ad E 0 0)), (1, .int n9), (2, .int al), (3, .int (nI i9))] dX3_tick_63 4 rfl (nI_add came 1) (by decide) rfl ?_
                      refine hr_goto C 35 dX3_tick_66 (by decide) ?_
                      refine hr_sub [1, 2, 3, 4, 0] rfl ?_
                      refine ih2 (came + 1) _ (by omega) (by omega) (CI_bring h8 hpos) ?_
                      rw [if_neg c36, ← h9, show 1000 - came = (1000 - (came + 1)) + 1 by omega, cl_dr, if_pos hpos]
            refine hr_sub [1, 2, 3, 4, 0] rfl ?_
            exact LPI 1001 0 _ (by omega) (by omega) (CI_pass (CI_tick hI i9)) rfl
      refine hr_sub [1, 2, 3, 0] rfl ?_
      refine hr_st (S1 := cl_tick S al 0) rfl ?_
      exact LP23 ((un n9) + 1) 0  (by omega) (by omega)
    · skip
      have c8n : 1000 < n9 := Int32.not_le.mp c8
      exact hr_throw (text := "n is not 0 .. 1000") C htr htab (by decide) ⟨rfl, nb_nle (N := 1000) c8 rfl (by decide)⟩ kL_X3_82 kN_IllegalArgumentException (by decide) (hr_at_86 C) hr_good_86 dX3_tick_11 dX3_tick_14 dX3_tick_15 dX3_tick_17 dX3_tick_20 (Nat.le_of_ble_eq_true rfl) (Nat.le_of_ble_eq_true rfl) (Nat.le_of_ble_eq_true rfl) (Nat.le_of_ble_eq_true rfl) (Nat.le_of_ble_eq_true rfl) (Nat.le_of_ble_eq_true rfl) rfl
set_option maxHeartbeats 4000000 in
set_option maxRecDepth 100000 in
theorem ct_X3_deliver (l : Launch) (htr : l.stackTraces = false) (E : hr_E) (S : hr_S) (o : Int64) (k : Int32) (hI : hr_CI S) : hr_Xi l E yX3_deliver (Cond.code yX3_deliver cX3_deliver 2 (some .boolean) :: hr_W) ({ frames := 7, cells := 1, slots := 6, locals := 152 } : Room) [.ref (hr_ad E 0 0), .int k] S o (fun r u => (r = (if ¬ (cl_take S (un k)) 1 0 (un ((cl_take S (un k)) 6 201 0) * 8 + un ((cl_take S (un k)) 6 201 1)) = 0 then 1 else 0) ∧ u = cl_bring S (un k)) ∧ nb k (ai_n S)) (fun X => X = "java/lang/IndexOutOfBoundsException" ∧ ¬ nb k (ai_n S)) 1 6 := by
  refine hr_ofX (by decide) (Nat.le_of_ble_eq_true rfl) (fun p e s m below meth c C hr htab => ?_)
  refine hr_aload_n C dX3_deliver_0 rfl 0 rfl ?_
  refine hr_iload_n C dX3_deliver_1 rfl 1 rfl ?_
  refine hr_xVv C htab (ct_X3_checkPacket l htr E S o k hI) (cwV 1 C.1.2.2.2.2 (hr_gV kM_X3_98 kI_X3_checkPacket kS_X3_checkPacket kN_X3 kC_X3_checkPacket) rfl rfl rfl (by decide +kernel) ⟨Nat.le_of_ble_eq_true rfl, Nat.le_of_ble_eq_true rfl⟩) (by decide) rfl rfl rfl (Nat.le_of_ble_eq_true rfl) dX3_deliver_2 ⟨Nat.le_of_ble_eq_true rfl, Nat.le_of_ble_eq_true rfl⟩ ⟨Nat.le_of_ble_eq_true rfl, Nat.le_of_ble_eq_true rfl⟩ (fun _ h => h) (fun S2 h3 => ?_) rfl
  obtain ⟨h3, fK⟩ := h3
  refine hr_st (S1 := S) h3 ?_
  have hn2 : ai_n S < 201 := hI.1.2
  have hK := fK.2
  have hj2 := (hI.2.1 (un k) (by omega)).2
  refine hr_aload_n C dX3_deliver_5 rfl 0 rfl ?_
  refine hr_iload_n C dX3_deliver_6 rfl 1 rfl ?_
  refine hr_tp (y := nI (un k)) fK.1 ?_
  refine hr_cVi C (ct_X3_bring l E S o (un k) hK hI) (cwV 1 C.1.2.2.2.2 (hr_gV kM_X3_94 kI_X3_bring kS_X3_bring kN_X3 kC_X3_bring) rfl rfl rfl (by decide +kernel) ⟨Nat.le_of_ble_eq_true rfl, Nat.le_of_ble_eq_true rfl⟩) (by decide) rfl rfl rfl (Nat.le_of_ble_eq_true rfl) dX3_deliver_7 ⟨Nat.le_of_ble_eq_true rfl, Nat.le_of_ble_eq_true rfl⟩ (fun r4 S5 h6 => ?_) rfl
  refine hr_tp h6.1 ?_
  refine hr_st (S1 := (cl_bring S (un k))) h6.2 ?_
  refine hr_xr ?_ (Nat.le_of_ble_eq_true rfl) (Nat.le_of_ble_eq_true rfl)
  exact hr_zret C hr (by split <;> rfl) dX3_deliver_10 ⟨⟨rfl, rfl⟩, fK⟩
set_option maxHeartbeats 4000000 in
set_option maxRecDepth 100000 in
theorem ct_X3_lose (l : Launch) (htr : l.stackTraces = false) (E : hr_E) (S : hr_S) (o : Int64) (k : Int32) (hI : hr_CI S) : hr_Xi l E yX3_lose (Cond.code yX3_lose cX3_lose 2 (some .int) :: hr_W) ({ frames := 7, cells := 1, slots := 6, locals := 111 } : Room) [.ref (hr_ad E 0 0), .int k] S o (fun r u => (r = (ai_remove S (un k)) 3 0 2 ∧ u = ai_remove S (un k)) ∧ nb k (ai_n S)) (fun X => X = "java/lang/IndexOutOfBoundsException" ∧ ¬ nb k (ai_n S)) 1 6 := by
  refine hr_ofX (by decide) (Nat.le_of_ble_eq_true rfl) (fun p e s m below meth c C hr htab => ?_)
  refine hr_aload_n C dX3_lose_0 rfl 0 rfl ?_
  refine hr_iload_n C dX3_lose_1 rfl 1 rfl ?_
  refine hr_xVv C htab (ct_X3_checkPacket l htr E S o k hI) (cwV 1 C.1.2.2.2.2 (hr_gV kM_X3_98 kI_X3_checkPacket kS_X3_checkPacket kN_X3 kC_X3_checkPacket) rfl rfl rfl (by decide +kernel) ⟨Nat.le_of_ble_eq_true rfl, Nat.le_of_ble_eq_true rfl⟩) (by decide) rfl rfl rfl (Nat.le_of_ble_eq_true rfl) dX3_lose_2 ⟨Nat.le_of_ble_eq_true rfl, Nat.le_of_ble_eq_true rfl⟩ ⟨Nat.le_of_ble_eq_true rfl, Nat.le_of_ble_eq_true rfl⟩ (fun _ h => h) (fun S2 h3 => ?_) rfl
  obtain ⟨h3, fK⟩ := h3
  refine hr_st (S1 := S) h3 ?_
  have hn2 : ai_n S < 201 := hI.1.2
  have hK := fK.2
  have hj2 := (hI.2.1 (un k) (by omega)).2
  refine hr_aload_n C dX3_lose_5 rfl 0 rfl ?_
  refine hr_get (k := 0) (i := 0) (fld := 2) C (by decide) rfl rfl (by decide) kU_X3 kF_X3_22 rfl rfl dX3_lose_6 ?_
  refine hr_iload_n C dX3_lose_9 rfl 1 rfl ?_
  refine hr_tp (y := nI (un k)) fK.1 ?_
  refine hr_cVv C (ct_X0_remove l E S o (un k) hK hI) (cwV 1 C.1.2.2.2.2 (hr_gV kM_X3_101 kI_X0_remove kS_X0_remove kN_X0 kC_X0_remove) rfl rfl rfl (by decide +kernel) ⟨Nat.le_of_ble_eq_true rfl, Nat.le_of_ble_eq_true rfl⟩) (by decide) rfl rfl rfl (Nat.le_of_ble_eq_true rfl) dX3_lose_10 ⟨Nat.le_of_ble_eq_true rfl, Nat.le_of_ble_eq_true rfl⟩ (fun S5 h6 => ?_) rfl
  refine hr_st (S1 := (ai_remove S (un k))) h6 ?_
  refine hr_aload_n C dX3_lose_13 rfl 0 rfl ?_
  refine hr_get (k := 0) (i := 0) (fld := 2) C (by decide) rfl rfl (by decide) kU_X3 kF_X3_22 rfl rfl dX3_lose_14 ?_
  refine hr_get (k := 3) (i := 0) (fld := 2) C (by decide) rfl rfl (by decide) kU_X0 kF_X3_79 rfl rfl dX3_lose_17 ?_
  refine hr_xr ?_ (Nat.le_of_ble_eq_true rfl) (Nat.le_of_ble_eq_true rfl)
  exact hr_iret C hr dX3_lose_20 ⟨⟨rfl, rfl⟩, fK⟩
set_option maxHeartbeats 4000000 in
set_option maxRecDepth 100000 in
theorem ct_X3_twice (l : Launch) (htr : l.stackTraces = false) (E : hr_E) (S : hr_S) (o : Int64) (k : Int32) (hI : hr_CI S) : hr_Xi l E yX3_twice (Cond.code yX3_twice cX3_twice 2 (some .int) :: hr_W) ({ frames := 7, cells := 1, slots := 6, locals := 111 } : Room) [.ref (hr_ad E 0 0), .int k] S o (fun r u => (r = (ai_launch S (ai_o S (un k))) 3 0 2 ∧ u = ai_launch S (ai_o S (un k))) ∧ nb k (ai_n S)) (fun X => X = "java/lang/IndexOutOfBoundsException" ∧ ¬ nb k (ai_n S)) 1 6 := by
  refine hr_ofX (by decide) (Nat.le_of_ble_eq_true rfl) (fun p e s m below meth c C hr htab => ?_)
  refine hr_aload_n C dX3_twice_0 rfl 0 rfl ?_
  refine hr_iload_n C dX3_twice_1 rfl 1 rfl ?_
  refine hr_xVv C htab (ct_X3_checkPacket l htr E S o k hI) (cwV 1 C.1.2.2.2.2 (hr_gV kM_X3_98 kI_X3_checkPacket kS_X3_checkPacket kN_X3 kC_X3_checkPacket) rfl rfl rfl (by decide +kernel) ⟨Nat.le_of_ble_eq_true rfl, Nat.le_of_ble_eq_true rfl⟩) (by decide) rfl rfl rfl (Nat.le_of_ble_eq_true rfl) dX3_twice_2 ⟨Nat.le_of_ble_eq_true rfl, Nat.le_of_ble_eq_true rfl⟩ ⟨Nat.le_of_ble_eq_true rfl, Nat.le_of_ble_eq_true rfl⟩ (fun _ h => h) (fun S2 h3 => ?_) rfl
  obtain ⟨h3, fK⟩ := h3
  refine hr_st (S1 := S) h3 ?_
  have hn2 : ai_n S < 201 := hI.1.2
  have hK := fK.2
  have hj2 := (hI.2.1 (un k) (by omega)).2
  refine hr_aload_n C dX3_twice_5 rfl 0 rfl ?_
  refine hr_get (k := 0) (i := 0) (fld := 2) C (by decide) rfl rfl (by decide) kU_X3 kF_X3_22 rfl rfl dX3_twice_6 ?_
  refine hr_aload_n C dX3_twice_9 rfl 0 rfl ?_
  refine hr_get (k := 0) (i := 0) (fld := 2) C (by decide) rfl rfl (by decide) kU_X3 kF_X3_22 rfl rfl dX3_twice_10 ?_
  refine hr_iload_n C dX3_twice_13 rfl 1 rfl ?_
  refine hr_tp (y := nI (un k)) fK.1 ?_
  refine hr_cVr C (ct_X0_at l E S o (un k) (by omega) (hI.2.1 (un k) (by omega))) (cwV 1 C.1.2.2.2.2 (hr_gV kM_X3_104 kI_X0_at kS_X0_at kN_X0 kC_X0_at) rfl rfl rfl (by decide +kernel) ⟨Nat.le_of_ble_eq_true rfl, Nat.le_of_ble_eq_true rfl⟩) (by decide) rfl rfl rfl (Nat.le_of_ble_eq_true rfl) dX3_twice_14 ⟨Nat.le_of_ble_eq_true rfl, Nat.le_of_ble_eq_true rfl⟩ (fun S5 h6 => ?_) rfl
  refine hr_st (S1 := S) h6 ?_
  refine hr_cVv C (ct_X0_launch l E S o (un (S 5 0 (un k))) (by omega) hI (ai_twne hI hK)) (cwV 1 C.1.2.2.2.2 (hr_gV kM_X3_75 kI_X0_launch kS_X0_launch kN_X0 kC_X0_launch) rfl rfl rfl (by decide +kernel) ⟨Nat.le_of_ble_eq_true rfl, Nat.le_of_ble_eq_true rfl⟩) (by decide) rfl rfl rfl (Nat.le_of_ble_eq_true rfl) dX3_twice_17 ⟨Nat.le_of_ble_eq_true rfl, Nat.le_of_ble_eq_true rfl⟩ (fun S8 h9 => ?_) rfl
  refine hr_st (S1 := (ai_launch S (un (S 5 0 (un k))))) h9 ?_
  refine hr_aload_n C dX3_twice_20 rfl 0 rfl ?_
  refine hr_get (k := 0) (i := 0) (fld := 2) C (by decide) rfl rfl (by decide) kU_X3 kF_X3_22 rfl rfl dX3_twice_21 ?_
  refine hr_get (k := 3) (i := 0) (fld := 2) C (by decide) rfl rfl (by decide) kU_X0 kF_X3_79 rfl rfl dX3_twice_24 ?_
  refine hr_xr ?_ (Nat.le_of_ble_eq_true rfl) (Nat.le_of_ble_eq_true rfl)
  exact hr_iret C hr dX3_twice_27 ⟨⟨rfl, rfl⟩, fK⟩
set_option maxHeartbeats 4000000 in
set_option maxRecDepth 100000 in
theorem ct_X3_poke (l : Launch) (htr : l.stackTraces = false) (E : hr_E) (S : hr_S) (o : Int64) (k j v : Int32) (hI : hr_CI S) : hr_Xi l E yX3_poke (Cond.code yX3_poke cX3_poke 6 (some .int) :: hr_W) ({ frames := 7, cells := 3, slots := 18, locals := 111 } : Room) [.ref (hr_ad E 0 0), .int k, .int j, .int v] S o (fun r u => (r = hr_by (S 7 (un (S 5 0 (un k)))) (un j) ∧ u = hr_w S 7 (un (S 5 0 (un k))) (un j / 4) (hr_sb (S 7 (un (S 5 0 (un k))) (un j / 4)) (un j) v)) ∧ nb k (ai_n S) ∧ nb j (un (S 6 (un (S 5 0 (un k))) 2)) ∧ (¬ v < 0 ∧ v ≤ 255)) (fun X => (X = "java/lang/IndexOutOfBoundsException" ∧ ¬ nb k (ai_n S)) ∨ (X = "java/lang/IndexOutOfBoundsException" ∧ nb k (ai_n S) ∧ ¬ nb j (un (S 6 (un (S 5 0 (un k))) 2))) ∨ (X = "java/lang/IllegalArgumentException" ∧ nb k (ai_n S) ∧ nb j (un (S 6 (un (S 5 0 (un k))) 2)) ∧ ¬ (¬ v < 0 ∧ v ≤ 255))) 3 18 := by
  refine hr_ofX (by decide) (Nat.le_of_ble_eq_true rfl) (fun p e s m below meth c C hr htab => ?_)
  refine hr_aload_n C dX3_poke_0 rfl 0 rfl ?_
  refine hr_iload_n C dX3_poke_1 rfl 1 rfl ?_
  refine hr_xVv C htab (ct_X3_checkPacket l htr E S o k hI) (cwV 1 C.1.2.2.2.2 (hr_gV kM_X3_98 kI_X3_checkPacket kS_X3_checkPacket kN_X3 kC_X3_checkPacket) rfl rfl rfl (by decide +kernel) ⟨Nat.le_of_ble_eq_true rfl, Nat.le_of_ble_eq_true rfl⟩) (by decide) rfl rfl rfl (Nat.le_of_ble_eq_true rfl) dX3_poke_2 ⟨Nat.le_of_ble_eq_true rfl, Nat.le_of_ble_eq_true rfl⟩ ⟨Nat.le_of_ble_eq_true rfl, Nat.le_of_ble_eq_true rfl⟩ (fun X h => Or.inl h) (fun S2 h3 => ?_) rfl
  obtain ⟨h3, fK⟩ := h3
  refine hr_st (S1 := S) h3 ?_
  have hn2 : ai_n S < 201 := hI.1.2
  have hK := fK.2
  have hj2 := (hI.2.1 (un k) (by omega)).2
  have hlen := (hI.2.2.2.1 (un (S 5 0 (un k))) (by omega)).2.2.2
  refine hr_aload_n C dX3_poke_5 rfl 0 rfl ?_
  refine hr_get (k := 0) (i := 0) (fld := 2) C (by decide) rfl rfl (by decide) kU_X3 kF_X3_22 rfl rfl dX3_poke_6 ?_
  refine hr_iload_n C dX3_poke_9 rfl 1 rfl ?_
  refine hr_tp (y := nI (un k)) fK.1 ?_
  refine hr_cVr C (ct_X0_at l E S o (un k) (by omega) (hI.2.1 (un k) (by omega))) (cwV 1 C.1.2.2.2.2 (hr_gV kM_X3_104 kI_X0_at kS_X0_at kN_X0 kC_X0_at) rfl rfl rfl (by decide +kernel) ⟨Nat.le_of_ble_eq_true rfl, Nat.le_of_ble_eq_true rfl⟩) (by decide) rfl rfl rfl (Nat.le_of_ble_eq_true rfl) dX3_poke_10 ⟨Nat.le_of_ble_eq_true rfl, Nat.le_of_ble_eq_true rfl⟩ (fun S5 h6 => ?_) rfl
  refine hr_st (S1 := S) h6 ?_
  refine hr_astore C [(4, .ref (hr_ad E 6 (un (S 5 0 (un k))))), (0, .ref (hr_ad E 0 0)), (1, .int k), (2, .int j), (3, .int v)] dX3_poke_13 (by decide) rfl ?_
  refine hr_aload C dX3_poke_15 0 rfl ?_
  refine hr_iload_n C dX3_poke_17 rfl 3 rfl ?_
  refine hr_xSv C htab (ct_X3_checkByte l htr E S o (un (S 5 0 (un k))) (by omega) j ((hI.2.2.2.1 (un (S 5 0 (un k))) (by omega)).2.2)) (cwS 2 C.1.2.2.2.2 (hr_gS kM_X3_108 kT_X3_checkByte kN_X3 kC_X3_checkByte) rfl rfl rfl (by decide +kernel) ⟨Nat.le_of_ble_eq_true rfl, Nat.le_of_ble_eq_true rfl⟩) rfl (Nat.le_of_ble_eq_true rfl) dX3_poke_18 ⟨Nat.le_of_ble_eq_true rfl, Nat.le_of_ble_eq_true rfl⟩ ⟨Nat.le_of_ble_eq_true rfl, Nat.le_of_ble_eq_true rfl⟩ (fun X h => Or.inr (Or.inl ⟨h.1, fK, h.2⟩)) (fun S8 h9 => ?_) rfl
  obtain ⟨h9, fJ⟩ := h9
  refine hr_st (S1 := S) h9 ?_
  have hJ := fJ.2
  refine hr_iload_n C dX3_poke_21 rfl 4 rfl ?_
  refine hr_if_lt C 32 dX3_poke_22 (by decide) (fun c22 => ?_) (fun c22 => ?_)
  · skip
    have c22n : ¬ 0 ≤ v := Int32.not_le.mpr c22
    exact hr_throw (text := "v is not 0 .. 255") C htr htab (by decide) (Or.inr (Or.inr ⟨rfl, fK, fJ, fun h => h.1 c22⟩)) kL_X3_82 kN_IllegalArgumentException (by decide) (hr_at_86 C) hr_good_86 dX3_poke_32 dX3_poke_35 dX3_poke_36 dX3_poke_38 dX3_poke_41 (Nat.le_of_ble_eq_true rfl) (Nat.le_of_ble_eq_true rfl) (Nat.le_of_ble_eq_true rfl) (Nat.le_of_ble_eq_true rfl) (Nat.le_of_ble_eq_true rfl) (Nat.le_of_ble_eq_true rfl) rfl
  · skip
    have c22n : 0 ≤ v := Int32.not_lt.mp c22
    refine hr_iload_n C dX3_poke_25 rfl 4 rfl ?_
    refine hr_sipush (v := 255) C dX3_poke_26 (by decide) ?_
    refine hr_icmp_le C 42 dX3_poke_29 (by decide) (fun c29 => ?_) (fun c29 => ?_)
    · skip
      have c29n : ¬ 255 < v := Int32.not_lt.mpr c29
      refine hr_aload C dX3_poke_42 0 rfl ?_
      refine hr_iload_n C dX3_poke_44 rfl 3 rfl ?_
      refine hr_tp (y := nI (un j)) fJ.1 ?_
      refine hr_cVi C (ct_X1_byteAt l E S o (un (S 5 0 (un k))) (by omega) (un j) (by omega)) (cwV 1 C.1.2.2.2.2 (hr_gV kM_X3_114 kI_X1_byteAt kS_X1_byteAt kN_X1 kC_X1_byteAt) rfl rfl rfl (by decide +kernel) ⟨Nat.le_of_ble_eq_true rfl, Nat.le_of_ble_eq_true rfl⟩) (show un (S 5 0 (un k)) < 202 by omega) rfl rfl rfl (Nat.le_of_ble_eq_true rfl) dX3_poke_45 ⟨Nat.le_of_ble_eq_true rfl, Nat.le_of_ble_eq_true rfl⟩ (fun r10 S11 h12 => ?_) rfl
      refine hr_tp (y := hr_by (S 7 (un (S 5 0 (un k)))) (un j)) h12.1 ?_
      refine hr_st (S1 := S) h12.2 ?_
      refine hr_istore C [(5, .int (hr_by (S 7 (un (S 5 0 (un k)))) (un j))), (4, .ref (hr_ad E 6 (un (S 5 0 (un k))))), (0, .ref (hr_ad E 0 0)), (1, .int k), (2, .int j), (3, .int v)] dX3_poke_48 (by decide) rfl ?_
      refine hr_aload C dX3_poke_50 1 rfl ?_
      refine hr_iload_n C dX3_poke_52 rfl 4 rfl ?_
      refine hr_tp (y := nI (un j)) fJ.1 ?_
      refine hr_iload_n C dX3_poke_53 rfl 5 rfl ?_
      refine hr_cVv C (ct_X1_setByte l E S o (un (S 5 0 (un k))) (by omega) (un j) (by omega) v) (cwV 2 C.1.2.2.2.2 (hr_gV kM_X3_117 kI_X1_setByte kS_X1_setByte kN_X1 kC_X1_setByte) rfl rfl rfl (by decide +kernel) ⟨Nat.le_of_ble_eq_true rfl, Nat.le_of_ble_eq_true rfl⟩) (show un (S 5 0 (un k)) < 202 by omega) rfl rfl rfl (Nat.le_of_ble_eq_true rfl) dX3_poke_54 ⟨Nat.le_of_ble_eq_true rfl, Nat.le_of_ble_eq_true rfl⟩ (fun S14 h15 => ?_) rfl
      refine hr_st (S1 := (hr_w S 7 (un (S 5 0 (un k))) ((un j) / 4) (hr_sb (S 7 (un (S 5 0 (un k))) ((un j) / 4)) (un j) v))) h15 ?_
      refine hr_iload C dX3_poke_57 0 rfl ?_
      refine hr_xr ?_ (Nat.le_of_ble_eq_true rfl) (Nat.le_of_ble_eq_true rfl)
      exact hr_iret C hr dX3_poke_59 ⟨⟨rfl, rfl⟩, fK, fJ, c22, c29⟩
    · skip
      have c29n : 255 < v := Int32.not_le.mp c29
      exact hr_throw (text := "v is not 0 .. 255") C htr htab (by decide) (Or.inr (Or.inr ⟨rfl, fK, fJ, fun h => c29 h.2⟩)) kL_X3_82 kN_IllegalArgumentException (by decide) (hr_at_86 C) hr_good_86 dX3_poke_32 dX3_poke_35 dX3_poke_36 dX3_poke_38 dX3_poke_41 (Nat.le_of_ble_eq_true rfl) (Nat.le_of_ble_eq_true rfl) (Nat.le_of_ble_eq_true rfl) (Nat.le_of_ble_eq_true rfl) (Nat.le_of_ble_eq_true rfl) (Nat.le_of_ble_eq_true rfl) rfl
set_option maxHeartbeats 4000000 in
set_option maxRecDepth 100000 in
theorem ct_X3_cut (l : Launch) (htr : l.stackTraces = false) (E : hr_E) (S : hr_S) (o : Int64) (k v : Int32) (hI : hr_CI S) : hr_Xv l E yX3_cut (Cond.code yX3_cut cX3_cut 4 none :: hr_W) ({ frames := 7, cells := 2, slots := 12, locals := 111 } : Room) [.ref (hr_ad E 0 0), .int k, .int v] S o (fun u => u = hr_w S 6 (un (S 5 0 (un k))) 2 v ∧ nb k (ai_n S) ∧ (¬ v < 0 ∧ v ≤ S 6 (un (S 5 0 (un k))) 2)) (fun X => (X = "java/lang/IndexOutOfBoundsException" ∧ ¬ nb k (ai_n S)) ∨ (X = "java/lang/IllegalArgumentException" ∧ nb k (ai_n S) ∧ ¬ (¬ v < 0 ∧ v ≤ S 6 (un (S 5 0 (un k))) 2))) 2 12 := by
  refine hr_ofX (by decide) (Nat.le_of_ble_eq_true rfl) (fun p e s m below meth c C hr htab => ?_)
  refine hr_aload_n C dX3_cut_0 rfl 0 rfl ?_
  refine hr_iload_n C dX3_cut_1 rfl 1 rfl ?_
  refine hr_xVv C htab (ct_X3_checkPacket l htr E S o k hI) (cwV 1 C.1.2.2.2.2 (hr_gV kM_X3_98 kI_X3_checkPacket kS_X3_checkPacket kN_X3 kC_X3_checkPacket) rfl rfl rfl (by decide +kernel) ⟨Nat.le_of_ble_eq_true rfl, Nat.le_of_ble_eq_true rfl⟩) (by decide) rfl rfl rfl (Nat.le_of_ble_eq_true rfl) dX3_cut_2 ⟨Nat.le_of_ble_eq_true rfl, Nat.le_of_ble_eq_true rfl⟩ ⟨Nat.le_of_ble_eq_true rfl, Nat.le_of_ble_eq_true rfl⟩ (fun X h => Or.inl h) (fun S2 h3 => ?_) rfl
  obtain ⟨h3, fK⟩ := h3
  refine hr_st (S1 := S) h3 ?_
  have hn2 : ai_n S < 201 := hI.1.2
  have hK := fK.2
  have hj2 := (hI.2.1 (un k) (by omega)).2
  have hlen := (hI.2.2.2.1 (un (S 5 0 (un k))) (by omega)).2.2.2
  refine hr_aload_n C dX3_cut_5 rfl 0 rfl ?_
  refine hr_get (k := 0) (i := 0) (fld := 2) C (by decide) rfl rfl (by decide) kU_X3 kF_X3_22 rfl rfl dX3_cut_6 ?_
  refine hr_iload_n C dX3_cut_9 rfl 1 rfl ?_
  refine hr_tp (y := nI (un k)) fK.1 ?_
  refine hr_cVr C (ct_X0_at l E S o (un k) (by omega) (hI.2.1 (un k) (by omega))) (cwV 1 C.1.2.2.2.2 (hr_gV kM_X3_104 kI_X0_at kS_X0_at kN_X0 kC_X0_at) rfl rfl rfl (by decide +kernel) ⟨Nat.le_of_ble_eq_true rfl, Nat.le_of_ble_eq_true rfl⟩) (by decide) rfl rfl rfl (Nat.le_of_ble_eq_true rfl) dX3_cut_10 ⟨Nat.le_of_ble_eq_true rfl, Nat.le_of_ble_eq_true rfl⟩ (fun S5 h6 => ?_) rfl
  refine hr_st (S1 := S) h6 ?_
  refine hr_astore_n C [(3, .ref (hr_ad E 6 (un (S 5 0 (un k))))), (0, .ref (hr_ad E 0 0)), (1, .int k), (2, .int v)] dX3_cut_13 rfl (by decide) rfl ?_
  refine hr_iload_n C dX3_cut_14 rfl 3 rfl ?_
  refine hr_if_lt C 26 dX3_cut_15 (by decide) (fun c15 => ?_) (fun c15 => ?_)
  · skip
    have c15n : ¬ 0 ≤ v := Int32.not_le.mpr c15
    exact hr_throw (text := "the packet has not so many bytes") C htr htab (by decide) (Or.inr ⟨rfl, fK, fun h => h.1 c15⟩) kL_X3_82 kN_IllegalArgumentException (by decide) (hr_at_86 C) hr_good_86 dX3_cut_26 dX3_cut_29 dX3_cut_30 dX3_cut_32 dX3_cut_35 (Nat.le_of_ble_eq_true rfl) (Nat.le_of_ble_eq_true rfl) (Nat.le_of_ble_eq_true rfl) (Nat.le_of_ble_eq_true rfl) (Nat.le_of_ble_eq_true rfl) (Nat.le_of_ble_eq_true rfl) rfl
  · skip
    have c15n : 0 ≤ v := Int32.not_lt.mp c15
    refine hr_iload_n C dX3_cut_18 rfl 3 rfl ?_
    refine hr_aload_n C dX3_cut_19 rfl 0 rfl ?_
    refine hr_get (k := 6) (i := un (S 5 0 (un k))) (fld := 2) C (show un (S 5 0 (un k)) < 202 by omega) rfl rfl (by decide) kU_X1 kF_X3_120 rfl rfl dX3_cut_20 ?_
    refine hr_icmp_le C 36 dX3_cut_23 (by decide) (fun c23 => ?_) (fun c23 => ?_)
    · skip
      have c23n : ¬ (S 6 (un (S 5 0 (un k))) 2) < v := Int32.not_lt.mpr c23
      refine hr_aload_n C dX3_cut_36 rfl 0 rfl ?_
      refine hr_iload_n C dX3_cut_37 rfl 3 rfl ?_
      refine hr_put (k := 6) (i := un (S 5 0 (un k))) (fld := 2) C (show un (S 5 0 (un k)) < 202 by omega) rfl rfl (by decide) kU_X1 kF_X3_120 rfl tyX1 tyX1_ok nmX1 rfl (by decide +kernel) (Nat.le_of_ble_eq_true rfl) (by simp [hr_cell, hr_w, hr_wA, upd]) rfl dX3_cut_38 ?_
      refine hr_xr ?_ (Nat.le_of_ble_eq_true rfl) (Nat.le_of_ble_eq_true rfl)
      exact hr_vret C hr dX3_cut_41 ⟨rfl, fK, c15, c23⟩
    · skip
      have c23n : (S 6 (un (S 5 0 (un k))) 2) < v := Int32.not_le.mp c23
      exact hr_throw (text := "the packet has not so many bytes") C htr htab (by decide) (Or.inr ⟨rfl, fK, fun h => c23 h.2⟩) kL_X3_82 kN_IllegalArgumentException (by decide) (hr_at_86 C) hr_good_86 dX3_cut_26 dX3_cut_29 dX3_cut_30 dX3_cut_32 dX3_cut_35 (Nat.le_of_ble_eq_true rfl) (Nat.le_of_ble_eq_true rfl) (Nat.le_of_ble_eq_true rfl) (Nat.le_of_ble_eq_true rfl) (Nat.le_of_ble_eq_true rfl) (Nat.le_of_ble_eq_true rfl) rfl
def cl_pkt (S : hr_S) (p9 : Nat) (j : Int32) : Int32 := if j = -3 then S 6 p9 0 else if j = -2 then S 6 p9 1 else if j = -1 then S 6 p9 2 else hr_by (S 7 p9) (un j)
set_option maxHeartbeats 4000000 in
set_option maxRecDepth 100000 in
theorem ct_X3_packet (l : Launch) (htr : l.stackTraces = false) (E : hr_E) (S : hr_S) (o : Int64) (k j : Int32) (hI : hr_CI S) : hr_Xi l E yX3_packet (Cond.code yX3_packet cX3_packet 4 (some .int) :: hr_W) ({ frames := 7, cells := 2, slots := 12, locals := 111 } : Room) [.ref (hr_ad E 0 0), .int k, .int j] S o (fun r u => (r = cl_pkt S (un (S 5 0 (un k))) j ∧ u = S) ∧ nb k (ai_n S) ∧ (¬ j = -3 → ¬ j = -2 → ¬ j = -1 → nb j (un (S 6 (un (S 5 0 (un k))) 2)))) (fun X => (X = "java/lang/IndexOutOfBoundsException" ∧ ¬ nb k (ai_n S)) ∨ (X = "java/lang/IndexOutOfBoundsException" ∧ nb k (ai_n S) ∧ ¬ j = -3 ∧ ¬ j = -2 ∧ ¬ j = -1 ∧ ¬ nb j (un (S 6 (un (S 5 0 (un k))) 2)))) 2 12 := by
  refine hr_ofX (by decide) (Nat.le_of_ble_eq_true rfl) (fun p e s m below meth c C hr htab => ?_)
  refine hr_aload_n C dX3_packet_0 rfl 0 rfl ?_
  refine hr_iload_n C dX3_packet_1 rfl 1 rfl ?_
  refine hr_xVv C htab (ct_X3_checkPacket l htr E S o k hI) (cwV 1 C.1.2.2.2.2 (hr_gV kM_X3_98 kI_X3_checkPacket kS_X3_checkPacket kN_X3 kC_X3_checkPacket) rfl rfl rfl (by decide +kernel) ⟨Nat.le_of_ble_eq_true rfl, Nat.le_of_ble_eq_true rfl⟩) (by decide) rfl rfl rfl (Nat.le_of_ble_eq_true rfl) dX3_packet_2 ⟨Nat.le_of_ble_eq_true rfl, Nat.le_of_ble_eq_true rfl⟩ ⟨Nat.le_of_ble_eq_true rfl, Nat.le_of_ble_eq_true rfl⟩ (fun X h => Or.inl h) (fun S2 h3 => ?_) rfl
  obtain ⟨h3, fK⟩ := h3
  refine hr_st (S1 := S) h3 ?_
  have hn2 : ai_n S < 201 := hI.1.2
  have hK := fK.2
  have hj2 := (hI.2.1 (un k) (by omega)).2
  have hlen := (hI.2.2.2.1 (un (S 5 0 (un k))) (by omega)).2.2.2
  refine hr_aload_n C dX3_packet_5 rfl 0 rfl ?_
  refine hr_get (k := 0) (i := 0) (fld := 2) C (by decide) rfl rfl (by decide) kU_X3 kF_X3_22 rfl rfl dX3_packet_6 ?_
  refine hr_iload_n C dX3_packet_9 rfl 1 rfl ?_
  refine hr_tp (y := nI (un k)) fK.1 ?_
  refine hr_cVr C (ct_X0_at l E S o (un k) (by omega) (hI.2.1 (un k) (by omega))) (cwV 1 C.1.2.2.2.2 (hr_gV kM_X3_104 kI_X0_at kS_X0_at kN_X0 kC_X0_at) rfl rfl rfl (by decide +kernel) ⟨Nat.le_of_ble_eq_true rfl, Nat.le_of_ble_eq_true rfl⟩) (by decide) rfl rfl rfl (Nat.le_of_ble_eq_true rfl) dX3_packet_10 ⟨Nat.le_of_ble_eq_true rfl, Nat.le_of_ble_eq_true rfl⟩ (fun S5 h6 => ?_) rfl
  refine hr_st (S1 := S) h6 ?_
  refine hr_astore_n C [(3, .ref (hr_ad E 6 (un (S 5 0 (un k))))), (0, .ref (hr_ad E 0 0)), (1, .int k), (2, .int j)] dX3_packet_13 rfl (by decide) rfl ?_
  refine hr_iload_n C dX3_packet_14 rfl 3 rfl ?_
  refine hr_bipush (v := (-3)) C dX3_packet_15 (by decide) ?_
  refine hr_icmp_ne C 25 dX3_packet_17 (by decide) (fun c17 => ?_) (fun c17 => ?_)
  · skip
    refine hr_iload_n C dX3_packet_25 rfl 3 rfl ?_
    refine hr_bipush (v := (-2)) C dX3_packet_26 (by decide) ?_
    refine hr_icmp_ne C 36 dX3_packet_28 (by decide) (fun c28 => ?_) (fun c28 => ?_)
    · skip
      refine hr_iload_n C dX3_packet_36 rfl 3 rfl ?_
      refine hr_iconst (v := (-1)) C dX3_packet_37 (by decide) ?_
      refine hr_icmp_ne C 46 dX3_packet_38 (by decide) (fun c38 => ?_) (fun c38 => ?_)
      · skip
        refine hr_aload_n C dX3_packet_46 rfl 0 rfl ?_
        refine hr_iload_n C dX3_packet_47 rfl 3 rfl ?_
        refine hr_xSv C htab (ct_X3_checkByte l htr E S o (un (S 5 0 (un k))) (by omega) j ((hI.2.2.2.1 (un (S 5 0 (un k))) (by omega)).2.2)) (cwS 2 C.1.2.2.2.2 (hr_gS kM_X3_108 kT_X3_checkByte kN_X3 kC_X3_checkByte) rfl rfl rfl (by decide +kernel) ⟨Nat.le_of_ble_eq_true rfl, Nat.le_of_ble_eq_true rfl⟩) rfl (Nat.le_of_ble_eq_true rfl) dX3_packet_48 ⟨Nat.le_of_ble_eq_true rfl, Nat.le_of_ble_eq_true rfl⟩ ⟨Nat.le_of_ble_eq_true rfl, Nat.le_of_ble_eq_true rfl⟩ (fun X h => Or.inr ⟨h.1, fK, c17, c28, c38, h.2⟩) (fun S8 h9 => ?_) rfl
        obtain ⟨h9, fJ⟩ := h9
        refine hr_st (S1 := S) h9 ?_
        have hJ := fJ.2
        refine hr_aload_n C dX3_packet_51 rfl 0 rfl ?_
        refine hr_iload_n C dX3_packet_52 rfl 3 rfl ?_
        refine hr_tp (y := nI (un j)) fJ.1 ?_
        refine hr_cVi C (ct_X1_byteAt l E S o (un (S 5 0 (un k))) (by omega) (un j) (by omega)) (cwV 1 C.1.2.2.2.2 (hr_gV kM_X3_114 kI_X1_byteAt kS_X1_byteAt kN_X1 kC_X1_byteAt) rfl rfl rfl (by decide +kernel) ⟨Nat.le_of_ble_eq_true rfl, Nat.le_of_ble_eq_true rfl⟩) (show un (S 5 0 (un k)) < 202 by omega) rfl rfl rfl (Nat.le_of_ble_eq_true rfl) dX3_packet_53 ⟨Nat.le_of_ble_eq_true rfl, Nat.le_of_ble_eq_true rfl⟩ (fun r10 S11 h12 => ?_) rfl
        refine hr_tp (y := hr_by (S 7 (un (S 5 0 (un k)))) (un j)) h12.1 ?_
        refine hr_st (S1 := S) h12.2 ?_
        refine hr_xr ?_ (Nat.le_of_ble_eq_true rfl) (Nat.le_of_ble_eq_true rfl)
        exact hr_iret C hr dX3_packet_56 ⟨⟨by unfold cl_pkt; rw [if_neg c17, if_neg c28, if_neg c38], rfl⟩, fK, fun _ _ _ => fJ⟩
      · skip
        refine hr_aload_n C dX3_packet_41 rfl 0 rfl ?_
        refine hr_get (k := 6) (i := un (S 5 0 (un k))) (fld := 2) C (show un (S 5 0 (un k)) < 202 by omega) rfl rfl (by decide) kU_X1 kF_X3_120 rfl rfl dX3_packet_42 ?_
        refine hr_xr ?_ (Nat.le_of_ble_eq_true rfl) (Nat.le_of_ble_eq_true rfl)
        exact hr_iret C hr dX3_packet_45 ⟨⟨by unfold cl_pkt; rw [if_neg c17, if_neg c28, if_pos c38], rfl⟩, fK, fun _ _ h => absurd c38 h⟩
    · skip
      refine hr_aload_n C dX3_packet_31 rfl 0 rfl ?_
      refine hr_get (k := 6) (i := un (S 5 0 (un k))) (fld := 1) C (show un (S 5 0 (un k)) < 202 by omega) rfl rfl (by decide) kU_X1 kF_X3_128 rfl rfl dX3_packet_32 ?_
      refine hr_xr ?_ (Nat.le_of_ble_eq_true rfl) (Nat.le_of_ble_eq_true rfl)
      exact hr_iret C hr dX3_packet_35 ⟨⟨by unfold cl_pkt; rw [if_neg c17, if_pos c28], rfl⟩, fK, fun _ h _ => absurd c28 h⟩
  · skip
    refine hr_aload_n C dX3_packet_20 rfl 0 rfl ?_
    refine hr_get (k := 6) (i := un (S 5 0 (un k))) (fld := 0) C (show un (S 5 0 (un k)) < 202 by omega) rfl rfl (by decide) kU_X1 kF_X3_125 rfl rfl dX3_packet_21 ?_
    refine hr_xr ?_ (Nat.le_of_ble_eq_true rfl) (Nat.le_of_ble_eq_true rfl)
    exact hr_iret C hr dX3_packet_24 ⟨⟨by unfold cl_pkt; rw [if_pos c17], rfl⟩, fK, fun h _ _ => absurd c17 h⟩
def cl_route (S : hr_S) (a b w : Int32) : Int32 := if a = b then (if un w = 0 then 0 else -1) else tb_read S (un a) (un b) (un w)
set_option maxHeartbeats 4000000 in
set_option maxRecDepth 100000 in
theorem ct_X3_route (l : Launch) (htr : l.stackTraces = false) (E : hr_E) (S : hr_S) (o : Int64) (a b w9 : Int32) (hI : hr_CI S) : hr_Xi l E yX3_route (Cond.code yX3_route cX3_route 4 (some .int) :: hr_W) ({ frames := 7, cells := 3, slots := 18, locals := 110 } : Room) [.ref (hr_ad E 0 0), .int a, .int b, .int w9] S o (fun r u => (r = cl_route S a b w9 ∧ u = S) ∧ nb a 8 ∧ nb b 8 ∧ nb w9 5) (fun X => X = "java/lang/IndexOutOfBoundsException" ∧ ¬ (nb a 8 ∧ nb b 8 ∧ nb w9 5)) 3 18 := by
  refine hr_ofX (by decide) (Nat.le_of_ble_eq_true rfl) (fun p e s m below meth c C hr htab => ?_)
  refine hr_iload_n C dX3_route_0 rfl 1 rfl ?_
  refine hr_xSv C htab (ct_X3_checkRouter l htr E S o a) (cwS 1 C.1.2.2.2.2 (hr_gS kM_X3_60 kT_X3_checkRouter kN_X3 kC_X3_checkRouter) rfl rfl rfl (by decide +kernel) ⟨Nat.le_of_ble_eq_true rfl, Nat.le_of_ble_eq_true rfl⟩) rfl (Nat.le_of_ble_eq_true rfl) dX3_route_1 ⟨Nat.le_of_ble_eq_true rfl, Nat.le_of_ble_eq_true rfl⟩ ⟨Nat.le_of_ble_eq_true rfl, Nat.le_of_ble_eq_true rfl⟩ (fun X h => ⟨h.1, fun z => h.2 z.1⟩) (fun S2 h3 => ?_) rfl
  obtain ⟨h3, fA⟩ := h3
  refine hr_st (S1 := S) h3 ?_
  refine hr_iload_n C dX3_route_4 rfl 2 rfl ?_
  refine hr_xSv C htab (ct_X3_checkRouter l htr E S o b) (cwS 1 C.1.2.2.2.2 (hr_gS kM_X3_60 kT_X3_checkRouter kN_X3 kC_X3_checkRouter) rfl rfl rfl (by decide +kernel) ⟨Nat.le_of_ble_eq_true rfl, Nat.le_of_ble_eq_true rfl⟩) rfl (Nat.le_of_ble_eq_true rfl) dX3_route_5 ⟨Nat.le_of_ble_eq_true rfl, Nat.le_of_ble_eq_true rfl⟩ ⟨Nat.le_of_ble_eq_true rfl, Nat.le_of_ble_eq_true rfl⟩ (fun X h => ⟨h.1, fun z => h.2 z.2.1⟩) (fun S5 h6 => ?_) rfl
  obtain ⟨h6, fB⟩ := h6
  refine hr_st (S1 := S) h6 ?_
  have hA := fA.2
  have hB := fB.2
  refine hr_iload_n C dX3_route_8 rfl 3 rfl ?_
  refine hr_if_lt C 17 dX3_route_9 (by decide) (fun c9 => ?_) (fun c9 => ?_)
  · skip
    have c9n : ¬ 0 ≤ w9 := Int32.not_le.mpr c9
    exact hr_throw (text := "no such what") C htr htab (by decide) ⟨rfl, fun h => nb_lt0 c9 (by decide) h.2.2⟩ kL_X3_131 kN_IndexOutOfBoundsException (by decide) (hr_at_135 C) hr_good_135 dX3_route_17 dX3_route_20 dX3_route_21 dX3_route_23 dX3_route_26 (Nat.le_of_ble_eq_true rfl) (Nat.le_of_ble_eq_true rfl) (Nat.le_of_ble_eq_true rfl) (Nat.le_of_ble_eq_true rfl) (Nat.le_of_ble_eq_true rfl) (Nat.le_of_ble_eq_true rfl) rfl
  · skip
    have c9n : 0 ≤ w9 := Int32.not_lt.mp c9
    refine hr_iload_n C dX3_route_12 rfl 3 rfl ?_
    refine hr_iconst (v := 4) C dX3_route_13 (by decide) ?_
    refine hr_icmp_le C 27 dX3_route_14 (by decide) (fun c14 => ?_) (fun c14 => ?_)
    · skip
      have c14n : ¬ 4 < w9 := Int32.not_lt.mpr c14
      have fW : nb w9 5 := nb_le (N := 4) c9 c14 rfl (by decide)
      have hW := fW.2
      refine hr_iload_n C dX3_route_27 rfl 1 rfl ?_
      refine hr_tp (y := nI (un a)) fA.1 ?_
      refine hr_iload_n C dX3_route_28 rfl 2 rfl ?_
      refine hr_tp (y := nI (un b)) fB.1 ?_
      refine hr_icmp_ne C 42 dX3_route_29 (by decide) (fun c29 => ?_) (fun c29 => ?_)
      · skip
        have c29 : ¬ (un a) = (un b) := fun h => c29 ((nI_eq (a := (un a)) (b := (un b)) (by omega) (by omega)).mpr h)
        refine hr_aload_n C dX3_route_42 rfl 0 rfl ?_
        refine hr_get (k := 0) (i := 0) (fld := 1) C (by decide) rfl rfl (by decide) kU_X3 kF_X3_15 rfl rfl dX3_route_43 ?_
        refine hr_iload_n C dX3_route_46 rfl 1 rfl ?_
        refine hr_tp (y := nI (un a)) fA.1 ?_
        refine hr_aald (k := 2) (i := 0) (t0 := 4) (k2 := 8) (un a) C (by decide) rfl rfl rfl (show un a < 8 by omega) (by decide) dX3_route_47 ?_
        refine hr_iload_n C dX3_route_48 rfl 2 rfl ?_
        refine hr_tp (y := nI (un b)) fB.1 ?_
        refine hr_iload_n C dX3_route_49 rfl 3 rfl ?_
        refine hr_tp (y := nI (un w9)) fW.1 ?_
        refine hr_cVi C (ct_X2_read l E S o (un a) (by omega) (un b) (by omega) (un w9) (by omega)) (cwV 2 C.1.2.2.2.2 (hr_gV kM_X3_136 kI_X2_read kS_X2_read kN_X2 kC_X2_read) rfl rfl rfl (by decide +kernel) ⟨Nat.le_of_ble_eq_true rfl, Nat.le_of_ble_eq_true rfl⟩) (show un a < 8 by omega) rfl rfl rfl (Nat.le_of_ble_eq_true rfl) dX3_route_50 ⟨Nat.le_of_ble_eq_true rfl, Nat.le_of_ble_eq_true rfl⟩ (fun r7 S8 h9 => ?_) rfl
        refine hr_tp (y := tb_read S (un a) (un b) (un w9)) h9.1 ?_
        refine hr_st (S1 := S) h9.2 ?_
        refine hr_xr ?_ (Nat.le_of_ble_eq_true rfl) (Nat.le_of_ble_eq_true rfl)
        exact hr_iret C hr dX3_route_53 ⟨⟨by unfold cl_route; rw [if_neg (fun h => c29 (by rw [h]))], rfl⟩, fA, fB, nb_le (N := 4) c9 c14 rfl (by decide)⟩
      · skip
        have c29 : (un a) = (un b) := (nI_eq (a := (un a)) (b := (un b)) (by omega) (by omega)).mp c29
        refine hr_iload_n C dX3_route_32 rfl 3 rfl ?_
        refine hr_tp (y := nI (un w9)) fW.1 ?_
        refine hr_if_ne C 40 dX3_route_33 (by decide) (fun c33 => ?_) (fun c33 => ?_)
        · skip
          have c33 : ¬ (un w9) = 0 := fun h => c33 ((nI_eq (a := (un w9)) (b := 0) (by omega) (by omega)).mpr h)
          refine hr_iconst (v := (-1)) C dX3_route_40 (by decide) ?_
          refine hr_xr ?_ (Nat.le_of_ble_eq_true rfl) (Nat.le_of_ble_eq_true rfl)
          exact hr_iret C hr dX3_route_41 ⟨⟨by unfold cl_route; rw [if_pos (un_inj fA fB c29)]; rw [if_neg c33], rfl⟩, fA, fB, nb_le (N := 4) c9 c14 rfl (by decide)⟩
        · skip
          have c33 : (un w9) = 0 := (nI_eq (a := (un w9)) (b := 0) (by omega) (by omega)).mp c33
          refine hr_iconst (v := 0) C dX3_route_36 (by decide) ?_
          refine hr_goto C 41 dX3_route_37 (by decide) ?_
          refine hr_xr ?_ (Nat.le_of_ble_eq_true rfl) (Nat.le_of_ble_eq_true rfl)
          exact hr_iret C hr dX3_route_41 ⟨⟨by unfold cl_route; rw [if_pos (un_inj fA fB c29)]; rw [if_pos c33], rfl⟩, fA, fB, nb_le (N := 4) c9 c14 rfl (by decide)⟩
    · skip
      have c14n : 4 < w9 := Int32.not_le.mp c14
      exact hr_throw (text := "no such what") C htr htab (by decide) ⟨rfl, fun h => nb_nle (N := 4) c14 rfl (by decide) h.2.2⟩ kL_X3_131 kN_IndexOutOfBoundsException (by decide) (hr_at_135 C) hr_good_135 dX3_route_17 dX3_route_20 dX3_route_21 dX3_route_23 dX3_route_26 (Nat.le_of_ble_eq_true rfl) (Nat.le_of_ble_eq_true rfl) (Nat.le_of_ble_eq_true rfl) (Nat.le_of_ble_eq_true rfl) (Nat.le_of_ble_eq_true rfl) (Nat.le_of_ble_eq_true rfl) rfl
end
section
theorem zz_end : True := trivial
end
