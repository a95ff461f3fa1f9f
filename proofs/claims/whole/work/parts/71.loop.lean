/-! THE CLAIM OUT OF ONE WALK OF THE LAW'S BODY. Your part is whole_start (and what it stands on); all else here is the same for every law, but numbers. -/
def R_law : String := "HopRoutersLaw"
def lw_P (b : Addr) (xs : List Int32) (args : Array Value) (s : State) : Prop := args = #[.ref b] ∧ s.IntsAt b xs ∧ xs.length ≤ 2048 ∧ (Jvm.Cond.and given_1 narrow_1).before args s = true
def lw_Q (_ : Array Value) (s : State) (o : Outcome) (t : State) : Prop := o = .returned (some (.int 1)) ∧ Framed s o t [] 601024 7293034
def lw_Z (below : List Frame) (a : Array Value) (s : State) : State → Prop := fun t => ∃ o, t.status = .running ∧ Ended t below o ∧ lw_Q a s o t
/-- the law's own end, with 1 on the stack, nothing written that was there before, its room as the claim has it -/
theorem lw_ret {p : Program} {l : Launch} {e : Env} {s : State} {m : MethodId} {below : List Frame} {meth : Method} {c : Code} {b : Nat} (hx : p.tables.exec = Jvm.exec) (hb : c.code = code) (hr : meth.sig.returnType = ret) (hlocks : meth.locks = false) {pc : Nat} {H : Heap} {ls : Array Slot} (hdg : decode code pc = .ok (.ireturn, 1)) : W p l e room_1 s m #[Value.ref b] below meth c H [] 601024 7293034 (lw_Z below #[Value.ref b] s) (F0 m pc ls [.int 1]) := by
  intro T hT X
  obtain ⟨fs, hret, hrun, hended, hW, hframe⟩ := X.leave (v := some (.int 1)) (hlocks := hlocks) (fun h => by rw [hr] at h; cases h)
  have hmeth' : T.vm.method? m = some meth := X.method'
  refine ⟨T.setFrames fs, ?_, .returned (some (.int 1)), hrun, hended, rfl, ⟨_, rfl⟩, hW, hframe⟩
  jvm_step X.here [X.here.top, hx, hb, hdg, hmeth', hr, ret, narrow_b1]
  (try refine ⟨rfl, ?_⟩); (try refine ⟨rfl, ?_⟩)
  first | (intro acts; rw [hret _ acts rfl rfl rfl]) | rw [hret _ _ rfl rfl rfl]
  exact Steps.refl _
/-- what holds at the law's entry: the machine, the code, the tables' words (any of lw_tbl by 'hts w (by decide +kernel)'), the script of L ints xs at the cell b, what the Statement gives of the start (any of its parts by flat_of_before) -/
def lw_At (p : Program) (s : State) (m : MethodId) (meth : Method) (c : Code) (b L : Nat) (xs : Nat → Int32) : Prop :=
  p.tables.exec = Jvm.exec ∧ c.code = code ∧ meth.sig.returnType = ret ∧ c.maxLocals = 7 ∧ s.vm.findClass R_law = some m.cls ∧ (∀ w ∈ lw_tbl, w.before #[Value.ref b] s = true) ∧ va_X b L xs s s.heap ∧ b < s.heap.size ∧ meth.locks = false ∧ (Jvm.Cond.and given_1 narrow_1).before #[Value.ref b] s = true
theorem hr_and15 (x : Int32) : ∃ j, j < 16 ∧ (x &&& 15) = nI j := by
  refine ⟨(x &&& 15).toBitVec.toNat, ?_, ?_⟩
  · rw [Int32.toBitVec_and, BitVec.toNat_and]
    exact Nat.lt_of_le_of_lt Nat.and_le_right (by decide)
  · apply Int32.toBitVec_inj.mp
    apply BitVec.eq_of_toNat_eq
    show _ = (Int32.ofNat _).toBitVec.toNat
    rw [Int32.toBitVec_ofNat']
    simp
theorem hr_room4 {L t : Nat} (hL : L ≤ 2048) (h4 : 4 * t ≤ L) (h : ¬ (nI L - 4 < nI (4 * t))) : 4 * t + 4 ≤ L := by
  by_cases h1 : 4 ≤ L
  · have e : nI L - 4 = nI (L - 4) := pk_sub (a := L) (b := 4) h1
    rw [e] at h
    have h5 : ¬ (L - 4 < 4 * t) := fun z => h ((nI_ltI (a := L - 4) (b := 4 * t) (by omega) (by omega)).mpr z)
    omega
  · exfalso
    have ht : t = 0 := by omega
    subst ht
    rcases (show L = 0 ∨ L = 1 ∨ L = 2 ∨ L = 3 by omega) with rfl | rfl | rfl | rfl <;> exact h (by decide)
set_option maxHeartbeats 4000000 in
set_option maxRecDepth 100000 in
/-- the law's loop: at its head the class and the model agree -/
theorem law_loop {p : Program} {l : Launch} {e : Env} {s : State} {m : MethodId} {below : List Frame} {meth : Method} {c : Code} {E : hr_E} {b L : Nat} {xs : Nat → Int32} (htr : l.stackTraces = false) (C0 : lw_At p s m meth c b L xs) (C : hr_C p s m #[Value.ref b] meth c cL_law RL (Cond.initialized RL) 7 E) (hbA : ¬ hr_A E b) (hA : ∀ q, hr_A E q → s.heap.size ≤ q) (hL : L ≤ 2048) :
    ∀ (n t : Nat) (S : hr_S) (o : Int64), 4 * t ≤ L → L + 4 ≤ 4 * t + 4 * n → hr_R S → hr_G p l e room_1 s m #[Value.ref b] below meth c (lw_Z below #[Value.ref b] s) E 7 (472 + 4 * t) (44068 + 24 * t) S o [(4, .int (nI (4 * t))), (0, .ref b), (1, .ref (hr_ad E 0 0)), (2, .ref (hr_ad E 14 0)), (3, .ref (hr_ad E 27 0))] 23 [] := by
  obtain ⟨hx, hb, hr, hml, hown, hts, hX, hbl, hlocks, hgv⟩ := id C0
  intro n
  induction n with
  | zero => intro t S o h1 h2; omega
  | succ n ih =>
    intro t S o h1 h2 hR
    have K : ∀ (S2 : hr_S) (o2 : Int64), hr_R S2 → 4 * t + 4 ≤ L → hr_G p l e room_1 s m #[Value.ref b] below meth c (lw_Z below #[Value.ref b] s) E 7 (472 + 4 * t + 4) (44068 + 24 * t + 24) S2 o2 [(4, .int (nI (4 * t))), (0, .ref b), (1, .ref (hr_ad E 0 0)), (2, .ref (hr_ad E 14 0)), (3, .ref (hr_ad E 27 0))] 1074 [] := by
      intro S2 o2 h9 hlt
      refine hr_iinc (v := nI (4 * (t + 1))) C [(4, .int (nI (4 * (t + 1)))), (0, .ref b), (1, .ref (hr_ad E 0 0)), (2, .ref (hr_ad E 14 0)), (3, .ref (hr_ad E 27 0))] dL_law_1074 0 rfl (nI_add (4 * t) 4) (by decide) rfl ?_
      refine hr_goto C 23 dL_law_1077 (by decide) ?_
      exact ih (t + 1) S2 o2 (by omega) (by omega) h9
    refine hr_iload C dL_law_23 0 rfl ?_
    refine hr_aload_n C dL_law_25 rfl 1 rfl ?_
    refine hr_slen C hX hbl hbA dL_law_26 ?_
    refine hr_iconst (v := 4) C dL_law_27 (by decide) ?_
    refine hr_isub (v := nI L - 4) C dL_law_28 rfl ?_
    refine hr_icmp_gt C 1080 dL_law_29 (by decide) (fun c29 => ?_) (fun c29 => ?_)
    · refine hr_iconst (v := 1) C dL_law_1080 (by decide) ?_
      intro H locs ls hP hS hl
      refine va_forget (fun q hq => hA _ (hS.2.2 q hq)) ?_
      refine W.widen (k := 601024) (n := 7293034) (by omega) (by omega) ?_
      exact lw_ret hx hb hr hlocks dL_law_1081
    · have hlt := hr_room4 hL h1 c29
      have K := fun S2 o2 h9 => K S2 o2 h9 hlt
      refine hr_aload_n C dL_law_32 rfl 1 rfl ?_
      refine hr_iload C dL_law_33 0 rfl ?_
      refine hr_sld (4 * t) C hX hbl hbA rfl (by omega) (by omega) dL_law_35 ?_
      refine hr_bipush (v := 15) C dL_law_36 (by decide) ?_
      refine hr_iand (v := xs (4 * t) &&& 15) C dL_law_38 rfl ?_
      obtain ⟨j, hj16, hj⟩ := hr_and15 (xs (4 * t))
      rcases (show j = 0 ∨ j = 1 ∨ j = 2 ∨ j = 3 ∨ j = 4 ∨ j = 5 ∨ j = 6 ∨ j = 7 ∨ j = 8 ∨ j = 9 ∨ j = 10 ∨ j = 11 ∨ j = 12 ∨ j = 13 ∨ j = 14 ∨ j = 15 by omega) with rfl | rfl | rfl | rfl | rfl | rfl | rfl | rfl | rfl | rfl | rfl | rfl | rfl | rfl | rfl | rfl
      · refine hr_tp (y := nI 0) hj ?_
        refine hr_tabIn C 108 dL_law_39 (by decide) (by decide) rfl (by decide) ?_
        exact lc_link htr C hX hbl hbA hL t S o hR hlt (by omega) (by omega) K
      · refine hr_tp (y := nI 1) hj ?_
        refine hr_tabIn C 211 dL_law_39 (by decide) (by decide) rfl (by decide) ?_
        exact lc_sees htr C hX hbl hbA hL t S o hR hlt (by omega) (by omega) K
      · refine hr_tp (y := nI 2) hj ?_
        refine hr_tabIn C 279 dL_law_39 (by decide) (by decide) rfl (by decide) ?_
        exact lc_restart htr C hX hbl hbA hL t S o hR hlt (by omega) (by omega) K
      · refine hr_tp (y := nI 3) hj ?_
        refine hr_tabIn C 335 dL_law_39 (by decide) (by decide) rfl (by decide) ?_
        exact lc_ask htr C hX hbl hbA hL t S o hR hlt (by omega) (by omega) K
      · refine hr_tp (y := nI 4) hj ?_
        refine hr_tabIn C 415 dL_law_39 (by decide) (by decide) rfl (by decide) ?_
        exact lc_tick htr C hX hbl hbA hL t S o hR hlt (by omega) (by omega) K
      · refine hr_tp (y := nI 5) hj ?_
        refine hr_tabIn C 499 dL_law_39 (by decide) (by decide) rfl (by decide) ?_
        exact lc_deliver htr C hX hbl hbA hL t S o hR hlt (by omega) (by omega) K
      · refine hr_tp (y := nI 6) hj ?_
        refine hr_tabIn C 562 dL_law_39 (by decide) (by decide) rfl (by decide) ?_
        exact lc_lose htr C hX hbl hbA hL t S o hR hlt (by omega) (by omega) K
      · refine hr_tp (y := nI 7) hj ?_
        refine hr_tabIn C 618 dL_law_39 (by decide) (by decide) rfl (by decide) ?_
        exact lc_twice htr C hX hbl hbA hL t S o hR hlt (by omega) (by omega) K
      · refine hr_tp (y := nI 8) hj ?_
        refine hr_tabIn C 674 dL_law_39 (by decide) (by decide) rfl (by decide) ?_
        exact lc_poke htr C hX hbl hbA hL t S o hR hlt (by omega) (by omega) K
      · refine hr_tp (y := nI 9) hj ?_
        refine hr_tabIn C 754 dL_law_39 (by decide) (by decide) rfl (by decide) ?_
        exact lc_cut htr C hX hbl hbA hL t S o hR hlt (by omega) (by omega) K
      · refine hr_tp (y := nI 10) hj ?_
        refine hr_tabIn C 802 dL_law_39 (by decide) (by decide) rfl (by decide) ?_
        exact lc_packet htr C hX hbl hbA hL t S o hR hlt (by omega) (by omega) K
      · refine hr_tp (y := nI 11) hj ?_
        refine hr_tabIn C 870 dL_law_39 (by decide) (by decide) rfl (by decide) ?_
        exact lc_route htr C hX hbl hbA hL t S o hR hlt (by omega) (by omega) K
      · refine hr_tp (y := nI 12) hj ?_
        refine hr_tabIn C 950 dL_law_39 (by decide) (by decide) rfl (by decide) ?_
        exact lc_send htr C hX hbl hbA hL t S o hR hlt (by omega) (by omega) K
      · refine hr_tp (y := nI 13) hj ?_
        refine hr_tabIn C 1018 dL_law_39 (by decide) (by decide) rfl (by decide) ?_
        exact lc_count htr C hX hbl hbA hL t S o hR hlt (by omega) (by omega) K
      · refine hr_tp (y := nI 14) hj ?_
        refine hr_tabOut C 1074 dL_law_39 (Or.inr (by decide)) (by decide) ?_
        exact hr_wd (by omega) (by omega) (K S o hR)
      · refine hr_tp (y := nI 15) hj ?_
        refine hr_tabOut C 1074 dL_law_39 (Or.inr (by decide)) (by decide) ?_
        exact hr_wd (by omega) (by omega) (K S o hR)
set_option maxHeartbeats 4000000 in
set_option maxRecDepth 100000 in
/-- what the start gives of classes, arrays, texts -/
theorem law_K {p : Program} {s : State} {m : MethodId} {meth : Method} {c : Code} {b L : Nat} {xs : Nat → Int32} (C0 : lw_At p s m meth c b L xs) : ∃ (D : va_G) (ty : Nat → ClassId) (sf : Nat → Nat), ∀ ad : Nat → Nat → Nat, hc_K ((D, ad, ty, (fun q => s.heap.size ≤ q), sf) : hr_E) s ∧ (hr_D ((D, ad, ty, (fun q => s.heap.size ≤ q), sf) : hr_E) → hr_K ((D, ad, ty, (fun q => s.heap.size ≤ q), sf) : hr_E) s) := by
  obtain ⟨hx, hb, hr, hml, hown, hts, hX, hbl, hlocks, hgv⟩ := id C0
  have hs := flat_of_before _ hgv
  have hW : ∀ w ∈ hr_W, w.before #[Value.ref b] s = true := fun w h => hts w (List.mem_filter.mp h).1
  have hA : ∀ a : Nat, a < s.heap.size → ¬ (fun q => s.heap.size ≤ q) a := fun a h1 h2 => by have h2 : s.heap.size ≤ a := h2; omega
  obtain ⟨c0, i0, k0⟩ := u_known (C := RX0) (T := TX0) (N := 5) (n := 5) hW kU_X0 (hW _ kP_X0)
  obtain ⟨c1, i1, k1⟩ := u_known (C := RX1) (T := TX1) (N := 4) (n := 4) hW kU_X1 (hW _ kP_X1)
  obtain ⟨c2, i2, k2⟩ := u_known (C := RX2) (T := TX2) (N := 5) (n := 5) hW kU_X2 (hW _ kP_X2)
  obtain ⟨c3, i3, k3⟩ := u_known (C := RX3) (T := TX3) (N := 8) (n := 8) hW kU_X3 (hW _ kP_X3)
  obtain ⟨c4, i4, k4⟩ := u_known (C := RX4) (T := TX4) (N := 20) (n := 20) hW kU_X4 (hW _ kP_X4)
  obtain ⟨tI, uI, vI, fI, gI, hI⟩ := Cond.arrayClass_spec (hW _ kA_int)
  obtain ⟨tZ, uZ, vZ, fZ, gZ, hZ⟩ := Cond.arrayClass_spec (hW _ kA_boolean)
  obtain ⟨tJ, uJ, vJ, fJ, gJ, hJ⟩ := Cond.arrayClass_spec (hW _ kA_long)
  have oP : (Cond.arrayOver (.object "HopRouters$Packet")).before #[Value.ref b] s = true := hts _ (List.mem_append_right _ (hr_t1 (n := 32) rfl))
  have oT : (Cond.arrayOver (.object "HopRouters$Table")).before #[Value.ref b] s = true := hts _ (List.mem_append_right _ (hr_t1 (n := 24) rfl))
  obtain ⟨vP, tP, uP, eP, -, gP, hP, fP⟩ := Cond.arrayOver_spec oP
  obtain ⟨vT, tT, uT, eT, -, gT, hT, fT⟩ := Cond.arrayOver_spec oT
  obtain ⟨a51, -, -, -, w51, -⟩ := Cond.exactly_spec (args := #[Value.ref b]) (first := s) (o := none) (s := s) (idx := []) (t := .string "HopRouters" 51) (cls := "java/lang/String") (hs _ (by decide +kernel))
  obtain ⟨a84, -, -, -, w84, -⟩ := Cond.exactly_spec (args := #[Value.ref b]) (first := s) (o := none) (s := s) (idx := []) (t := .string "HopRouters" 84) (cls := "java/lang/String") (hs _ (by decide +kernel))
  obtain ⟨a87, -, -, -, w87, -⟩ := Cond.exactly_spec (args := #[Value.ref b]) (first := s) (o := none) (s := s) (idx := []) (t := .string "HopRouters" 87) (cls := "java/lang/String") (hs _ (by decide +kernel))
  obtain ⟨a89, -, -, -, w89, -⟩ := Cond.exactly_spec (args := #[Value.ref b]) (first := s) (o := none) (s := s) (idx := []) (t := .string "HopRouters" 89) (cls := "java/lang/String") (hs _ (by decide +kernel))
  obtain ⟨a112, -, -, -, w112, -⟩ := Cond.exactly_spec (args := #[Value.ref b]) (first := s) (o := none) (s := s) (idx := []) (t := .string "HopRouters" 112) (cls := "java/lang/String") (hs _ (by decide +kernel))
  obtain ⟨a123, -, -, -, w123, -⟩ := Cond.exactly_spec (args := #[Value.ref b]) (first := s) (o := none) (s := s) (idx := []) (t := .string "HopRouters" 123) (cls := "java/lang/String") (hs _ (by decide +kernel))
  obtain ⟨a133, -, -, -, w133, -⟩ := Cond.exactly_spec (args := #[Value.ref b]) (first := s) (o := none) (s := s) (idx := []) (t := .string "HopRouters" 133) (cls := "java/lang/String") (hs _ (by decide +kernel))
  obtain ⟨a159, -, -, -, w159, -⟩ := Cond.exactly_spec (args := #[Value.ref b]) (first := s) (o := none) (s := s) (idx := []) (t := .string "HopRouters" 159) (cls := "java/lang/String") (hs _ (by decide +kernel))
  obtain ⟨a161, -, -, -, w161, -⟩ := Cond.exactly_spec (args := #[Value.ref b]) (first := s) (o := none) (s := s) (idx := []) (t := .string "HopRouters" 161) (cls := "java/lang/String") (hs _ (by decide +kernel))
  obtain ⟨a163, -, -, -, w163, -⟩ := Cond.exactly_spec (args := #[Value.ref b]) (first := s) (o := none) (s := s) (idx := []) (t := .string "HopRouters" 163) (cls := "java/lang/String") (hs _ (by decide +kernel))
  obtain ⟨a165, -, -, -, w165, -⟩ := Cond.exactly_spec (args := #[Value.ref b]) (first := s) (o := none) (s := s) (idx := []) (t := .string "HopRouters" 165) (cls := "java/lang/String") (hs _ (by decide +kernel))
  refine ⟨((fun k => if k = 0 then c0 else if k = 1 then c1 else if k = 2 then c2 else if k = 3 then c3 else c4), (fun k => if k = 0 then i0 else if k = 1 then i1 else if k = 2 then i2 else if k = 3 then i3 else i4)), (fun k => if k = 0 then tI else if k = 1 then tZ else if k = 2 then tJ else if k = 3 then tP else tT), (fun k => if k = 51 then a51 else if k = 84 then a84 else if k = 87 then a87 else if k = 89 then a89 else if k = 112 then a112 else if k = 123 then a123 else if k = 133 then a133 else if k = 159 then a159 else if k = 161 then a161 else if k = 163 then a163 else if k = 165 then a165 else 0), fun ad => ?_⟩
  have hK : va_K ((fun k => if k = 0 then c0 else if k = 1 then c1 else if k = 2 then c2 else if k = 3 then c3 else c4), (fun k => if k = 0 then i0 else if k = 1 then i1 else if k = 2 then i2 else if k = 3 then i3 else i4)) vwCl [(tI, .int), (tZ, .boolean), (tJ, .long), (tP, .object "HopRouters$Packet"), (tT, .object "HopRouters$Table")] s := by
    constructor
    · intro k q hq
      match k, hq with
      | 0, hq => cases hq; exact k0
      | 1, hq => cases hq; exact k1
      | 2, hq => cases hq; exact k2
      | 3, hq => cases hq; exact k3
      | 4, hq => cases hq; exact k4
      | k + 5, hq => simp [vwCl] at hq
    · intro k q hq
      match k, hq with
      | 0, hq => cases hq; exact ⟨fun n z => ⟨fun k h => (by cases h), uI, gI, vI, hI⟩, fI⟩
      | 1, hq => cases hq; exact ⟨fun n z => ⟨fun k h => (by cases h), uZ, gZ, vZ, hZ⟩, fZ⟩
      | 2, hq => cases hq; exact ⟨fun n z => ⟨fun k h => (by cases h), uJ, gJ, vJ, hJ⟩, fJ⟩
      | 3, hq => cases hq; exact ⟨fun n z => ⟨fun k h => (by cases h), uP, gP, vP, hP⟩, uP, vP, gP, hP, eP, fP⟩
      | 4, hq => cases hq; exact ⟨fun n z => ⟨fun k h => (by cases h), uT, gT, vT, hT⟩, uT, vT, gT, hT, eT, fT⟩
      | k + 5, hq => simp at hq
  refine ⟨⟨hK, fun q h => h, va_AO.of oP, va_AO.of oT, va_Nw.of rfl (hts _ (List.mem_append_right _ (hr_t1 (n := 34) rfl))), va_Nw.of rfl (hts _ (List.mem_append_right _ (hr_t1 (n := 76) rfl)))⟩, fun hD => ⟨hK, hD, ?_, ?_, ?_, fun q h => h, ?_, ?_⟩⟩
  · exact vx_Zqof (hts _ (List.mem_append_right _ (hr_t1 (n := 171) rfl))) (hW _ kN_Throwable) (hs _ (by decide +kernel)) hA
  · exact vx_Zqof (hts _ (List.mem_append_right _ (hr_t1 (n := 173) rfl))) (hW _ kN_Throwable) (hs _ (by decide +kernel)) hA
  · intro q hq
    simp only [hr_strs, List.mem_cons, List.mem_nil_iff, or_false] at hq
    rcases hq with rfl | rfl | rfl | rfl | rfl | rfl | rfl | rfl | rfl | rfl | rfl
    · exact vk_R.of (hts _ (List.mem_append_right _ (hr_t2 (n := 9) rfl))) w51
    · exact vk_R.of (hts _ (List.mem_append_right _ (hr_t2 (n := 82) rfl))) w84
    · exact vk_R.of (hts _ (List.mem_append_right _ (hr_t2 (n := 83) rfl))) w87
    · exact vk_R.of (hts _ (List.mem_append_right _ (hr_t2 (n := 91) rfl))) w89
    · exact vk_R.of (hts _ (List.mem_append_right _ (hr_t2 (n := 238) rfl))) w112
    · exact vk_R.of (hts _ (List.mem_append_right _ (hr_t3 (n := 17) rfl))) w123
    · exact vk_R.of (hts _ (List.mem_append_right _ (hr_t3 (n := 32) rfl))) w133
    · exact vk_R.of (hts _ (List.mem_append_right _ (hr_t1 (n := 185) rfl))) w159
    · exact vk_R.of (hts _ (List.mem_append_right _ (hr_t1 (n := 221) rfl))) w161
    · exact vk_R.of (hts _ (List.mem_append_right _ (hr_t2 (n := 212) rfl))) w163
    · exact vk_R.of (hts _ (List.mem_append_right _ (hr_t2 (n := 237) rfl))) w165
  · intro w hw
    exact va_Nw.of (hr_Wx_on w hw) (hts w (List.mem_filter.mp hw).1)
  · intro q hq
    simp only [hr_nc, List.mem_cons, List.mem_nil_iff, or_false] at hq
    rcases hq with rfl | rfl | rfl
    · exact va_Nc.of (hs _ (by decide +kernel))
    · exact va_Nc.of (hs _ (by decide +kernel))
    · exact va_Nc.of (hs _ (by decide +kernel))
