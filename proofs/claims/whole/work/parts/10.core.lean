/-! THE WORLD: one heap of cells by kind and number, for the class, the reference and the law's own array.
kinds: 0 HopRouters, 1 linked, 2 tables, 3 Air, 4 places, 5 order, 6 Packet (0..199 in the air, 200 draft, 201 arriving), 7 words, 8 Table, 9 metric, 10 next, 11 age, 12 silent, 13 changed;
14 HopRoutersModel, 15 up, 16 metric, 17 next, 18 age, 19 isChanged, 20 silent, 21 from, 22 to, 23 size, 24 bytes, 25 draft, 26 coming; 27 the law's out -/
abbrev hr_S : Type := Nat → Nat → Nat → Int32
abbrev hr_E : Type := va_G × (Nat → Nat → Nat) × (Nat → ClassId) × (Nat → Prop) × (Nat → Nat)
abbrev hr_ad (E : hr_E) : Nat → Nat → Nat := E.2.1
abbrev hr_A (E : hr_E) : Nat → Prop := E.2.2.2.1
def hr_cnt (k : Nat) : Nat := if k = 6 ∨ k = 7 then 202 else if 8 ≤ k ∧ k ≤ 13 then 8 else if k < 28 then 1 else 0
def hr_ix : List (Nat × Nat) := (List.range 28).flatMap (fun k => (List.range (hr_cnt k)).map (fun i => (k, i)))
theorem hr_ix_mem {k i : Nat} (h : i < hr_cnt k) : (k, i) ∈ hr_ix := by
  have hk : k < 28 := by
    unfold hr_cnt at h
    split at h
    · omega
    · split at h
      · omega
      · split at h
        · assumption
        · omega
  exact List.mem_flatMap.mpr ⟨k, List.mem_range.mpr hk, List.mem_map.mpr ⟨i, List.mem_range.mpr h, rfl⟩⟩
theorem hr_ix_of {c : Nat × Nat} (h : c ∈ hr_ix) : c.2 < hr_cnt c.1 := by
  obtain ⟨k, -, h2⟩ := List.mem_flatMap.mp h
  obtain ⟨i, h3, rfl⟩ := List.mem_map.mp h2
  exact List.mem_range.mp h3
theorem hr_ix_nd : hr_ix.Nodup := by decide +kernel
/-- what the cell of kind k, number i holds -/
def hr_cell (E : hr_E) (S : hr_S) (o : Int64) (k i : Nat) : va_E := match k with
  | 0 => .inr (3, [.ref (hr_ad E 1 0), .ref (hr_ad E 2 0), .ref (hr_ad E 3 0), .ref (hr_ad E 6 200), .ref (hr_ad E 6 201), .int (S 0 i 5), .int (S 0 i 6), .int (S 0 i 7)])
  | 1 => .inl (E.2.2.1 1, 64, .inl (S 1 i))
  | 2 => .inl (E.2.2.1 4, 8, .inr (.inr (.inr (.inr (fun j => some (hr_ad E 8 j))))))
  | 3 => .inr (0, [.ref (hr_ad E 4 0), .ref (hr_ad E 5 0), .int (S 3 i 2), .int (S 3 i 3), .int (S 3 i 4)])
  | 4 => .inl (E.2.2.1 3, 200, .inr (.inr (.inr (.inr (fun j => some (hr_ad E 6 j))))))
  | 5 => .inl (E.2.2.1 0, 200, .inl (S 5 i))
  | 6 => .inr (1, [.int (S 6 i 0), .int (S 6 i 1), .int (S 6 i 2), .ref (hr_ad E 7 i)])
  | 7 => .inl (E.2.2.1 0, 41, .inl (S 7 i))
  | 8 => .inr (2, [.ref (hr_ad E 9 i), .ref (hr_ad E 10 i), .ref (hr_ad E 11 i), .ref (hr_ad E 12 i), .ref (hr_ad E 13 i)])
  | 9 => .inl (E.2.2.1 0, 8, .inl (S 9 i))
  | 10 => .inl (E.2.2.1 0, 8, .inl (S 10 i))
  | 11 => .inl (E.2.2.1 0, 8, .inl (S 11 i))
  | 12 => .inl (E.2.2.1 0, 8, .inl (S 12 i))
  | 13 => .inl (E.2.2.1 1, 8, .inl (S 13 i))
  | 14 => .inr (4, [.int (S 14 i 0), .int (S 14 i 1), .int (S 14 i 2), .int (S 14 i 3), .int (S 14 i 4), .ref (hr_ad E 15 0), .ref (hr_ad E 16 0), .ref (hr_ad E 17 0), .ref (hr_ad E 18 0), .ref (hr_ad E 19 0), .ref (hr_ad E 20 0), .int (S 14 i 11), .ref (hr_ad E 21 0), .ref (hr_ad E 22 0), .ref (hr_ad E 23 0), .ref (hr_ad E 24 0), .int (S 14 i 16), .ref (hr_ad E 25 0), .int (S 14 i 18), .ref (hr_ad E 26 0)])
  | 15 => .inl (E.2.2.1 1, 64, .inl (S 15 i))
  | 16 => .inl (E.2.2.1 0, 64, .inl (S 16 i))
  | 17 => .inl (E.2.2.1 0, 64, .inl (S 17 i))
  | 18 => .inl (E.2.2.1 0, 64, .inl (S 18 i))
  | 19 => .inl (E.2.2.1 1, 64, .inl (S 19 i))
  | 20 => .inl (E.2.2.1 0, 64, .inl (S 20 i))
  | 21 => .inl (E.2.2.1 0, 200, .inl (S 21 i))
  | 22 => .inl (E.2.2.1 0, 200, .inl (S 22 i))
  | 23 => .inl (E.2.2.1 0, 200, .inl (S 23 i))
  | 24 => .inl (E.2.2.1 0, 32800, .inl (S 24 i))
  | 25 => .inl (E.2.2.1 0, 164, .inl (S 25 i))
  | 26 => .inl (E.2.2.1 0, 164, .inl (S 26 i))
  | _ => .inl (E.2.2.1 2, 1, .inr (.inl (fun _ => o)))
/-- one whole row of numbers is another -/
def hr_wA (S : hr_S) (k i : Nat) (f : Nat → Int32) : hr_S := fun k' i' => if k' = k ∧ i' = i then f else S k' i'
/-- one number is another -/
def hr_w (S : hr_S) (k i j : Nat) (v : Int32) : hr_S := hr_wA S k i (upd (S k i) j v)
theorem hr_wA_self (S : hr_S) (k i : Nat) (f : Nat → Int32) : hr_wA S k i f k i = f := by simp [hr_wA]
theorem hr_wA_ne (S : hr_S) {k i k' i' : Nat} (f : Nat → Int32) (h : ¬ (k' = k ∧ i' = i)) : hr_wA S k i f k' i' = S k' i' := by simp [hr_wA, h]
theorem hr_cell_wA (E : hr_E) (S : hr_S) (o : Int64) {k i k' i' : Nat} (f : Nat → Int32) (h : ¬ (k' = k ∧ i' = i)) : hr_cell E (hr_wA S k i f) o k' i' = hr_cell E S o k' i' := by
  unfold hr_cell
  split <;> simp only [hr_wA_ne S f h]
def hr_P (E : hr_E) (S : hr_S) (o : Int64) (H : Heap) : Prop := ∀ k i, i < hr_cnt k → va_at E.1 vwCl (hr_ad E k i, hr_cell E S o k i) H
def hr_D (E : hr_E) : Prop := (∀ k i k' i', i < hr_cnt k → i' < hr_cnt k' → hr_ad E k i = hr_ad E k' i' → k = k' ∧ i = i') ∧ ∀ k i, i < hr_cnt k → hr_A E (hr_ad E k i)
def hr_tys (E : hr_E) : List (ClassId × FieldType) := [(E.2.2.1 0, .int), (E.2.2.1 1, .boolean), (E.2.2.1 2, .long), (E.2.2.1 3, .object "HopRouters$Packet"), (E.2.2.1 4, .object "HopRouters$Table")]
def hr_strs : List (Nat × String) := [(51, "the link is up"), (84, "destinations are not 1 .. 255"), (87, "the link is down"), (89, "n is not 0 .. 1000"), (112, "v is not 0 .. 255"), (123, "the packet has not so many bytes"), (133, "no such what"), (159, "no such router"), (161, "both routers are the same"), (163, "no such packet"), (165, "no such byte")]
/-- the tables' words that last but are not 'good' ones: what can be cast to what, what is declared -/
def hr_isX (w : Cond) : Bool := match w with | .castable .. => true | .declares .. => true | _ => false
def hr_Wx : List Cond := lw_tbl.filter hr_isX
theorem hr_Wx_on : ∀ w ∈ hr_Wx, w.onTables = true := by
  intro w hw
  have h := (List.mem_filter.mp hw).2
  cases w <;> first | rfl | (simp [hr_isX] at h)
theorem hr_Wx_warm {w : Cond} (hw : w ∈ hr_Wx) {s U : State} (hW : s.WarmedH U.vm) (h : va_Nw w s) : va_Nw w U := by
  have h0 := (List.mem_filter.mp hw).2
  cases w with
  | castable a b =>
    have h1 : (Cond.castable a b).before #[] (s.setVm U.vm) = true := by rw [Cond.castable_setVm hW.alike]; exact h
    exact va_tabs rfl (rfl : (s.setVm U.vm).vm = U.vm) h1
  | declares x => exact va_Nw.warmD hW h
  | _ => simp [hr_isX] at h0
theorem hr_Nc_moved {a b : String} {s U : State} (hvm : s.vm.Alike U.vm) (h : va_Nc a b s) : va_Nc a b U := by
  obtain ⟨c, t, h1, h2, h3⟩ := h
  exact ⟨c, t, by rw [hvm.findClass]; exact h1, by rw [hvm.findClass]; exact h2, by rw [hvm.assignable]; exact h3⟩
def hr_nc : List (String × String) := [("java/lang/IllegalArgumentException", "java/lang/IndexOutOfBoundsException"), ("java/lang/IllegalStateException", "java/lang/IndexOutOfBoundsException"), ("java/lang/IllegalStateException", "java/lang/IllegalArgumentException")]
def hr_K (E : hr_E) (U : State) : Prop := va_K E.1 vwCl (hr_tys E) U ∧ hr_D E ∧ vx_Zq Bundle.tN "UNASSIGNED_STACK" Bundle.steD (hr_A E) U U.heap ∧ vx_Zq Bundle.tN "SUPPRESSED_SENTINEL" Bundle.listD (hr_A E) U U.heap ∧ (∀ q ∈ hr_strs, vk_R RX3 q.1 q.2 (E.2.2.2.2 q.1) U) ∧ (∀ q, U.heap.size ≤ q → hr_A E q) ∧ (∀ w ∈ hr_Wx, va_Nw w U) ∧ ∀ q ∈ hr_nc, va_Nc q.1 q.2 U
def hr_Ok (E : hr_E) (S : hr_S) (o : Int64) (U : State) : Prop := hr_K E U ∧ hr_P E S o U.heap
theorem hr_K_moved {E : hr_E} {s U : State} {H : Heap} {locs : List Loc} (h : hr_K E s) (hW : s.WarmedH U.vm) (hS : va_S (hr_A E) s.heap H locs) (hU : U.heap = H) : hr_K E U := by
  obtain ⟨h1, h2, h3, h4, h5, h6, h7, h8⟩ := h
  refine ⟨va_K.moved hW.alike h1, h2, ?_, ?_, fun q hq => vk_R.warm hW (h5 q hq), fun q hq => h6 q (Nat.le_trans hS.1 (by rw [← hU]; exact hq)), fun w hw => hr_Wx_warm hw hW (h7 w hw), fun q hq => hr_Nc_moved hW.alike (h8 q hq)⟩
  · rw [hU]; exact vx_Zq.moved hW.alike (h3.kept hS.2.1)
  · rw [hU]; exact vx_Zq.moved hW.alike (h4.kept hS.2.1)
theorem hr_blind (E : hr_E) (S : hr_S) (o : Int64) (av : List Value) : FrameBlind (va_Pc av (hr_Ok E S o)) := by
  intro a U g mk h
  obtain ⟨h0, h1, h2⟩ := h
  exact ⟨h0, hr_K_moved (s := U) (U := U.calling g mk a) (H := U.heap) (locs := []) h1 (State.WarmedH.refl U) va_S.rf rfl, h2⟩
/-- the world as a list, for the kit's rows -/
def hr_L (E : hr_E) (S : hr_S) (o : Int64) : va_W := hr_ix.map (fun c => (hr_ad E c.1 c.2, hr_cell E S o c.1 c.2))
theorem hr_L_get (E : hr_E) (S : hr_S) (o : Int64) {k i : Nat} (h : i < hr_cnt k) : ∃ q0 : Nat, (hr_L E S o)[q0]? = some (hr_ad E k i, hr_cell E S o k i) :=
  List.getElem?_of_mem (List.mem_map.mpr ⟨(k, i), hr_ix_mem h, rfl⟩)
theorem hr_L_of {E : hr_E} {S : hr_S} {o : Int64} {n : Nat} {q : Nat × va_E} (h : (hr_L E S o)[n]? = some q) : ∃ c, hr_ix[n]? = some c ∧ q = (hr_ad E c.1 c.2, hr_cell E S o c.1 c.2) ∧ c.2 < hr_cnt c.1 := by
  unfold hr_L at h
  rw [List.getElem?_map] at h
  cases hc : hr_ix[n]? with
  | none => rw [hc] at h; cases h
  | some c => rw [hc] at h; cases h; exact ⟨c, rfl, rfl, hr_ix_of (List.mem_of_getElem? hc)⟩
theorem hr_P.list {E : hr_E} {S : hr_S} {o : Int64} {H : Heap} (h : hr_P E S o H) : va_P E.1 vwCl (hr_L E S o) H := by
  intro n q hq
  obtain ⟨c, -, rfl, hc⟩ := hr_L_of hq
  exact h c.1 c.2 hc
theorem hr_D.list {E : hr_E} (h : hr_D E) (S : hr_S) (o : Int64) : va_D (hr_A E) (hr_L E S o) := by
  refine ⟨fun i j x y hi hj hxy => ?_, fun n q hq => ?_⟩
  · obtain ⟨c, h1, rfl, hc⟩ := hr_L_of hi
    obtain ⟨d, h2, rfl, hd⟩ := hr_L_of hj
    obtain ⟨e1, e2⟩ := h.1 c.1 c.2 d.1 d.2 hc hd hxy
    have hcd : c = d := Prod.ext e1 e2
    subst hcd
    obtain ⟨l1, g1⟩ := List.getElem?_eq_some_iff.mp h1
    obtain ⟨l2, g2⟩ := List.getElem?_eq_some_iff.mp h2
    exact (List.getElem_inj hr_ix_nd).mp (g1.trans g2.symm)
  · obtain ⟨c, -, rfl, hc⟩ := hr_L_of hq
    exact h.2 c.1 c.2 hc
/-- behind a kit's row that set one cell -/
theorem hr_P_set {E : hr_E} {S S' : hr_S} {o o' : Int64} {H1 : Heap} {k i q0 : Nat} {e' : va_E} (hD : hr_D E) (hk : i < hr_cnt k) (hq : (hr_L E S o)[q0]? = some (hr_ad E k i, hr_cell E S o k i))
    (hP : va_P E.1 vwCl ((hr_L E S o).set q0 (hr_ad E k i, e')) H1) (he : hr_cell E S' o' k i = e') (ho : ∀ k' i', i' < hr_cnt k' → ¬ (k' = k ∧ i' = i) → hr_cell E S' o' k' i' = hr_cell E S o k' i') : hr_P E S' o' H1 := by
  have hl := (List.getElem?_eq_some_iff.mp hq).1
  intro k' i' hk'
  by_cases hc : k' = k ∧ i' = i
  · obtain ⟨rfl, rfl⟩ := hc
    rw [he]
    exact hP q0 _ (List.getElem?_set_self hl)
  · obtain ⟨q1, h1⟩ := hr_L_get E S o hk'
    have hne : q0 ≠ q1 := by
      intro h
      subst h
      have h2 := Option.some.inj (hq.symm.trans h1)
      have h3 : hr_ad E k i = hr_ad E k' i' := congrArg Prod.fst h2
      obtain ⟨e1, e2⟩ := hD.1 _ _ _ _ hk hk' h3
      exact hc ⟨e1.symm, e2.symm⟩
    rw [ho k' i' hk' hc]
    exact hP q1 _ (by rw [List.getElem?_set_ne hne]; exact h1)
theorem hr_P_wA {E : hr_E} {S : hr_S} {o : Int64} {H1 : Heap} {k i q0 : Nat} {e' : va_E} {f : Nat → Int32} (hD : hr_D E) (hk : i < hr_cnt k) (hq : (hr_L E S o)[q0]? = some (hr_ad E k i, hr_cell E S o k i))
    (hP : va_P E.1 vwCl ((hr_L E S o).set q0 (hr_ad E k i, e')) H1) (he : hr_cell E (hr_wA S k i f) o k i = e') : hr_P E (hr_wA S k i f) o H1 :=
  hr_P_set hD hk hq hP he (fun k' i' _ h => hr_cell_wA E S o f h)
