theorem hc_s_s (X : hc_X) (k i : Nat) (c d : Nat × va_E) : hc_s (hc_s X k i c) k i d = hc_s X k i d := by
  funext k' i'
  unfold hc_s
  by_cases h : k' = k ∧ i' = i <;> simp [h]
theorem hc_s_id {X : hc_X} {k i : Nat} {c : Nat × va_E} (h : X k i = some c) : X = hc_s X k i c := by
  funext k' i'
  unfold hc_s
  by_cases h1 : k' = k ∧ i' = i
  · obtain ⟨rfl, rfl⟩ := h1
    simp [h]
  · simp [h1]
theorem hc_ssn (X : hc_X) {k i k1 i1 : Nat} (h : ¬ (k1 = k ∧ i1 = i)) (c d c' : Nat × va_E) : hc_s (hc_s (hc_s X k i c) k1 i1 d) k i c' = hc_s (hc_s X k1 i1 d) k i c' := by
  funext k' i'
  unfold hc_s
  by_cases h1 : k' = k ∧ i' = i
  · simp [h1]
  · by_cases h2 : k' = k1 ∧ i' = i1 <;> simp [h1, h2]
theorem hc_one (X : hc_X) {k i k1 i1 : Nat} (h : ¬ (k = k1 ∧ i = i1)) (c d : Nat × va_E) : hc_s (hc_s X k i c) k1 i1 d k i = some c := by rw [hc_s_ne _ _ h, hc_s_self]
set_option maxHeartbeats 4000000 in
set_option maxRecDepth 100000 in
theorem mk_X1 (l : Launch) (E : hr_E) (X : hc_X) (i q : Nat) (hi : i < 202) (h6 : X 6 i = some (q, .inr (1, [.int 0, .int 0, .int 0, .null]))) (h7 : X 7 i = none) : hc_Mv l E yX1_init (Cond.code yX1_init cX1_init 1 none :: hr_W) ({ frames := 1, cells := 1, slots := 41, locals := 12 } : Room) [.ref q] X (fun u => ∃ q7, u = hc_s (hc_s X 7 i (q7, .inl (E.2.2.1 0, 41, .inl (fun _ => 0)))) 6 i (q, .inr (1, [.int 0, .int 0, .int 0, .ref q7]))) 1 41 := by
  refine hc_of (by decide) (Nat.le_of_ble_eq_true rfl) (fun p e s m below meth c C hr hin => ?_)
  refine hc_aload_n C dX1_init_0 rfl 0 rfl ?_
  refine hc_objInit C kM_X1_5 (Nat.le_of_ble_eq_true rfl) (Nat.le_of_ble_eq_true rfl) dX1_init_1 ?_
  refine hc_aload_n C dX1_init_4 rfl 0 rfl ?_
  refine hc_bipush (v := 41) C dX1_init_5 (by decide) ?_
  refine hc_newa (atype := .int) (ty := .int) (N' := 41) (a0 := (41, .inl (fun _ => 0))) 0 7 i C kA_int rfl rfl (fun U cA h => h) h7 (show i < 202 from hi) (fun cA => by first | rfl | (rw [vp_cell_i]; rfl) | (rw [vp_cell_l]; rfl)) (by decide) (by decide) (by decide) (Nat.le_of_ble_eq_true rfl) (Nat.le_of_ble_eq_true rfl) dX1_init_7 (fun q7 => ?_)
  refine hc_putF (k := 6) (i := i) (fld := 3) (ty := .array .int) C hin (by rw [hc_s_ne _ _ (fun h => absurd h.1 (by decide))]; exact h6) rfl (by decide) kU_X1 kF_X1_11 rfl tyX1 tyX1_ok nmX1 rfl (tyX1_ok 3 (by decide)) rfl rfl (Nat.le_of_ble_eq_true rfl) dX1_init_9 ?_
  exact hc_vret C hr dX1_init_12 ⟨q7, rfl⟩
set_option maxHeartbeats 4000000 in
set_option maxRecDepth 100000 in
theorem mk_fill (l : Launch) (E : hr_E) (X : hc_X) (k i a : Nat) (f : Nat → Int32) (v : Int32) (hX : X k i = some (a, .inl (E.2.2.1 0, 8, .inl f))) : hc_Mv l E yJ7_fill_53178 (Cond.code yJ7_fill_53178 cJ7_fill_53178 4 none :: hr_W) ({ frames := 0, cells := 0, slots := 0, locals := 0 } : Room) [.ref a, .int v] X (fun u => ∃ g : Nat → Int32, (∀ j, j < 8 → g j = v) ∧ u = hc_s X k i (a, .inl (E.2.2.1 0, 8, .inl g))) 0 0 := by
  refine hc_of (by decide) (Nat.le_of_ble_eq_true rfl) (fun p e s m below meth c C hr hin => ?_)
  refine hc_iconst (v := 0) C dJ7_fill_53178_0 (by decide) ?_
  refine hc_istore_n C [(2, .int 0), (0, .ref a), (1, .int v)] dJ7_fill_53178_1 rfl (by decide) rfl ?_
  refine hc_aload_n C dJ7_fill_53178_2 rfl 1 rfl ?_
  refine hc_alen (v := 8) C hX (by decide) dJ7_fill_53178_3 ?_
  refine hc_istore_n C [(3, .int 8), (2, .int 0), (0, .ref a), (1, .int v)] dJ7_fill_53178_4 rfl (by decide) rfl ?_
  have LP : ∀ (n j : Nat) (g : Nat → Int32), j ≤ 8 → 9 ≤ j + n → (∀ t, t < j → g t = v) → hc_G p l e ({ frames := 0, cells := 0, slots := 0, locals := 0 } : Room) s m ([.ref a, .int v] : List Value).toArray below meth c (MQ below (va_Qv (fun u => ∃ g : Nat → Int32, (∀ j, j < 8 → g j = v) ∧ u = hc_s X k i (a, .inl (E.2.2.1 0, 8, .inl g))) (fun u t => hc_P E u t.heap) (hr_A E)) ([.ref a, .int v] : List Value).toArray s 0 0 (hr_A E)) E 4 0 0 (hc_s X k i (a, .inl (E.2.2.1 0, 8, .inl g))) [(3, .int 8), (2, .int (nI j)), (0, .ref a), (1, .int v)] 5 [] := by
    intro n
    induction n with
    | zero => intro j g h1 h2; omega
    | succ n ih =>
      intro j g h1 h2 h3
      refine hc_iload_n C dJ7_fill_53178_5 rfl 1 rfl ?_
      refine hc_iload_n C dJ7_fill_53178_6 rfl 0 rfl ?_
      refine hc_icmp_ge C 20 dJ7_fill_53178_7 (by decide) (fun c7 => ?_) (fun c7 => ?_)
      · have c7 : 8 ≤ j := (nI_leI (a := 8) (b := j) (by omega) (by omega)).mp c7
        exact hc_vret C hr dJ7_fill_53178_20 ⟨g, fun t ht => h3 t (by omega), rfl⟩
      · have c7 : ¬ 8 ≤ j := fun h => c7 ((nI_leI (a := 8) (b := j) (by omega) (by omega)).mpr h)
        refine hc_aload_n C dJ7_fill_53178_10 rfl 2 rfl ?_
        refine hc_iload_n C dJ7_fill_53178_11 rfl 1 rfl ?_
        refine hc_iload_n C dJ7_fill_53178_12 rfl 3 rfl ?_
        refine hc_iast (k := k) (i := i) j C (hc_s_self _ _ _ _) rfl (by omega) (by decide) dJ7_fill_53178_13 ?_
        refine hc_x (hc_s_s _ _ _ _ _) ?_
        refine hc_iinc (v := nI (j + 1)) C [(2, .int (nI (j + 1))), (3, .int 8), (0, .ref a), (1, .int v)] dJ7_fill_53178_14 1 rfl (nI_add j 1) (by decide) rfl ?_
        refine hc_goto C 5 dJ7_fill_53178_17 (by decide) ?_
        refine hc_sub [1, 0, 2, 3] rfl ?_
        refine ih (j + 1) _ (by omega) (by omega) (fun t ht => ?_)
        unfold upd
        split
        · rfl
        · next hne => exact h3 t (by omega)
  refine hc_x (hc_s_id hX) ?_
  exact LP 9 0 f (by omega) (by omega) (fun t ht => absurd ht (by omega))
def hc_tbl (E : hr_E) (X : hc_X) (t q q9 q10 q11 q12 q13 : Nat) (g : Nat → Int32) : hc_X := hc_s (hc_s (hc_s (hc_s (hc_s (hc_s X 9 t (q9, .inl (E.2.2.1 0, 8, .inl g))) 10 t (q10, .inl (E.2.2.1 0, 8, .inl (fun _ => 0)))) 11 t (q11, .inl (E.2.2.1 0, 8, .inl (fun _ => 0)))) 12 t (q12, .inl (E.2.2.1 0, 8, .inl (fun _ => 0)))) 13 t (q13, .inl (E.2.2.1 1, 8, .inl (fun _ => 0)))) 8 t (q, .inr (2, [.ref q9, .ref q10, .ref q11, .ref q12, .ref q13]))
theorem hr_gF {c0 cy : Cond} {own : String} {idx : Nat} {y : MethodName} (h1 : Cond.methodLink own idx y ∈ hr_W) (h2 : Cond.static y ∈ hr_W) (h4 : Cond.initialized y.cls ∈ hr_W) (h5 : cy ∈ hr_W) : GoodIn (c0 :: hr_W) (va_wsS own idx y (cy :: hr_W)) := hr_gT h1 h2 h4 h5
set_option maxHeartbeats 4000000 in
set_option maxRecDepth 100000 in
theorem mk_X2 (l : Launch) (E : hr_E) (X : hc_X) (t q : Nat) (ht : t < 8) (h8 : X 8 t = some (q, .inr (2, [.null, .null, .null, .null, .null]))) (hN : ∀ k, 9 ≤ k → k ≤ 13 → X k t = none) : hc_Mv l E yX2_init (Cond.code yX2_init cX2_init 1 none :: hr_W) ({ frames := 1, cells := 5, slots := 40, locals := 23 } : Room) [.ref q] X (fun u => ∃ (q9 q10 q11 q12 q13 : Nat) (g : Nat → Int32), (∀ j, j < 8 → g j = -1) ∧ u = hc_tbl E X t q q9 q10 q11 q12 q13 g) 5 40 := by
  refine hc_of (by decide) (Nat.le_of_ble_eq_true rfl) (fun p e s m below meth c C hr hin => ?_)
  refine hc_aload_n C dX2_init_0 rfl 0 rfl ?_
  refine hc_objInit C kM_X2_3 (Nat.le_of_ble_eq_true rfl) (Nat.le_of_ble_eq_true rfl) dX2_init_1 ?_
  refine hc_aload_n C dX2_init_4 rfl 0 rfl ?_
  refine hc_bipush (v := 8) C dX2_init_5 (by decide) ?_
  refine hc_newa (atype := .int) (ty := .int) (N' := 8) (a0 := (8, .inl (fun _ => 0))) 0 9 t C kA_int rfl rfl (fun U cA h => h) (hN 9 (by decide) (by decide)) (show t < 8 from ht) (fun cA => by first | rfl | (rw [vp_cell_i]; rfl) | (rw [vp_cell_l]; rfl)) (by decide) (by decide) (by decide) (Nat.le_of_ble_eq_true rfl) (Nat.le_of_ble_eq_true rfl) dX2_init_7 (fun q9 => ?_)
  refine hc_putF (k := 8) (i := t) (fld := 0) (ty := .array .int) C hin (by rw [hc_s_ne _ _ (fun h => absurd h.1 (by decide))]; exact h8) rfl (by decide) kU_X2 kF_X2_9 rfl tyX2 tyX2_ok nmX2 rfl (tyX2_ok 0 (by decide)) rfl rfl (Nat.le_of_ble_eq_true rfl) dX2_init_9 ?_
  refine hc_aload_n C dX2_init_12 rfl 0 rfl ?_
  refine hc_bipush (v := 8) C dX2_init_13 (by decide) ?_
  refine hc_newa (atype := .int) (ty := .int) (N' := 8) (a0 := (8, .inl (fun _ => 0))) 0 10 t C kA_int rfl rfl (fun U cA h => h) (by simp [hc_s, hN 10 (by decide) (by decide)]) (show t < 8 from ht) (fun cA => by first | rfl | (rw [vp_cell_i]; rfl) | (rw [vp_cell_l]; rfl)) (by decide) (by decide) (by decide) (Nat.le_of_ble_eq_true rfl) (Nat.le_of_ble_eq_true rfl) dX2_init_15 (fun q10 => ?_)
  refine hc_putF (k := 8) (i := t) (fld := 1) (ty := .array .int) C hin (hc_one _ (fun h => absurd h.1 (by decide)) _ _) rfl (by decide) kU_X2 kF_X2_15 rfl tyX2 tyX2_ok nmX2 rfl (tyX2_ok 1 (by decide)) rfl rfl (Nat.le_of_ble_eq_true rfl) dX2_init_17 ?_
  refine hc_x (hc_ssn _ (fun h => absurd h.1 (by decide)) _ _ _) ?_
  refine hc_aload_n C dX2_init_20 rfl 0 rfl ?_
  refine hc_bipush (v := 8) C dX2_init_21 (by decide) ?_
  refine hc_newa (atype := .int) (ty := .int) (N' := 8) (a0 := (8, .inl (fun _ => 0))) 0 11 t C kA_int rfl rfl (fun U cA h => h) (by simp [hc_s, hN 11 (by decide) (by decide)]) (show t < 8 from ht) (fun cA => by first | rfl | (rw [vp_cell_i]; rfl) | (rw [vp_cell_l]; rfl)) (by decide) (by decide) (by decide) (Nat.le_of_ble_eq_true rfl) (Nat.le_of_ble_eq_true rfl) dX2_init_23 (fun q11 => ?_)
  refine hc_putF (k := 8) (i := t) (fld := 2) (ty := .array .int) C hin (hc_one _ (fun h => absurd h.1 (by decide)) _ _) rfl (by decide) kU_X2 kF_X2_18 rfl tyX2 tyX2_ok nmX2 rfl (tyX2_ok 2 (by decide)) rfl rfl (Nat.le_of_ble_eq_true rfl) dX2_init_25 ?_
  refine hc_x (hc_ssn _ (fun h => absurd h.1 (by decide)) _ _ _) ?_
  refine hc_aload_n C dX2_init_28 rfl 0 rfl ?_
  refine hc_bipush (v := 8) C dX2_init_29 (by decide) ?_
  refine hc_newa (atype := .int) (ty := .int) (N' := 8) (a0 := (8, .inl (fun _ => 0))) 0 12 t C kA_int rfl rfl (fun U cA h => h) (by simp [hc_s, hN 12 (by decide) (by decide)]) (show t < 8 from ht) (fun cA => by first | rfl | (rw [vp_cell_i]; rfl) | (rw [vp_cell_l]; rfl)) (by decide) (by decide) (by decide) (Nat.le_of_ble_eq_true rfl) (Nat.le_of_ble_eq_true rfl) dX2_init_31 (fun q12 => ?_)
  refine hc_putF (k := 8) (i := t) (fld := 3) (ty := .array .int) C hin (hc_one _ (fun h => absurd h.1 (by decide)) _ _) rfl (by decide) kU_X2 kF_X2_21 rfl tyX2 tyX2_ok nmX2 rfl (tyX2_ok 3 (by decide)) rfl rfl (Nat.le_of_ble_eq_true rfl) dX2_init_33 ?_
  refine hc_x (hc_ssn _ (fun h => absurd h.1 (by decide)) _ _ _) ?_
  refine hc_aload_n C dX2_init_36 rfl 0 rfl ?_
  refine hc_bipush (v := 8) C dX2_init_37 (by decide) ?_
  refine hc_newa (atype := .boolean) (ty := .boolean) (N' := 8) (a0 := (8, .inl (fun _ => 0))) 1 13 t C kA_boolean rfl rfl (fun U cA h => h) (by simp [hc_s, hN 13 (by decide) (by decide)]) (show t < 8 from ht) (fun cA => by first | rfl | (rw [vp_cell_i]; rfl) | (rw [vp_cell_l]; rfl)) (by decide) (by decide) (by decide) (Nat.le_of_ble_eq_true rfl) (Nat.le_of_ble_eq_true rfl) dX2_init_39 (fun q13 => ?_)
  refine hc_putF (k := 8) (i := t) (fld := 4) (ty := .array .boolean) C hin (hc_one _ (fun h => absurd h.1 (by decide)) _ _) rfl (by decide) kU_X2 kF_X2_24 rfl tyX2 tyX2_ok nmX2 rfl (tyX2_ok 4 (by decide)) rfl rfl (Nat.le_of_ble_eq_true rfl) dX2_init_41 ?_
  refine hc_x (hc_ssn _ (fun h => absurd h.1 (by decide)) _ _ _) ?_
  refine hc_aload_n C dX2_init_44 rfl 0 rfl ?_
  refine hc_get (k := 8) (i := t) (fld := 0) C (hc_s_self _ _ _ _) rfl (by decide) kU_X2 kF_X2_9 rfl rfl dX2_init_45 ?_
  refine hc_iconst (v := -1) C dX2_init_48 (by decide) ?_
  refine hc_cS (As := [.ref q9, .int (-1)]) (st := []) C (mk_fill l E _ 9 t q9 (fun _ => 0) (-1) (by simp [hc_s])) (va_cwS 2 C.1.2.2.2.2 (hr_gF (y := yJ7_fill_53178) kM_X2_28 kT_fill kN_Arrays kC_fill) rfl rfl rfl (by decide +kernel) ⟨(Nat.le_of_ble_eq_true rfl), (Nat.le_of_ble_eq_true rfl)⟩) rfl (Nat.le_of_ble_eq_true rfl) dX2_init_49 ⟨(Nat.le_of_ble_eq_true rfl), (Nat.le_of_ble_eq_true rfl)⟩ (fun X1 h1 => ?_) rfl
  obtain ⟨g, hg, rfl⟩ := h1
  refine hc_x (X2 := hc_tbl E X t q q9 q10 q11 q12 q13 g) ?_ ?_
  · funext k' i'
    unfold hc_tbl hc_s
    by_cases hi : i' = t
    · subst hi
      by_cases e8 : k' = 8
      · simp [e8]
      · by_cases e9 : k' = 9
        · simp [e9]
        · simp [e8, e9]
    · simp [hi]
  exact hc_vret C hr dX2_init_52 ⟨q9, q10, q11, q12, q13, g, hg, rfl⟩
def hc_air (E : hr_E) (X : hc_X) (q a4 a5 : Nat) (a6 a7 : Nat → Nat) (n : Nat) : hc_X := fun k i =>
  if k = 3 ∧ i = 0 then some (q, .inr (0, [.ref a4, .ref a5, .int 0, .int 0, .int 0])) else
  if k = 4 ∧ i = 0 then some (a4, .inl (E.2.2.1 3, 200, .inr (.inr (.inr (.inr (fun j => if j < n then some (a6 j) else none)))))) else
  if k = 5 ∧ i = 0 then some (a5, .inl (E.2.2.1 0, 200, .inl (fun j => if j < n then nI j else 0))) else
  if k = 6 ∧ i < n then some (a6 i, .inr (1, [.int 0, .int 0, .int 0, .ref (a7 i)])) else
  if k = 7 ∧ i < n then some (a7 i, .inl (E.2.2.1 0, 41, .inl (fun _ => 0))) else X k i
theorem hc_air_0 (E : hr_E) (X : hc_X) (q a4 a5 : Nat) (a6 a7 : Nat → Nat) : hc_s (hc_s (hc_s X 4 0 (a4, .inl (E.2.2.1 3, 200, .inr (.inr (.inr (.inr (fun _ => none))))))) 5 0 (a5, .inl (E.2.2.1 0, 200, .inl (fun _ => 0)))) 3 0 (q, .inr (0, [.ref a4, .ref a5, .int 0, .int 0, .int 0])) = hc_air E X q a4 a5 a6 a7 0 := by
  funext k i
  unfold hc_air hc_s
  by_cases h3 : k = 3 ∧ i = 0
  · simp [h3]
  · by_cases h5 : k = 5 ∧ i = 0
    · simp [h5]
    · by_cases h4 : k = 4 ∧ i = 0
      · simp [h4]
      · simp [h3, h4, h5]
theorem hc_air_s (E : hr_E) (X : hc_X) (q a4 a5 : Nat) (a6 a7 : Nat → Nat) (n q6 q7 : Nat) {c6 : Nat × va_E} {f4 : Nat → Option Nat} {f5 : Nat → Int32} (h4 : f4 = va_up (fun j => if j < n then some (a6 j) else none) n (some q6)) (h5 : f5 = upd (fun j => if j < n then nI j else 0) n (nI n)) :
    hc_s (hc_s (hc_s (hc_s (hc_s (hc_air E X q a4 a5 a6 a7 n) 6 n c6) 7 n (q7, .inl (E.2.2.1 0, 41, .inl (fun _ => 0)))) 6 n (q6, .inr (1, [.int 0, .int 0, .int 0, .ref q7]))) 4 0 (a4, .inl (E.2.2.1 3, 200, .inr (.inr (.inr (.inr f4)))))) 5 0 (a5, .inl (E.2.2.1 0, 200, .inl f5)) =
    hc_air E X q a4 a5 (fun j => if j = n then q6 else a6 j) (fun j => if j = n then q7 else a7 j) (n + 1) := by
  have g4 : f4 = fun j => if j < n + 1 then some (if j = n then q6 else a6 j) else none := by
    rw [h4]
    funext j
    unfold va_up
    by_cases e : j = n
    · simp [e]
    · by_cases e2 : j < n
      · simp [e, e2, Nat.lt_succ_of_lt e2]
      · simp [e, e2, show ¬ j < n + 1 by omega]
  have g5 : f5 = fun j => if j < n + 1 then nI j else 0 := by
    rw [h5]
    funext j
    unfold upd
    by_cases e : j = n
    · simp [e]
    · by_cases e2 : j < n
      · simp [e, e2, Nat.lt_succ_of_lt e2]
      · simp [e, e2, show ¬ j < n + 1 by omega]
  rw [g4, g5]
  funext k i
  unfold hc_s hc_air
  by_cases e5 : k = 5 ∧ i = 0
  · simp [e5]
  by_cases e4 : k = 4 ∧ i = 0
  · simp [e4]
  by_cases e3 : k = 3 ∧ i = 0
  · simp [e3]
  by_cases e6 : k = 6
  · subst e6
    by_cases en : i = n
    · subst en; simp
    · by_cases el : i < n
      · simp [en, el, Nat.lt_succ_of_lt el]
      · simp [en, el, show ¬ i < n + 1 by omega]
  by_cases e7 : k = 7
  · subst e7
    by_cases en : i = n
    · subst en; simp
    · by_cases el : i < n
      · simp [en, el, Nat.lt_succ_of_lt el]
      · simp [en, el, show ¬ i < n + 1 by omega]
  simp [e3, e4, e5, e6, e7]
set_option maxHeartbeats 4000000 in
set_option maxRecDepth 100000 in
theorem mk_X0 (l : Launch) (E : hr_E) (X : hc_X) (q : Nat) (h3 : X 3 0 = some (q, .inr (0, [.null, .null, .int 0, .int 0, .int 0]))) (h4 : X 4 0 = none) (h5 : X 5 0 = none) (h6 : ∀ i, i < 200 → X 6 i = none) (h7 : ∀ i, i < 200 → X 7 i = none) : hc_Mv l E yX0_init (Cond.code yX0_init cX0_init 2 none :: hr_W) ({ frames := 2, cells := 402, slots := 9400, locals := 32 } : Room) [.ref q] X (fun u => ∃ (a4 a5 : Nat) (a6 a7 : Nat → Nat), u = hc_air E X q a4 a5 a6 a7 200) 402 9400 := by
  refine hc_of (by decide) (Nat.le_of_ble_eq_true rfl) (fun p e s m below meth c C hr hin => ?_)
  refine hc_aload_n C dX0_init_0 rfl 0 rfl ?_
  refine hc_objInit C kM_X0_3 (Nat.le_of_ble_eq_true rfl) (Nat.le_of_ble_eq_true rfl) dX0_init_1 ?_
  refine hc_aload_n C dX0_init_4 rfl 0 rfl ?_
  refine hc_sipush (v := 200) C dX0_init_5 (by decide) ?_
  refine hc_newq (N' := 200) 3 4 0 C kL_X0_9 C.2.2.2.2.1 rfl h4 (by decide) (by decide) (by decide) (by decide) (Nat.le_of_ble_eq_true rfl) (Nat.le_of_ble_eq_true rfl) dX0_init_8 (fun a4 => ?_)
  refine hc_putF (k := 3) (i := 0) (fld := 0) (ty := .array (.object "HopRouters$Packet")) C hin (by rw [hc_s_ne _ _ (by decide)]; exact h3) rfl (by decide) kU_X0 kF_X0_11 rfl tyX0 tyX0_ok nmX0 rfl (tyX0_ok 0 (by decide)) rfl rfl (Nat.le_of_ble_eq_true rfl) dX0_init_11 ?_
  refine hc_aload_n C dX0_init_14 rfl 0 rfl ?_
  refine hc_sipush (v := 200) C dX0_init_15 (by decide) ?_
  refine hc_newa (atype := .int) (ty := .int) (N' := 200) (a0 := (200, .inl (fun _ => 0))) 0 5 0 C kA_int rfl rfl (fun U cA h => h) (by simp [hc_s, h5]) (by decide) (fun cA => by first | rfl | (rw [vp_cell_i]; rfl) | (rw [vp_cell_l]; rfl)) (by decide) (by decide) (by decide) (Nat.le_of_ble_eq_true rfl) (Nat.le_of_ble_eq_true rfl) dX0_init_18 (fun a5 => ?_)
  refine hc_putF (k := 3) (i := 0) (fld := 1) (ty := .array .int) C hin (hc_one _ (by decide) _ _) rfl (by decide) kU_X0 kF_X0_17 rfl tyX0 tyX0_ok nmX0 rfl (tyX0_ok 1 (by decide)) rfl rfl (Nat.le_of_ble_eq_true rfl) dX0_init_20 ?_
  refine hc_x (hc_ssn _ (by decide) _ _ _) ?_
  refine hc_iconst (v := 0) C dX0_init_23 (by decide) ?_
  refine hc_istore_n C [(1, .int 0), (0, .ref q)] dX0_init_24 rfl (by decide) rfl ?_
  have LP : ∀ (f n : Nat) (a6 a7 : Nat → Nat), n ≤ 200 → 201 ≤ n + f → hc_G p l e ({ frames := 2, cells := 402, slots := 9400, locals := 32 } : Room) s m ([.ref q] : List Value).toArray below meth c (MQ below (va_Qv (fun u => ∃ (a4 a5 : Nat) (a6 a7 : Nat → Nat), u = hc_air E X q a4 a5 a6 a7 200) (fun u t => hc_P E u t.heap) (hr_A E)) ([.ref q] : List Value).toArray s 402 9400 (hr_A E)) E 2 (2 + 2 * n) (400 + 45 * n) (hc_air E X q a4 a5 a6 a7 n) [(1, .int (nI n)), (0, .ref q)] 25 [] := by
    intro f
    induction f with
    | zero => intro n a6 a7 h1 h2; omega
    | succ f ih =>
      intro n a6 a7 h1 h2
      refine hc_iload_n C dX0_init_25 rfl 0 rfl ?_
      refine hc_sipush (v := 200) C dX0_init_26 (by decide) ?_
      refine hc_icmp_ge C 58 dX0_init_29 (by decide) (fun c29 => ?_) (fun c29 => ?_)
      · have c29 : 200 ≤ n := (nI_leI (a := 200) (b := n) (by omega) (by omega)).mp c29
        have e2 : n = 200 := by omega
        subst e2
        exact hc_vret C hr dX0_init_58 ⟨a4, a5, a6, a7, rfl⟩
      · have c29 : ¬ 200 ≤ n := fun h => c29 ((nI_leI (a := 200) (b := n) (by omega) (by omega)).mpr h)
        refine hc_aload_n C dX0_init_32 rfl 1 rfl ?_
        refine hc_get (k := 3) (i := 0) (fld := 0) C (show hc_air E X q a4 a5 a6 a7 n 3 0 = some (q, .inr (0, [.ref a4, .ref a5, .int 0, .int 0, .int 0])) by unfold hc_air; simp) rfl (by decide) kU_X0 kF_X0_11 rfl rfl dX0_init_33 ?_
        refine hc_iload_n C dX0_init_36 rfl 0 rfl ?_
        refine hc_new (fs := [.int 0, .int 0, .int 0, .null]) (ci := 1) 6 n C kU_X1 tyX1 tyX1_ok kL_X0_9 kP_X1 kN_X1 rfl (fun j hj => by rcases (show j = 0 ∨ j = 1 ∨ j = 2 ∨ j = 3 by omega) with rfl | rfl | rfl | rfl <;> rfl) (by unfold hc_air; simp [h6 n (by omega)]) (show n < 202 by omega) (show _ ≤ 402 by omega) (show _ ≤ 9400 by omega) dX0_init_37 (fun q6 => ?_)
        refine hc_dup C dX0_init_40 rfl ?_
        refine hc_cIN (As := []) (st := [.ref q6, .int (nI n), .ref a4]) C (mk_X1 l E _ n q6 (by omega) (hc_s_self _ _ _ _) (by unfold hc_s hc_air; simp [h7 n (by omega)])) ⟨va_cnB 0 C.1.2.2.2.2 (hr_gI kC_X1_init) rfl rfl rfl C.2.2.2.2.2.2.1 (C.1.2.2.2.2 _ (List.mem_cons_of_mem _ kN_X1)) (by decide +kernel) ⟨(Nat.le_of_ble_eq_true rfl), (Nat.le_of_ble_eq_true rfl)⟩, rfl, C.1.2.2.2.2 _ (List.mem_cons_of_mem _ kI_X1_init)⟩ rfl (Nat.le_of_ble_eq_true rfl) dX0_init_41 ⟨show _ ≤ 402 by omega, show _ ≤ 9400 by omega⟩ (fun X1 h1 => ?_) rfl
        obtain ⟨q7, rfl⟩ := h1
        refine hc_astq (k := 4) (i := 0) (k2 := 6) (i2 := n) (t0 := 3) (a := a4) (n := 200) (f := fun j => if j < n then some (a6 j) else none) n C (by unfold hc_s hc_air; simp) (hc_s_self _ _ _ _) rfl rfl rfl (by omega) (by decide) dX0_init_44 ?_
        refine hc_aload_n C dX0_init_45 rfl 1 rfl ?_
        refine hc_get (k := 3) (i := 0) (fld := 1) (ci := 0) (fs := [.ref a4, .ref a5, .int 0, .int 0, .int 0]) C (by unfold hc_s hc_air; simp) rfl (by decide) kU_X0 kF_X0_17 rfl rfl dX0_init_46 ?_
        refine hc_iload_n C dX0_init_49 rfl 0 rfl ?_
        refine hc_iload_n C dX0_init_50 rfl 0 rfl ?_
        refine hc_iast (k := 5) (i := 0) (a := a5) (n := 200) (f := fun j => if j < n then nI j else 0) n C (by unfold hc_s hc_air; simp) rfl (by omega) (by decide) dX0_init_51 ?_
        refine hc_x (hc_air_s E X q a4 a5 a6 a7 n q6 q7 rfl rfl) ?_
        refine hc_iinc (v := nI (n + 1)) C [(1, .int (nI (n + 1))), (0, .ref q)] dX0_init_52 0 rfl (nI_add n 1) (by decide) rfl ?_
        refine hc_goto C 25 dX0_init_55 (by decide) ?_
        refine hc_eqp (c2 := 2 + 2 * (n + 1)) (s2 := 400 + 45 * (n + 1)) (by omega) (by omega) ?_
        exact ih (n + 1) _ _ (by omega) (by omega)
  refine hc_x (hc_air_0 E X q a4 a5 (fun _ => 0) (fun _ => 0)) ?_
  exact LP 201 0 _ _ (by omega) (by omega)
