def hc_tc (E : hr_E) (ad : Nat → Nat → Nat) (g : Nat → Nat → Int32) (k i : Nat) : va_E := match k with
  | 8 => .inr (2, [.ref (ad 9 i), .ref (ad 10 i), .ref (ad 11 i), .ref (ad 12 i), .ref (ad 13 i)])
  | 9 => .inl (E.2.2.1 0, 8, .inl (g i))
  | 13 => .inl (E.2.2.1 1, 8, .inl (fun _ => 0))
  | _ => .inl (E.2.2.1 0, 8, .inl (fun _ => 0))
def hc_hr (E : hr_E) (B : hc_X) (a2 : Nat) (ad : Nat → Nat → Nat) (g : Nat → Nat → Int32) (n : Nat) : hc_X := fun k i =>
  if k = 2 ∧ i = 0 then some (a2, .inl (E.2.2.1 4, 8, .inr (.inr (.inr (.inr (fun j => if j < n then some (ad 8 j) else none)))))) else
  if 8 ≤ k ∧ k ≤ 13 ∧ i < n then some (ad k i, hc_tc E ad g k i) else B k i
theorem hc_hr_0 {E : hr_E} {B : hc_X} {a2 : Nat} (h : B 2 0 = some (a2, .inl (E.2.2.1 4, 8, .inr (.inr (.inr (.inr (fun _ => none))))))) (ad : Nat → Nat → Nat) (g : Nat → Nat → Int32) : B = hc_hr E B a2 ad g 0 := by
  funext k i
  unfold hc_hr
  by_cases h2 : k = 2 ∧ i = 0
  · obtain ⟨rfl, rfl⟩ := h2
    simp [h]
  · simp [h2]
def hc_ad1 (ad : Nat → Nat → Nat) (n q8 q9 q10 q11 q12 q13 : Nat) : Nat → Nat → Nat := fun k i => if i = n then (if k = 8 then q8 else if k = 9 then q9 else if k = 10 then q10 else if k = 11 then q11 else if k = 12 then q12 else q13) else ad k i
theorem hc_hr_s (E : hr_E) (B : hc_X) (a2 : Nat) (ad : Nat → Nat → Nat) (g : Nat → Nat → Int32) (n q8 q9 q10 q11 q12 q13 : Nat) (g9 : Nat → Int32) {c8 : Nat × va_E} {f2 : Nat → Option Nat} (h2 : f2 = va_up (fun j => if j < n then some (ad 8 j) else none) n (some q8)) :
    hc_s (hc_tbl E (hc_s (hc_hr E B a2 ad g n) 8 n c8) n q8 q9 q10 q11 q12 q13 g9) 2 0 (a2, .inl (E.2.2.1 4, 8, .inr (.inr (.inr (.inr f2))))) = hc_hr E B a2 (hc_ad1 ad n q8 q9 q10 q11 q12 q13) (fun i => if i = n then g9 else g i) (n + 1) := by
  have e2 : f2 = fun j => if j < n + 1 then some (hc_ad1 ad n q8 q9 q10 q11 q12 q13 8 j) else none := by
    rw [h2]
    funext j
    unfold va_up hc_ad1
    by_cases e : j = n
    · simp [e]
    · by_cases el : j < n
      · simp [e, el, Nat.lt_succ_of_lt el]
      · simp [e, el, show ¬ j < n + 1 by omega]
  rw [e2]
  funext k i
  by_cases k2 : k = 2 ∧ i = 0
  · obtain ⟨rfl, rfl⟩ := k2
    unfold hc_s hc_hr
    simp
  · by_cases hk : 8 ≤ k ∧ k ≤ 13
    · by_cases en : i = n
      · subst en
        rcases (show k = 8 ∨ k = 9 ∨ k = 10 ∨ k = 11 ∨ k = 12 ∨ k = 13 by omega) with rfl | rfl | rfl | rfl | rfl | rfl <;> simp [hc_s, hc_tbl, hc_hr, hc_tc, hc_ad1]
      · by_cases el : i < n
        · rcases (show k = 8 ∨ k = 9 ∨ k = 10 ∨ k = 11 ∨ k = 12 ∨ k = 13 by omega) with rfl | rfl | rfl | rfl | rfl | rfl <;> simp [hc_s, hc_tbl, hc_hr, hc_tc, hc_ad1, en, el, Nat.lt_succ_of_lt el]
        · have e3 : ¬ i < n + 1 := by omega
          rcases (show k = 8 ∨ k = 9 ∨ k = 10 ∨ k = 11 ∨ k = 12 ∨ k = 13 by omega) with rfl | rfl | rfl | rfl | rfl | rfl <;> simp [hc_s, hc_tbl, hc_hr, en, el, e3]
    · have b8 : ¬ (k = 8 ∧ i = n) := fun h => hk (by omega)
      have b9 : ¬ (k = 9 ∧ i = n) := fun h => hk (by omega)
      have b10 : ¬ (k = 10 ∧ i = n) := fun h => hk (by omega)
      have b11 : ¬ (k = 11 ∧ i = n) := fun h => hk (by omega)
      have b12 : ¬ (k = 12 ∧ i = n) := fun h => hk (by omega)
      have b13 : ¬ (k = 13 ∧ i = n) := fun h => hk (by omega)
      have c1 : ¬ (8 ≤ k ∧ k ≤ 13 ∧ i < n) := fun h => hk ⟨h.1, h.2.1⟩
      have c2 : ¬ (8 ≤ k ∧ k ≤ 13 ∧ i < n + 1) := fun h => hk ⟨h.1, h.2.1⟩
      unfold hc_tbl
      rw [hc_s_ne _ _ k2, hc_s_ne _ _ b8, hc_s_ne _ _ b13, hc_s_ne _ _ b12, hc_s_ne _ _ b11, hc_s_ne _ _ b10, hc_s_ne _ _ b9, hc_s_ne _ _ b8]
      unfold hc_hr
      rw [if_neg k2, if_neg c1, if_neg k2, if_neg c2]
/-- the numbers of a new object -/
def hr_S0 (g : Nat → Nat → Int32) : hr_S := fun k i j => if k = 9 then g i j else if k = 5 then (if j < 200 then nI j else 0) else 0
def hc_E (E : hr_E) (ad : Nat → Nat → Nat) : hr_E := (E.1, ad, E.2.2)
def hc_done (E : hr_E) (ad : Nat → Nat → Nat) (g : Nat → Nat → Int32) (u : hc_X) : Prop :=
  (∀ k i, k ≤ 13 → i < hr_cnt k → k ≠ 2 → k ≠ 4 → u k i = some (ad k i, hr_cell (hc_E E ad) (hr_S0 g) 0 k i)) ∧
  u 2 0 = some (ad 2 0, .inl (E.2.2.1 4, 8, .inr (.inr (.inr (.inr (fun j => if j < 8 then some (ad 8 j) else none)))))) ∧
  u 4 0 = some (ad 4 0, .inl (E.2.2.1 3, 200, .inr (.inr (.inr (.inr (fun j => if j < 200 then some (ad 6 j) else none))))))
def hc_adF (q q1 a2 q3 a4 a5 p0 p1 w0 w1 : Nat) (a6 a7 : Nat → Nat) (ad : Nat → Nat → Nat) : Nat → Nat → Nat := fun k i => match k with
  | 0 => q
  | 1 => q1
  | 2 => a2
  | 3 => q3
  | 4 => a4
  | 5 => a5
  | 6 => if i < 200 then a6 i else if i = 200 then p0 else p1
  | 7 => if i < 200 then a7 i else if i = 200 then w0 else w1
  | _ => ad k i
set_option maxHeartbeats 4000000 in
set_option maxRecDepth 100000 in
theorem mk_X3 (l : Launch) (E : hr_E) (X : hc_X) (q : Nat) (h0 : X 0 0 = some (q, .inr (3, [.null, .null, .null, .null, .null, .int 0, .int 0, .int 0]))) (hN : ∀ k i, 1 ≤ k → k ≤ 13 → X k i = none) : hc_Mv l E yX3_init (Cond.code yX3_init cX3_init 2 none :: hr_W) ({ frames := 3, cells := 457, slots := 9927, locals := 53 } : Room) [.ref q] X (fun u => (∃ (ad : Nat → Nat → Nat) (g : Nat → Nat → Int32), (∀ t j, t < 8 → j < 8 → g t j = -1) ∧ ad 0 0 = q ∧ hc_done E ad g u) ∧ ∀ k i, 14 ≤ k → u k i = X k i) 457 9927 := by
  refine hc_of (by decide) (Nat.le_of_ble_eq_true rfl) (fun p e s m below meth c C hr hin => ?_)
  refine hc_aload_n C dX3_init_0 rfl 0 rfl ?_
  refine hc_objInit C kM_X3_1 (Nat.le_of_ble_eq_true rfl) (Nat.le_of_ble_eq_true rfl) dX3_init_1 ?_
  refine hc_aload_n C dX3_init_4 rfl 0 rfl ?_
  refine hc_bipush (v := 64) C dX3_init_5 (by decide) ?_
  refine hc_newa (atype := .boolean) (ty := .boolean) (N' := 64) (a0 := (64, .inl (fun _ => 0))) 1 1 0 C kA_boolean rfl rfl (fun U cA h => h) (hN 1 0 (by decide) (by decide)) (by decide) (fun cA => by first | rfl | (rw [vp_cell_i]; rfl) | (rw [vp_cell_l]; rfl)) (by decide) (by decide) (by decide) (Nat.le_of_ble_eq_true rfl) (Nat.le_of_ble_eq_true rfl) dX3_init_7 (fun q1 => ?_)
  refine hc_putF (k := 0) (i := 0) (fld := 0) (ty := .array .boolean) C hin (by rw [hc_s_ne _ _ (by decide)]; exact h0) rfl (by decide) kU_X3 kF_X3_9 rfl tyX3 tyX3_ok nmX3 rfl (tyX3_ok 0 (by decide)) rfl rfl (Nat.le_of_ble_eq_true rfl) dX3_init_9 ?_
  refine hc_aload_n C dX3_init_12 rfl 0 rfl ?_
  refine hc_bipush (v := 8) C dX3_init_13 (by decide) ?_
  refine hc_newq (N' := 8) 4 2 0 C kL_X3_13 C.2.2.2.2.2.1 rfl (by simp [hc_s, hN 2 0 (by decide) (by decide)]) (by decide) (by decide) (by decide) (by decide) (Nat.le_of_ble_eq_true rfl) (Nat.le_of_ble_eq_true rfl) dX3_init_15 (fun a2 => ?_)
  refine hc_putF (k := 0) (i := 0) (fld := 1) (ty := .array (.object "HopRouters$Table")) C hin (hc_one _ (by decide) _ _) rfl (by decide) kU_X3 kF_X3_15 rfl tyX3 tyX3_ok nmX3 rfl (tyX3_ok 1 (by decide)) rfl rfl (Nat.le_of_ble_eq_true rfl) dX3_init_18 ?_
  refine hc_x (hc_ssn _ (by decide) _ _ _) ?_
  refine hc_aload_n C dX3_init_21 rfl 0 rfl ?_
  refine hc_new (fs := [.null, .null, .int 0, .int 0, .int 0]) (ci := 0) 3 0 C kU_X0 tyX0 tyX0_ok kL_X3_19 kP_X0 kN_X0 rfl (fun j hj => by rcases (show j = 0 ∨ j = 1 ∨ j = 2 ∨ j = 3 ∨ j = 4 by omega) with rfl | rfl | rfl | rfl | rfl <;> rfl) (by simp [hc_s, hN 3 0 (by decide) (by decide)]) (by decide) (Nat.le_of_ble_eq_true rfl) (Nat.le_of_ble_eq_true rfl) dX3_init_22 (fun q3 => ?_)
  refine hc_dup C dX3_init_25 rfl ?_
  refine hc_cI (As := []) (st := [.ref q3, .ref q]) C (mk_X0 l E _ q3 (hc_s_self _ _ _ _) (by simp [hc_s, hN 4 0 (by decide) (by decide)]) (by simp [hc_s, hN 5 0 (by decide) (by decide)]) (fun i hi => by simp [hc_s, hN 6 i (by decide) (by decide)]) (fun i hi => by simp [hc_s, hN 7 i (by decide) (by decide)])) (cwI 0 C.1.2.2.2.2 (hr_gI kC_X0_init) rfl rfl rfl (C.1.2.2.2.2 _ (List.mem_cons_of_mem _ kN_X0)) (C.1.2.2.2.2 _ (List.mem_cons_of_mem _ kM_X3_21)) (C.1.2.2.2.2 _ (List.mem_cons_of_mem _ kI_X0_init)) rfl (by decide +kernel) ⟨(Nat.le_of_ble_eq_true rfl), (Nat.le_of_ble_eq_true rfl)⟩) rfl (Nat.le_of_ble_eq_true rfl) dX3_init_26 ⟨(Nat.le_of_ble_eq_true rfl), (Nat.le_of_ble_eq_true rfl)⟩ (fun X1 h1 => ?_) rfl
  obtain ⟨a4, a5, a6, a7, rfl⟩ := h1
  refine hc_putF (k := 0) (i := 0) (fld := 2) (ty := .object "HopRouters$Air") (a := q) (ci := 3) (fs := [.ref q1, .ref a2, .null, .null, .null, .int 0, .int 0, .int 0]) C hin (by simp [hc_s, hc_air]) rfl (by decide) kU_X3 kF_X3_22 rfl tyX3 tyX3_ok nmX3 rfl (tyX3_ok 2 (by decide)) rfl rfl (Nat.le_of_ble_eq_true rfl) dX3_init_29 ?_
  refine hc_aload_n C dX3_init_32 rfl 0 rfl ?_
  refine hc_new (fs := [.int 0, .int 0, .int 0, .null]) (ci := 1) 6 200 C kU_X1 tyX1 tyX1_ok kL_X3_26 kP_X1 kN_X1 rfl (fun j hj => by rcases (show j = 0 ∨ j = 1 ∨ j = 2 ∨ j = 3 by omega) with rfl | rfl | rfl | rfl <;> rfl) (by simp [hc_s, hc_air, hN 6 200 (by decide) (by decide)]) (by decide) (Nat.le_of_ble_eq_true rfl) (Nat.le_of_ble_eq_true rfl) dX3_init_33 (fun p0 => ?_)
  refine hc_dup C dX3_init_36 rfl ?_
  refine hc_cIN (As := []) (st := [.ref p0, .ref q]) C (mk_X1 l E _ 200 p0 (by decide) (hc_s_self _ _ _ _) (by simp [hc_s, hc_air, hN 7 200 (by decide) (by decide)])) ⟨va_cnB 0 C.1.2.2.2.2 (hr_gI kC_X1_init) rfl rfl rfl C.2.2.2.2.2.2.2 (C.1.2.2.2.2 _ (List.mem_cons_of_mem _ kN_X1)) (by decide +kernel) ⟨(Nat.le_of_ble_eq_true rfl), (Nat.le_of_ble_eq_true rfl)⟩, rfl, C.1.2.2.2.2 _ (List.mem_cons_of_mem _ kI_X1_init)⟩ rfl (Nat.le_of_ble_eq_true rfl) dX3_init_37 ⟨(Nat.le_of_ble_eq_true rfl), (Nat.le_of_ble_eq_true rfl)⟩ (fun X1 h1 => ?_) rfl
  obtain ⟨w0, rfl⟩ := h1
  refine hc_putF (k := 0) (i := 0) (fld := 3) (ty := .object "HopRouters$Packet") (a := q) (ci := 3) (fs := [.ref q1, .ref a2, .ref q3, .null, .null, .int 0, .int 0, .int 0]) C hin (by simp [hc_s, hc_air]) rfl (by decide) kU_X3 kF_X3_29 rfl tyX3 tyX3_ok nmX3 rfl (tyX3_ok 3 (by decide)) rfl rfl (Nat.le_of_ble_eq_true rfl) dX3_init_40 ?_
  refine hc_aload_n C dX3_init_43 rfl 0 rfl ?_
  refine hc_new (fs := [.int 0, .int 0, .int 0, .null]) (ci := 1) 6 201 C kU_X1 tyX1 tyX1_ok kL_X3_26 kP_X1 kN_X1 rfl (fun j hj => by rcases (show j = 0 ∨ j = 1 ∨ j = 2 ∨ j = 3 by omega) with rfl | rfl | rfl | rfl <;> rfl) (by simp [hc_s, hc_air, hN 6 201 (by decide) (by decide)]) (by decide) (Nat.le_of_ble_eq_true rfl) (Nat.le_of_ble_eq_true rfl) dX3_init_44 (fun p1 => ?_)
  refine hc_dup C dX3_init_47 rfl ?_
  refine hc_cIN (As := []) (st := [.ref p1, .ref q]) C (mk_X1 l E _ 201 p1 (by decide) (hc_s_self _ _ _ _) (by simp [hc_s, hc_air, hN 7 201 (by decide) (by decide)])) ⟨va_cnB 0 C.1.2.2.2.2 (hr_gI kC_X1_init) rfl rfl rfl C.2.2.2.2.2.2.2 (C.1.2.2.2.2 _ (List.mem_cons_of_mem _ kN_X1)) (by decide +kernel) ⟨(Nat.le_of_ble_eq_true rfl), (Nat.le_of_ble_eq_true rfl)⟩, rfl, C.1.2.2.2.2 _ (List.mem_cons_of_mem _ kI_X1_init)⟩ rfl (Nat.le_of_ble_eq_true rfl) dX3_init_48 ⟨(Nat.le_of_ble_eq_true rfl), (Nat.le_of_ble_eq_true rfl)⟩ (fun X1 h1 => ?_) rfl
  obtain ⟨w1, rfl⟩ := h1
  refine hc_putF (k := 0) (i := 0) (fld := 4) (ty := .object "HopRouters$Packet") (a := q) (ci := 3) (fs := [.ref q1, .ref a2, .ref q3, .ref p0, .null, .int 0, .int 0, .int 0]) C hin (by simp [hc_s, hc_air]) rfl (by decide) kU_X3 kF_X3_33 rfl tyX3 tyX3_ok nmX3 rfl (tyX3_ok 4 (by decide)) rfl rfl (Nat.le_of_ble_eq_true rfl) dX3_init_51 ?_
  refine hc_iconst (v := 0) C dX3_init_54 (by decide) ?_
  refine hc_istore_n C [(1, .int 0), (0, .ref q)] dX3_init_55 rfl (by decide) rfl ?_
  have hB : ∀ (ad : Nat → Nat → Nat) (g : Nat → Nat → Int32) (B : hc_X), (∀ t j, t < 8 → j < 8 → g t j = -1) →
      B 0 0 = some (q, .inr (3, [.ref q1, .ref a2, .ref q3, .ref p0, .ref p1, .int 0, .int 0, .int 0])) → B 1 0 = some (q1, .inl (E.2.2.1 1, 64, .inl (fun _ => 0))) → B 3 0 = some (q3, .inr (0, [.ref a4, .ref a5, .int 0, .int 0, .int 0])) →
      B 4 0 = some (a4, .inl (E.2.2.1 3, 200, .inr (.inr (.inr (.inr (fun j => if j < 200 then some (a6 j) else none)))))) → B 5 0 = some (a5, .inl (E.2.2.1 0, 200, .inl (fun j => if j < 200 then nI j else 0))) →
      (∀ i, i < 200 → B 6 i = some (a6 i, .inr (1, [.int 0, .int 0, .int 0, .ref (a7 i)])) ∧ B 7 i = some (a7 i, .inl (E.2.2.1 0, 41, .inl (fun _ => 0)))) →
      B 6 200 = some (p0, .inr (1, [.int 0, .int 0, .int 0, .ref w0])) → B 7 200 = some (w0, .inl (E.2.2.1 0, 41, .inl (fun _ => 0))) → B 6 201 = some (p1, .inr (1, [.int 0, .int 0, .int 0, .ref w1])) → B 7 201 = some (w1, .inl (E.2.2.1 0, 41, .inl (fun _ => 0))) →
      (∀ k i, 14 ≤ k → B k i = X k i) → (fun u => (∃ (ad : Nat → Nat → Nat) (g : Nat → Nat → Int32), (∀ t j, t < 8 → j < 8 → g t j = -1) ∧ ad 0 0 = q ∧ hc_done E ad g u) ∧ ∀ k i, 14 ≤ k → u k i = X k i) (hc_hr E B a2 ad g 8) := by
    intro ad g B hg b0 b1 b3 b4 b5 b67 b6 b7 b8 b9 b14
    refine ⟨⟨hc_adF q q1 a2 q3 a4 a5 p0 p1 w0 w1 a6 a7 ad, g, hg, rfl, ?_, ?_, ?_⟩, ?_⟩
    · intro k i hk hi h2 h4
      rcases (show k = 0 ∨ k = 1 ∨ k = 3 ∨ k = 5 ∨ k = 6 ∨ k = 7 ∨ (8 ≤ k ∧ k ≤ 13) by omega) with rfl | rfl | rfl | rfl | rfl | rfl | h8
      · have hi : i < 1 := hi
        rw [show i = 0 by omega]
        simp [hc_hr, b0, hc_adF, hr_cell, hc_E, hr_ad, hr_S0]
      · have hi : i < 1 := hi
        rw [show i = 0 by omega]
        simp [hc_hr, b1, hc_adF, hr_cell, hc_E, hr_S0]
        rfl
      · have hi : i < 1 := hi
        rw [show i = 0 by omega]
        simp [hc_hr, b3, hc_adF, hr_cell, hc_E, hr_ad, hr_S0]
      · have hi : i < 1 := hi
        rw [show i = 0 by omega]
        simp [hc_hr, b5, hc_adF, hr_cell, hc_E, hr_S0]
        rfl
      · have hi : i < 202 := hi
        by_cases hl : i < 200
        · simp [hc_hr, (b67 i hl).1, hc_adF, hr_cell, hc_E, hr_ad, hr_S0, hl]
        · rcases (show i = 200 ∨ i = 201 by omega) with rfl | rfl
          · simp [hc_hr, b6, hc_adF, hr_cell, hc_E, hr_ad, hr_S0]
          · simp [hc_hr, b8, hc_adF, hr_cell, hc_E, hr_ad, hr_S0]
      · have hi : i < 202 := hi
        by_cases hl : i < 200
        · simp [hc_hr, (b67 i hl).2, hc_adF, hr_cell, hc_E, hr_ad, hr_S0, hl]
          rfl
        · rcases (show i = 200 ∨ i = 201 by omega) with rfl | rfl
          · simp [hc_hr, b7, hc_adF, hr_cell, hc_E, hr_ad, hr_S0]
            rfl
          · simp [hc_hr, b9, hc_adF, hr_cell, hc_E, hr_ad, hr_S0]
            rfl
      · have hi : i < 8 := by
          have h := hi
          unfold hr_cnt at h
          rw [if_neg (by omega), if_pos h8] at h
          exact h
        unfold hc_hr
        rw [if_neg (by omega), if_pos ⟨h8.1, h8.2, hi⟩]
        rcases (show k = 8 ∨ k = 9 ∨ k = 10 ∨ k = 11 ∨ k = 12 ∨ k = 13 by omega) with rfl | rfl | rfl | rfl | rfl | rfl <;> rfl
    · simp [hc_hr, hc_adF]
    · simp [hc_hr, b4, hc_adF]
      funext j
      by_cases hj : j < 200 <;> simp [hj]
    · intro k i hk
      unfold hc_hr
      rw [if_neg (by omega), if_neg (by omega)]
      exact b14 k i hk
  have LP : ∀ (f n : Nat) (ad : Nat → Nat → Nat) (g : Nat → Nat → Int32) (B : hc_X), n ≤ 8 → 9 ≤ n + f → (∀ t j, t < n → j < 8 → g t j = -1) → (∀ k i, 8 ≤ k → k ≤ 13 → B k i = none) → B 0 0 = some (q, .inr (3, [.ref q1, .ref a2, .ref q3, .ref p0, .ref p1, .int 0, .int 0, .int 0])) → (∀ ad g, (∀ t j, t < 8 → j < 8 → g t j = -1) → (fun u => (∃ (ad : Nat → Nat → Nat) (g : Nat → Nat → Int32), (∀ t j, t < 8 → j < 8 → g t j = -1) ∧ ad 0 0 = q ∧ hc_done E ad g u) ∧ ∀ k i, 14 ≤ k → u k i = X k i) (hc_hr E B a2 ad g 8)) → hc_G p l e ({ frames := 3, cells := 457, slots := 9927, locals := 53 } : Room) s m ([.ref q] : List Value).toArray below meth c (MQ below (va_Qv (fun u => (∃ (ad : Nat → Nat → Nat) (g : Nat → Nat → Int32), (∀ t j, t < 8 → j < 8 → g t j = -1) ∧ ad 0 0 = q ∧ hc_done E ad g u) ∧ ∀ k i, 14 ≤ k → u k i = X k i) (fun u t => hc_P E u t.heap) (hr_A E)) ([.ref q] : List Value).toArray s 457 9927 (hr_A E)) E 2 (409 + 6 * n) (9567 + 45 * n) (hc_hr E B a2 ad g n) [(1, .int (nI n)), (0, .ref q)] 56 [] := by
    intro f
    induction f with
    | zero => intro n ad g B h1 h2; omega
    | succ f ih =>
      intro n ad g B h1 h2 hg hBn b0 hpost
      refine hc_iload_n C dX3_init_56 rfl 0 rfl ?_
      refine hc_bipush (v := 8) C dX3_init_57 (by decide) ?_
      refine hc_icmp_ge C 81 dX3_init_59 (by decide) (fun c59 => ?_) (fun c59 => ?_)
      · have c59 : 8 ≤ n := (nI_leI (a := 8) (b := n) (by omega) (by omega)).mp c59
        have e2 : n = 8 := by omega
        subst e2
        exact hc_vret C hr dX3_init_81 (hpost ad g hg)
      · have c59 : ¬ 8 ≤ n := fun h => c59 ((nI_leI (a := 8) (b := n) (by omega) (by omega)).mpr h)
        refine hc_aload_n C dX3_init_62 rfl 1 rfl ?_
        refine hc_get (k := 0) (i := 0) (fld := 1) (ci := 3) (fs := [.ref q1, .ref a2, .ref q3, .ref p0, .ref p1, .int 0, .int 0, .int 0]) C (by simp [hc_hr, b0]) rfl (by decide) kU_X3 kF_X3_15 rfl rfl dX3_init_63 ?_
        refine hc_iload_n C dX3_init_66 rfl 0 rfl ?_
        refine hc_new (fs := [.null, .null, .null, .null, .null]) (ci := 2) 8 n C kU_X2 tyX2 tyX2_ok kL_X3_13 kP_X2 kN_X2 rfl (fun j hj => by rcases (show j = 0 ∨ j = 1 ∨ j = 2 ∨ j = 3 ∨ j = 4 by omega) with rfl | rfl | rfl | rfl | rfl <;> rfl) (by simp [hc_hr, hBn 8 n (by decide) (by decide)]) (show n < 8 by omega) (show _ ≤ 457 by omega) (show _ ≤ 9927 by omega) dX3_init_67 (fun q8 => ?_)
        refine hc_dup C dX3_init_70 rfl ?_
        refine hc_cI (As := []) (st := [.ref q8, .int (nI n), .ref a2]) C (mk_X2 l E _ n q8 (by omega) (hc_s_self _ _ _ _) (fun k h8 h13 => by rw [hc_s_ne _ _ (by omega)]; unfold hc_hr; rw [if_neg (by omega), if_neg (by omega)]; exact hBn k n (by omega) h13)) (cwI 0 C.1.2.2.2.2 (hr_gI kC_X2_init) rfl rfl rfl (C.1.2.2.2.2 _ (List.mem_cons_of_mem _ kN_X2)) (C.1.2.2.2.2 _ (List.mem_cons_of_mem _ kM_X3_36)) (C.1.2.2.2.2 _ (List.mem_cons_of_mem _ kI_X2_init)) rfl (by decide +kernel) ⟨(Nat.le_of_ble_eq_true rfl), (Nat.le_of_ble_eq_true rfl)⟩) rfl (Nat.le_of_ble_eq_true rfl) dX3_init_71 ⟨show _ ≤ 457 by omega, show _ ≤ 9927 by omega⟩ (fun X1 h1 => ?_) rfl
        obtain ⟨q9, q10, q11, q12, q13, g9, hg9, rfl⟩ := h1
        refine hc_astq (k := 2) (i := 0) (k2 := 8) (i2 := n) (t0 := 4) (a := a2) (n := 8) (f := fun j => if j < n then some (ad 8 j) else none) n C (by simp [hc_tbl, hc_s, hc_hr]) (hc_s_self _ _ _ _) rfl rfl rfl (by omega) (by decide) dX3_init_74 ?_
        refine hc_x (hc_hr_s E B a2 ad g n q8 q9 q10 q11 q12 q13 g9 rfl) ?_
        refine hc_iinc (v := nI (n + 1)) C [(1, .int (nI (n + 1))), (0, .ref q)] dX3_init_75 0 rfl (nI_add n 1) (by decide) rfl ?_
        refine hc_goto C 56 dX3_init_78 (by decide) ?_
        refine hc_eqp (c2 := 409 + 6 * (n + 1)) (s2 := 9567 + 45 * (n + 1)) (by omega) (by omega) ?_
        refine ih (n + 1) _ _ B (by omega) (by omega) (fun t j ht hj => ?_) hBn b0 hpost
        by_cases en : t = n
        · simp [en, hg9 j hj]
        · simp [en, hg t j (by omega) hj]
  refine hc_x (hc_hr_0 (E := E) (a2 := a2) (by simp [hc_s, hc_air]) (fun _ _ => 0) (fun _ _ => 0)) ?_
  exact LP 9 0 _ _ _ (by omega) (by omega) (fun t j ht hj => absurd ht (by omega)) (fun k i hk hk2 => by simp [hc_s, hc_air, hN k i (by omega) hk2, show ¬ k = 0 by omega, show ¬ k = 1 by omega, show ¬ k = 2 by omega, show ¬ k = 3 by omega, show ¬ k = 4 by omega, show ¬ k = 5 by omega, show ¬ k = 6 by omega, show ¬ k = 7 by omega]) (by simp [hc_s, hc_air])
    (fun ad g hg => hB ad g _ hg (by simp [hc_s, hc_air]) (by simp [hc_s, hc_air]) (by simp [hc_s, hc_air]) (by simp [hc_s, hc_air]) (by simp [hc_s, hc_air]) (fun i hi => ⟨by simp [hc_s, hc_air, hi, show ¬ i = 200 by omega, show ¬ i = 201 by omega], by simp [hc_s, hc_air, hi, show ¬ i = 200 by omega, show ¬ i = 201 by omega]⟩) (by simp [hc_s, hc_air]) (by simp [hc_s, hc_air]) (by simp [hc_s, hc_air]) (by simp [hc_s, hc_air]) (fun k i hk => by simp [hc_s, hc_air, show ¬ k = 0 by omega, show ¬ k = 1 by omega, show ¬ k = 2 by omega, show ¬ k = 3 by omega, show ¬ k = 4 by omega, show ¬ k = 5 by omega, show ¬ k = 6 by omega, show ¬ k = 7 by omega]))
def hc_md (E : hr_E) (X : hc_X) (q q15 q16 q17 q18 q19 q20 q21 q22 q23 q24 q25 q26 : Nat) : hc_X := hc_s (hc_s (hc_s (hc_s (hc_s (hc_s (hc_s (hc_s (hc_s (hc_s (hc_s (hc_s (hc_s (X) 15 0 (q15, .inl (E.2.2.1 1, 64, .inl (fun _ => 0)))) 16 0 (q16, .inl (E.2.2.1 0, 64, .inl (fun _ => 0)))) 17 0 (q17, .inl (E.2.2.1 0, 64, .inl (fun _ => 0)))) 18 0 (q18, .inl (E.2.2.1 0, 64, .inl (fun _ => 0)))) 19 0 (q19, .inl (E.2.2.1 1, 64, .inl (fun _ => 0)))) 20 0 (q20, .inl (E.2.2.1 0, 64, .inl (fun _ => 0)))) 21 0 (q21, .inl (E.2.2.1 0, 200, .inl (fun _ => 0)))) 22 0 (q22, .inl (E.2.2.1 0, 200, .inl (fun _ => 0)))) 23 0 (q23, .inl (E.2.2.1 0, 200, .inl (fun _ => 0)))) 24 0 (q24, .inl (E.2.2.1 0, 32800, .inl (fun _ => 0)))) 25 0 (q25, .inl (E.2.2.1 0, 164, .inl (fun _ => 0)))) 26 0 (q26, .inl (E.2.2.1 0, 164, .inl (fun _ => 0)))) 14 0 (q, .inr (4, [.int 0, .int 0, .int 0, .int 0, .int 0, .ref q15, .ref q16, .ref q17, .ref q18, .ref q19, .ref q20, .int 0, .ref q21, .ref q22, .ref q23, .ref q24, .int 0, .ref q25, .int 0, .ref q26]))
set_option maxHeartbeats 4000000 in
set_option maxRecDepth 100000 in
theorem mk_X4 (l : Launch) (E : hr_E) (X : hc_X) (q : Nat) (h14 : X 14 0 = some (q, .inr (4, [.int 0, .int 0, .int 0, .int 0, .int 0, .null, .null, .null, .null, .null, .null, .int 0, .null, .null, .null, .null, .int 0, .null, .int 0, .null]))) (hN : ∀ k, 15 ≤ k → k ≤ 26 → X k 0 = none) : hc_Mv l E yX4_init (Cond.code yX4_init cX4_init 1 none :: hr_W) ({ frames := 1, cells := 12, slots := 34112, locals := 12 } : Room) [.ref q] X (fun u => ∃ q15 q16 q17 q18 q19 q20 q21 q22 q23 q24 q25 q26 : Nat, u = hc_md E X q q15 q16 q17 q18 q19 q20 q21 q22 q23 q24 q25 q26) 12 34112 := by
  refine hc_of (by decide) (Nat.le_of_ble_eq_true rfl) (fun p e s m below meth c C hr hin => ?_)
  refine hc_aload_n C dX4_init_0 rfl 0 rfl ?_
  refine hc_objInit C kM_X4_1 (Nat.le_of_ble_eq_true rfl) (Nat.le_of_ble_eq_true rfl) dX4_init_1 ?_
  refine hc_aload_n C dX4_init_4 rfl 0 rfl ?_
  refine hc_bipush (v := 64) C dX4_init_5 (by decide) ?_
  refine hc_newa (atype := .boolean) (ty := .boolean) (N' := 64) (a0 := (64, .inl (fun _ => 0))) 1 15 0 C kA_boolean rfl rfl (fun U cA h => h) (hN 15 (by decide) (by decide)) (by decide) (fun cA => by first | rfl | (rw [vp_cell_i]; rfl) | (rw [vp_cell_l]; rfl)) (by decide) (by decide) (by decide) (Nat.le_of_ble_eq_true rfl) (Nat.le_of_ble_eq_true rfl) dX4_init_7 (fun q15 => ?_)
  refine hc_put (k := 14) (i := 0) (fld := 5) (ty := .array .boolean) C (by rw [hc_s_ne _ _ (by decide)]; exact h14) rfl (by decide) kU_X4 kF_X4_7 tyX4 tyX4_ok nmX4 rfl (tyX4_ok 5 (by decide)) rfl rfl (Nat.le_of_ble_eq_true rfl) dX4_init_9 ?_
  refine hc_aload_n C dX4_init_12 rfl 0 rfl ?_
  refine hc_bipush (v := 64) C dX4_init_13 (by decide) ?_
  refine hc_newa (atype := .int) (ty := .int) (N' := 64) (a0 := (64, .inl (fun _ => 0))) 0 16 0 C kA_int rfl rfl (fun U cA h => h) (by simp [hc_s, hN 16 (by decide) (by decide)]) (by decide) (fun cA => by first | rfl | (rw [vp_cell_i]; rfl) | (rw [vp_cell_l]; rfl)) (by decide) (by decide) (by decide) (Nat.le_of_ble_eq_true rfl) (Nat.le_of_ble_eq_true rfl) dX4_init_15 (fun q16 => ?_)
  refine hc_put (k := 14) (i := 0) (fld := 6) (ty := .array .int) C (hc_one _ (by decide) _ _) rfl (by decide) kU_X4 kF_X4_13 tyX4 tyX4_ok nmX4 rfl (tyX4_ok 6 (by decide)) rfl rfl (Nat.le_of_ble_eq_true rfl) dX4_init_17 ?_
  refine hc_x (hc_ssn _ (by decide) _ _ _) ?_
  refine hc_aload_n C dX4_init_20 rfl 0 rfl ?_
  refine hc_bipush (v := 64) C dX4_init_21 (by decide) ?_
  refine hc_newa (atype := .int) (ty := .int) (N' := 64) (a0 := (64, .inl (fun _ => 0))) 0 17 0 C kA_int rfl rfl (fun U cA h => h) (by simp [hc_s, hN 17 (by decide) (by decide)]) (by decide) (fun cA => by first | rfl | (rw [vp_cell_i]; rfl) | (rw [vp_cell_l]; rfl)) (by decide) (by decide) (by decide) (Nat.le_of_ble_eq_true rfl) (Nat.le_of_ble_eq_true rfl) dX4_init_23 (fun q17 => ?_)
  refine hc_put (k := 14) (i := 0) (fld := 7) (ty := .array .int) C (hc_one _ (by decide) _ _) rfl (by decide) kU_X4 kF_X4_17 tyX4 tyX4_ok nmX4 rfl (tyX4_ok 7 (by decide)) rfl rfl (Nat.le_of_ble_eq_true rfl) dX4_init_25 ?_
  refine hc_x (hc_ssn _ (by decide) _ _ _) ?_
  refine hc_aload_n C dX4_init_28 rfl 0 rfl ?_
  refine hc_bipush (v := 64) C dX4_init_29 (by decide) ?_
  refine hc_newa (atype := .int) (ty := .int) (N' := 64) (a0 := (64, .inl (fun _ => 0))) 0 18 0 C kA_int rfl rfl (fun U cA h => h) (by simp [hc_s, hN 18 (by decide) (by decide)]) (by decide) (fun cA => by first | rfl | (rw [vp_cell_i]; rfl) | (rw [vp_cell_l]; rfl)) (by decide) (by decide) (by decide) (Nat.le_of_ble_eq_true rfl) (Nat.le_of_ble_eq_true rfl) dX4_init_31 (fun q18 => ?_)
  refine hc_put (k := 14) (i := 0) (fld := 8) (ty := .array .int) C (hc_one _ (by decide) _ _) rfl (by decide) kU_X4 kF_X4_20 tyX4 tyX4_ok nmX4 rfl (tyX4_ok 8 (by decide)) rfl rfl (Nat.le_of_ble_eq_true rfl) dX4_init_33 ?_
  refine hc_x (hc_ssn _ (by decide) _ _ _) ?_
  refine hc_aload_n C dX4_init_36 rfl 0 rfl ?_
  refine hc_bipush (v := 64) C dX4_init_37 (by decide) ?_
  refine hc_newa (atype := .boolean) (ty := .boolean) (N' := 64) (a0 := (64, .inl (fun _ => 0))) 1 19 0 C kA_boolean rfl rfl (fun U cA h => h) (by simp [hc_s, hN 19 (by decide) (by decide)]) (by decide) (fun cA => by first | rfl | (rw [vp_cell_i]; rfl) | (rw [vp_cell_l]; rfl)) (by decide) (by decide) (by decide) (Nat.le_of_ble_eq_true rfl) (Nat.le_of_ble_eq_true rfl) dX4_init_39 (fun q19 => ?_)
  refine hc_put (k := 14) (i := 0) (fld := 9) (ty := .array .boolean) C (hc_one _ (by decide) _ _) rfl (by decide) kU_X4 kF_X4_23 tyX4 tyX4_ok nmX4 rfl (tyX4_ok 9 (by decide)) rfl rfl (Nat.le_of_ble_eq_true rfl) dX4_init_41 ?_
  refine hc_x (hc_ssn _ (by decide) _ _ _) ?_
  refine hc_aload_n C dX4_init_44 rfl 0 rfl ?_
  refine hc_bipush (v := 64) C dX4_init_45 (by decide) ?_
  refine hc_newa (atype := .int) (ty := .int) (N' := 64) (a0 := (64, .inl (fun _ => 0))) 0 20 0 C kA_int rfl rfl (fun U cA h => h) (by simp [hc_s, hN 20 (by decide) (by decide)]) (by decide) (fun cA => by first | rfl | (rw [vp_cell_i]; rfl) | (rw [vp_cell_l]; rfl)) (by decide) (by decide) (by decide) (Nat.le_of_ble_eq_true rfl) (Nat.le_of_ble_eq_true rfl) dX4_init_47 (fun q20 => ?_)
  refine hc_put (k := 14) (i := 0) (fld := 10) (ty := .array .int) C (hc_one _ (by decide) _ _) rfl (by decide) kU_X4 kF_X4_26 tyX4 tyX4_ok nmX4 rfl (tyX4_ok 10 (by decide)) rfl rfl (Nat.le_of_ble_eq_true rfl) dX4_init_49 ?_
  refine hc_x (hc_ssn _ (by decide) _ _ _) ?_
  refine hc_aload_n C dX4_init_52 rfl 0 rfl ?_
  refine hc_sipush (v := 200) C dX4_init_53 (by decide) ?_
  refine hc_newa (atype := .int) (ty := .int) (N' := 200) (a0 := (200, .inl (fun _ => 0))) 0 21 0 C kA_int rfl rfl (fun U cA h => h) (by simp [hc_s, hN 21 (by decide) (by decide)]) (by decide) (fun cA => by first | rfl | (rw [vp_cell_i]; rfl) | (rw [vp_cell_l]; rfl)) (by decide) (by decide) (by decide) (Nat.le_of_ble_eq_true rfl) (Nat.le_of_ble_eq_true rfl) dX4_init_56 (fun q21 => ?_)
  refine hc_put (k := 14) (i := 0) (fld := 12) (ty := .array .int) C (hc_one _ (by decide) _ _) rfl (by decide) kU_X4 kF_X4_29 tyX4 tyX4_ok nmX4 rfl (tyX4_ok 12 (by decide)) rfl rfl (Nat.le_of_ble_eq_true rfl) dX4_init_58 ?_
  refine hc_x (hc_ssn _ (by decide) _ _ _) ?_
  refine hc_aload_n C dX4_init_61 rfl 0 rfl ?_
  refine hc_sipush (v := 200) C dX4_init_62 (by decide) ?_
  refine hc_newa (atype := .int) (ty := .int) (N' := 200) (a0 := (200, .inl (fun _ => 0))) 0 22 0 C kA_int rfl rfl (fun U cA h => h) (by simp [hc_s, hN 22 (by decide) (by decide)]) (by decide) (fun cA => by first | rfl | (rw [vp_cell_i]; rfl) | (rw [vp_cell_l]; rfl)) (by decide) (by decide) (by decide) (Nat.le_of_ble_eq_true rfl) (Nat.le_of_ble_eq_true rfl) dX4_init_65 (fun q22 => ?_)
  refine hc_put (k := 14) (i := 0) (fld := 13) (ty := .array .int) C (hc_one _ (by decide) _ _) rfl (by decide) kU_X4 kF_X4_32 tyX4 tyX4_ok nmX4 rfl (tyX4_ok 13 (by decide)) rfl rfl (Nat.le_of_ble_eq_true rfl) dX4_init_67 ?_
  refine hc_x (hc_ssn _ (by decide) _ _ _) ?_
  refine hc_aload_n C dX4_init_70 rfl 0 rfl ?_
  refine hc_sipush (v := 200) C dX4_init_71 (by decide) ?_
  refine hc_newa (atype := .int) (ty := .int) (N' := 200) (a0 := (200, .inl (fun _ => 0))) 0 23 0 C kA_int rfl rfl (fun U cA h => h) (by simp [hc_s, hN 23 (by decide) (by decide)]) (by decide) (fun cA => by first | rfl | (rw [vp_cell_i]; rfl) | (rw [vp_cell_l]; rfl)) (by decide) (by decide) (by decide) (Nat.le_of_ble_eq_true rfl) (Nat.le_of_ble_eq_true rfl) dX4_init_74 (fun q23 => ?_)
  refine hc_put (k := 14) (i := 0) (fld := 14) (ty := .array .int) C (hc_one _ (by decide) _ _) rfl (by decide) kU_X4 kF_X4_35 tyX4 tyX4_ok nmX4 rfl (tyX4_ok 14 (by decide)) rfl rfl (Nat.le_of_ble_eq_true rfl) dX4_init_76 ?_
  refine hc_x (hc_ssn _ (by decide) _ _ _) ?_
  refine hc_aload_n C dX4_init_79 rfl 0 rfl ?_
  refine hc_ldc (v := 32800) C dX4_init_80 kK_X4_38 ?_
  refine hc_newa (atype := .int) (ty := .int) (N' := 32800) (a0 := (32800, .inl (fun _ => 0))) 0 24 0 C kA_int rfl rfl (fun U cA h => h) (by simp [hc_s, hN 24 (by decide) (by decide)]) (by decide) (fun cA => by first | rfl | (rw [vp_cell_i]; rfl) | (rw [vp_cell_l]; rfl)) (by decide) (by decide) (by decide) (Nat.le_of_ble_eq_true rfl) (Nat.le_of_ble_eq_true rfl) dX4_init_82 (fun q24 => ?_)
  refine hc_put (k := 14) (i := 0) (fld := 15) (ty := .array .int) C (hc_one _ (by decide) _ _) rfl (by decide) kU_X4 kF_X4_39 tyX4 tyX4_ok nmX4 rfl (tyX4_ok 15 (by decide)) rfl rfl (Nat.le_of_ble_eq_true rfl) dX4_init_84 ?_
  refine hc_x (hc_ssn _ (by decide) _ _ _) ?_
  refine hc_aload_n C dX4_init_87 rfl 0 rfl ?_
  refine hc_sipush (v := 164) C dX4_init_88 (by decide) ?_
  refine hc_newa (atype := .int) (ty := .int) (N' := 164) (a0 := (164, .inl (fun _ => 0))) 0 25 0 C kA_int rfl rfl (fun U cA h => h) (by simp [hc_s, hN 25 (by decide) (by decide)]) (by decide) (fun cA => by first | rfl | (rw [vp_cell_i]; rfl) | (rw [vp_cell_l]; rfl)) (by decide) (by decide) (by decide) (Nat.le_of_ble_eq_true rfl) (Nat.le_of_ble_eq_true rfl) dX4_init_91 (fun q25 => ?_)
  refine hc_put (k := 14) (i := 0) (fld := 17) (ty := .array .int) C (hc_one _ (by decide) _ _) rfl (by decide) kU_X4 kF_X4_42 tyX4 tyX4_ok nmX4 rfl (tyX4_ok 17 (by decide)) rfl rfl (Nat.le_of_ble_eq_true rfl) dX4_init_93 ?_
  refine hc_x (hc_ssn _ (by decide) _ _ _) ?_
  refine hc_aload_n C dX4_init_96 rfl 0 rfl ?_
  refine hc_sipush (v := 164) C dX4_init_97 (by decide) ?_
  refine hc_newa (atype := .int) (ty := .int) (N' := 164) (a0 := (164, .inl (fun _ => 0))) 0 26 0 C kA_int rfl rfl (fun U cA h => h) (by simp [hc_s, hN 26 (by decide) (by decide)]) (by decide) (fun cA => by first | rfl | (rw [vp_cell_i]; rfl) | (rw [vp_cell_l]; rfl)) (by decide) (by decide) (by decide) (Nat.le_of_ble_eq_true rfl) (Nat.le_of_ble_eq_true rfl) dX4_init_100 (fun q26 => ?_)
  refine hc_put (k := 14) (i := 0) (fld := 19) (ty := .array .int) C (hc_one _ (by decide) _ _) rfl (by decide) kU_X4 kF_X4_45 tyX4 tyX4_ok nmX4 rfl (tyX4_ok 19 (by decide)) rfl rfl (Nat.le_of_ble_eq_true rfl) dX4_init_102 ?_
  refine hc_x (hc_ssn _ (by decide) _ _ _) ?_
  exact hc_vret C hr dX4_init_105 ⟨q15, q16, q17, q18, q19, q20, q21, q22, q23, q24, q25, q26, rfl⟩
