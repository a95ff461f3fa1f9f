set_option maxHeartbeats 4000000 in
set_option maxRecDepth 100000 in
theorem ct_X4_thrown (l : Launch) (E : hr_E) (S : hr_S) (o : Int64)  : hr_Mi l E yX4_thrown (Cond.code yX4_thrown cX4_thrown 1 (some .int) :: hr_W) ({ frames := 0, cells := 0, slots := 0, locals := 0 } : Room) [.ref (hr_ad E 14 0)] S o (fun r u => r = S 14 0 0 ∧ u = S) := by
  refine hr_of (by decide) (Nat.le_of_ble_eq_true rfl) (fun p e s m below meth c C hr => ?_)
  refine hr_aload_n C dX4_thrown_0 rfl 0 rfl ?_
  refine hr_get (k := 14) (i := 0) (fld := 0) C (by decide) rfl rfl (by decide) kU_X4 kF_X4_48 rfl rfl dX4_thrown_1 ?_
  exact hr_iret C hr dX4_thrown_4 ⟨rfl, rfl⟩
set_option maxHeartbeats 4000000 in
set_option maxRecDepth 100000 in
theorem ct_X4_in (l : Launch) (E : hr_E) (S : hr_S) (o : Int64) (v a b : Int32) : hr_Mi l E yX4_in (Cond.code yX4_in cX4_in 3 (some .boolean) :: hr_W) ({ frames := 0, cells := 0, slots := 0, locals := 0 } : Room) [.int v, .int a, .int b] S o (fun r u => r = (if a ≤ v ∧ v ≤ b then 1 else 0) ∧ u = S) := by
  refine hr_of (by decide) (Nat.le_of_ble_eq_true rfl) (fun p e s m below meth c C hr => ?_)
  refine hr_iload_n C dX4_in_0 rfl 0 rfl ?_
  refine hr_iload_n C dX4_in_1 rfl 1 rfl ?_
  refine hr_icmp_lt C 14 dX4_in_2 (by decide) (fun c2 => ?_) (fun c2 => ?_)
  · skip
    have c2n : ¬ a ≤ v := Int32.not_le.mpr c2
    refine hr_iconst (v := 0) C dX4_in_14 (by decide) ?_
    exact hr_zret C hr rfl dX4_in_15 ⟨by first | (simp only [c2, c2n, and_true, true_and, and_false, false_and, or_true, true_or, or_false, false_or, if_true, if_false, reduceIte, not_true_eq_false, not_false_eq_true, and_self]; done) | (rw [if_neg (fun h => by have := h.1; omega)]) | (rw [if_neg (fun h => by have := h.2.1; omega)]), rfl⟩
  · skip
    have c2n : a ≤ v := Int32.not_lt.mp c2
    refine hr_iload_n C dX4_in_5 rfl 0 rfl ?_
    refine hr_iload_n C dX4_in_6 rfl 2 rfl ?_
    refine hr_icmp_gt C 14 dX4_in_7 (by decide) (fun c7 => ?_) (fun c7 => ?_)
    · skip
      have c7n : ¬ v ≤ b := Int32.not_le.mpr c7
      refine hr_iconst (v := 0) C dX4_in_14 (by decide) ?_
      exact hr_zret C hr rfl dX4_in_15 ⟨by first | (simp only [c2, c2n, c7, c7n, and_true, true_and, and_false, false_and, or_true, true_or, or_false, false_or, if_true, if_false, reduceIte, not_true_eq_false, not_false_eq_true, and_self]; done) | (rw [if_neg (fun h => by have := h.1; omega)]) | (rw [if_neg (fun h => by have := h.2.1; omega)]), rfl⟩
    · skip
      have c7n : v ≤ b := Int32.not_lt.mp c7
      refine hr_iconst (v := 1) C dX4_in_10 (by decide) ?_
      refine hr_goto C 15 dX4_in_11 (by decide) ?_
      exact hr_zret C hr rfl dX4_in_15 ⟨by first | (simp only [c2, c2n, c7, c7n, and_true, true_and, and_false, false_and, or_true, true_or, or_false, false_or, if_true, if_false, reduceIte, not_true_eq_false, not_false_eq_true, and_self]; done) | (rw [if_neg (fun h => by have := h.1; omega)]) | (rw [if_neg (fun h => by have := h.2.1; omega)]), rfl⟩
set_option maxHeartbeats 4000000 in
set_option maxRecDepth 100000 in
theorem ct_X4_isRouter (l : Launch) (E : hr_E) (S : hr_S) (o : Int64) (a : Int32) : hr_Mi l E yX4_isRouter (Cond.code yX4_isRouter cX4_isRouter 1 (some .boolean) :: hr_W) ({ frames := 1, cells := 0, slots := 0, locals := 22 } : Room) [.int a] S o (fun r u => r = (if 0 ≤ a ∧ a ≤ 7 then 1 else 0) ∧ u = S) := by
  refine hr_of (by decide) (Nat.le_of_ble_eq_true rfl) (fun p e s m below meth c C hr => ?_)
  refine hr_iload_n C dX4_isRouter_0 rfl 0 rfl ?_
  refine hr_iconst (v := 0) C dX4_isRouter_1 (by decide) ?_
  refine hr_bipush (v := 7) C dX4_isRouter_2 (by decide) ?_
  refine hr_cSi C (ct_X4_in l E S o a 0 7) (cwS 3 C.1.2.2.2.2 (hr_gS kM_X4_52 kT_X4_in kN_X4 kC_X4_in) rfl rfl rfl (by decide +kernel) ⟨Nat.le_of_ble_eq_true rfl, Nat.le_of_ble_eq_true rfl⟩) rfl (Nat.le_of_ble_eq_true rfl) dX4_isRouter_4 ⟨Nat.le_of_ble_eq_true rfl, Nat.le_of_ble_eq_true rfl⟩ (fun r1 S2 h3 => ?_) rfl
  refine hr_tp h3.1 ?_
  refine hr_st (S1 := S) h3.2 ?_
  exact hr_zret C hr (by split <;> rfl) dX4_isRouter_7 ⟨rfl, rfl⟩
set_option maxHeartbeats 4000000 in
set_option maxRecDepth 100000 in
theorem ct_X4_refuses0 (l : Launch) (E : hr_E) (S : hr_S) (o : Int64) (k : Int32) (h0 : S 14 0 0 = 0) (hk : ¬ k ≤ 0) : hr_Mi l E yX4_refuses (Cond.code yX4_refuses cX4_refuses 3 (some .boolean) :: hr_W) ({ frames := 0, cells := 0, slots := 0, locals := 0 } : Room) [.ref (hr_ad E 14 0), .int 0, .int k] S o (fun r u => r = (if False then 1 else 0) ∧ u = S) := by
  refine hr_of (by decide) (Nat.le_of_ble_eq_true rfl) (fun p e s m below meth c C hr => ?_)
  refine hr_aload_n C dX4_refuses_0 rfl 0 rfl ?_
  refine hr_get (k := 14) (i := 0) (fld := 0) C (by decide) rfl rfl (by decide) kU_X4 kF_X4_48 rfl rfl dX4_refuses_1 ?_
  refine hr_tp (y := nI 0) h0 ?_
  refine hr_if_ne C 16 dX4_refuses_4 (by decide) (fun c4 => ?_) (fun c4 => ?_)
  · skip
    exact absurd c4 (by decide)
  · skip
    have c4 : 0 = 0 := (nI_eq (a := 0) (b := 0) (by omega) (by omega)).mp c4
    refine hr_iload_n C dX4_refuses_7 rfl 1 rfl ?_
    refine hr_if_eq C 16 dX4_refuses_8 (by decide) (fun c8 => ?_) (fun c8 => ?_)
    · skip
      have c8 : 0 = 0 := (nI_eq (a := 0) (b := 0) (by omega) (by omega)).mp c8
      refine hr_aload_n C dX4_refuses_16 rfl 0 rfl ?_
      refine hr_get (k := 14) (i := 0) (fld := 0) C (by decide) rfl rfl (by decide) kU_X4 kF_X4_48 rfl rfl dX4_refuses_17 ?_
      refine hr_tp (y := nI 0) h0 ?_
      refine hr_if_le C 27 dX4_refuses_20 (by decide) (fun c20 => ?_) (fun c20 => ?_)
      · skip
        have c20 : 0 ≤ 0 := (nI_leI (a := 0) (b := 0) (by omega) (by omega)).mp c20
        have c20n : ¬ 0 < 0 := Nat.not_lt.mpr c20
        refine hr_iconst (v := 0) C dX4_refuses_27 (by decide) ?_
        exact hr_zret C hr rfl dX4_refuses_28 ⟨rfl, rfl⟩
      · skip
        exact absurd c20 (by decide)
    · skip
      exact absurd c8 (by decide)
set_option maxHeartbeats 4000000 in
set_option maxRecDepth 100000 in
theorem ct_X4_refuses1 (l : Launch) (E : hr_E) (S : hr_S) (o : Int64) (k : Int32) (h0 : S 14 0 0 = 0) (hk : ¬ k ≤ 0) : hr_Mi l E yX4_refuses (Cond.code yX4_refuses cX4_refuses 3 (some .boolean) :: hr_W) ({ frames := 0, cells := 0, slots := 0, locals := 0 } : Room) [.ref (hr_ad E 14 0), .int 1, .int k] S o (fun r u => r = (if True then 1 else 0) ∧ u = hr_w S 14 0 0 k) := by
  refine hr_of (by decide) (Nat.le_of_ble_eq_true rfl) (fun p e s m below meth c C hr => ?_)
  refine hr_aload_n C dX4_refuses_0 rfl 0 rfl ?_
  refine hr_get (k := 14) (i := 0) (fld := 0) C (by decide) rfl rfl (by decide) kU_X4 kF_X4_48 rfl rfl dX4_refuses_1 ?_
  refine hr_tp (y := nI 0) h0 ?_
  refine hr_if_ne C 16 dX4_refuses_4 (by decide) (fun c4 => ?_) (fun c4 => ?_)
  · skip
    exact absurd c4 (by decide)
  · skip
    have c4 : 0 = 0 := (nI_eq (a := 0) (b := 0) (by omega) (by omega)).mp c4
    refine hr_iload_n C dX4_refuses_7 rfl 1 rfl ?_
    refine hr_if_eq C 16 dX4_refuses_8 (by decide) (fun c8 => ?_) (fun c8 => ?_)
    · skip
      exact absurd c8 (by decide)
    · skip
      have c8 : ¬ 1 = 0 := fun h => c8 ((nI_eq (a := 1) (b := 0) (by omega) (by omega)).mpr h)
      refine hr_aload_n C dX4_refuses_11 rfl 0 rfl ?_
      refine hr_iload_n C dX4_refuses_12 rfl 2 rfl ?_
      refine hr_put (k := 14) (i := 0) (fld := 0) C (by decide) rfl rfl (by decide) kU_X4 kF_X4_48 rfl tyX4 tyX4_ok nmX4 rfl (by decide +kernel) (Nat.le_of_ble_eq_true rfl) (by simp [hr_cell, hr_w, hr_wA, upd]) rfl dX4_refuses_13 ?_
      refine hr_aload_n C dX4_refuses_16 rfl 0 rfl ?_
      refine hr_get (k := 14) (i := 0) (fld := 0) C (by decide) rfl rfl (by decide) kU_X4 kF_X4_48 rfl rfl dX4_refuses_17 ?_
      refine hr_tp (y := k) (by simp [hr_w, hr_wA, upd]) ?_
      refine hr_if_le C 27 dX4_refuses_20 (by decide) (fun c20 => ?_) (fun c20 => ?_)
      · skip
        have c20n : ¬ 0 < k := Int32.not_lt.mpr c20
        exact absurd c20 hk
      · skip
        have c20n : 0 < k := Int32.not_le.mp c20
        refine hr_iconst (v := 1) C dX4_refuses_23 (by decide) ?_
        refine hr_goto C 28 dX4_refuses_24 (by decide) ?_
        exact hr_zret C hr rfl dX4_refuses_28 ⟨rfl, rfl⟩
set_option maxHeartbeats 4000000 in
set_option maxRecDepth 100000 in
theorem ct_X4_refusesb (l : Launch) (E : hr_E) (S : hr_S) (o : Int64) (bd k : Int32) (h0 : S 14 0 0 = 0) (hk : ¬ k ≤ 0) : hr_Mi l E yX4_refuses (Cond.code yX4_refuses cX4_refuses 3 (some .boolean) :: hr_W) ({ frames := 0, cells := 0, slots := 0, locals := 0 } : Room) [.ref (hr_ad E 14 0), .int bd, .int k] S o (fun r u => r = (if ¬ bd = 0 then 1 else 0) ∧ u = (if ¬ bd = 0 then hr_w S 14 0 0 k else S)) := by
  refine hr_of (by decide) (Nat.le_of_ble_eq_true rfl) (fun p e s m below meth c C hr => ?_)
  refine hr_aload_n C dX4_refuses_0 rfl 0 rfl ?_
  refine hr_get (k := 14) (i := 0) (fld := 0) C (by decide) rfl rfl (by decide) kU_X4 kF_X4_48 rfl rfl dX4_refuses_1 ?_
  refine hr_tp (y := nI 0) h0 ?_
  refine hr_if_ne C 16 dX4_refuses_4 (by decide) (fun c4 => ?_) (fun c4 => ?_)
  · skip
    exact absurd c4 (by decide)
  · skip
    have c4 : 0 = 0 := (nI_eq (a := 0) (b := 0) (by omega) (by omega)).mp c4
    refine hr_iload_n C dX4_refuses_7 rfl 1 rfl ?_
    refine hr_if_eq C 16 dX4_refuses_8 (by decide) (fun c8 => ?_) (fun c8 => ?_)
    · skip
      refine hr_aload_n C dX4_refuses_16 rfl 0 rfl ?_
      refine hr_get (k := 14) (i := 0) (fld := 0) C (by decide) rfl rfl (by decide) kU_X4 kF_X4_48 rfl rfl dX4_refuses_17 ?_
      refine hr_tp (y := nI 0) h0 ?_
      refine hr_if_le C 27 dX4_refuses_20 (by decide) (fun c20 => ?_) (fun c20 => ?_)
      · skip
        have c20 : 0 ≤ 0 := (nI_leI (a := 0) (b := 0) (by omega) (by omega)).mp c20
        have c20n : ¬ 0 < 0 := Nat.not_lt.mpr c20
        refine hr_iconst (v := 0) C dX4_refuses_27 (by decide) ?_
        exact hr_zret C hr rfl dX4_refuses_28 ⟨by simp [c8], by simp [c8]⟩
      · skip
        exact absurd c20 (by decide)
    · skip
      refine hr_aload_n C dX4_refuses_11 rfl 0 rfl ?_
      refine hr_iload_n C dX4_refuses_12 rfl 2 rfl ?_
      refine hr_put (k := 14) (i := 0) (fld := 0) C (by decide) rfl rfl (by decide) kU_X4 kF_X4_48 rfl tyX4 tyX4_ok nmX4 rfl (by decide +kernel) (Nat.le_of_ble_eq_true rfl) (by simp [hr_cell, hr_w, hr_wA, upd]) rfl dX4_refuses_13 ?_
      refine hr_aload_n C dX4_refuses_16 rfl 0 rfl ?_
      refine hr_get (k := 14) (i := 0) (fld := 0) C (by decide) rfl rfl (by decide) kU_X4 kF_X4_48 rfl rfl dX4_refuses_17 ?_
      refine hr_tp (y := k) (by simp [hr_w, hr_wA, upd]) ?_
      refine hr_if_le C 27 dX4_refuses_20 (by decide) (fun c20 => ?_) (fun c20 => ?_)
      · skip
        have c20n : ¬ 0 < k := Int32.not_lt.mpr c20
        exact absurd c20 hk
      · skip
        have c20n : 0 < k := Int32.not_le.mp c20
        refine hr_iconst (v := 1) C dX4_refuses_23 (by decide) ?_
        refine hr_goto C 28 dX4_refuses_24 (by decide) ?_
        exact hr_zret C hr rfl dX4_refuses_28 ⟨by simp [c8], by simp [c8]⟩
set_option maxHeartbeats 4000000 in
set_option maxRecDepth 100000 in
theorem ct_X4_put (l : Launch) (E : hr_E) (S : hr_S) (o : Int64) (b : Int32) (n9 : Nat) (hn : S 14 0 16 = nI n9) (hl : n9 < 164) : hr_Mv l E yX4_put (Cond.code yX4_put cX4_put 2 none :: hr_W) ({ frames := 0, cells := 0, slots := 0, locals := 0 } : Room) [.ref (hr_ad E 14 0), .int b] S o (fun u => u = md_put S n9 b) := by
  refine hr_of (by decide) (Nat.le_of_ble_eq_true rfl) (fun p e s m below meth c C hr => ?_)
  refine hr_aload_n C dX4_put_0 rfl 0 rfl ?_
  refine hr_get (k := 14) (i := 0) (fld := 17) C (by decide) rfl rfl (by decide) kU_X4 kF_X4_42 rfl rfl dX4_put_1 ?_
  refine hr_aload_n C dX4_put_4 rfl 0 rfl ?_
  refine hr_get (k := 14) (i := 0) (fld := 16) C (by decide) rfl rfl (by decide) kU_X4 kF_X4_56 rfl rfl dX4_put_5 ?_
  refine hr_tp (y := nI n9) hn ?_
  refine hr_iload_n C dX4_put_8 rfl 1 rfl ?_
  refine hr_iast (k := 25) (i := 0) n9 C (by decide) rfl rfl (show n9 < 164 by omega) (by decide) (by simp [hr_cell, hr_wA]) rfl dX4_put_9 ?_
  refine hr_aload_n C dX4_put_10 rfl 0 rfl ?_
  refine hr_dup C dX4_put_11 rfl ?_
  refine hr_get (k := 14) (i := 0) (fld := 16) C (by decide) rfl rfl (by decide) kU_X4 kF_X4_56 rfl rfl dX4_put_12 ?_
  refine hr_tp (y := S 14 0 16) rfl ?_
  refine hr_tp (y := nI n9) hn ?_
  refine hr_iconst (v := 1) C dX4_put_15 (by decide) ?_
  refine hr_iadd (v := nI (n9 + 1)) C dX4_put_16 (nI_add n9 1) ?_
  refine hr_put (k := 14) (i := 0) (fld := 16) C (by decide) rfl rfl (by decide) kU_X4 kF_X4_56 rfl tyX4 tyX4_ok nmX4 rfl (by decide +kernel) (Nat.le_of_ble_eq_true rfl) (by simp [hr_cell, hr_w, hr_wA, upd]) rfl dX4_put_17 ?_
  exact hr_vret C hr dX4_put_20 rfl
set_option maxHeartbeats 4000000 in
set_option maxRecDepth 100000 in
theorem ct_X4_begin (l : Launch) (E : hr_E) (S : hr_S) (o : Int64) (b : Int32) : hr_Mv l E yX4_begin (Cond.code yX4_begin cX4_begin 2 none :: hr_W) ({ frames := 1, cells := 0, slots := 0, locals := 21 } : Room) [.ref (hr_ad E 14 0), .int b] S o (fun u => u = md_begin S b) := by
  refine hr_of (by decide) (Nat.le_of_ble_eq_true rfl) (fun p e s m below meth c C hr => ?_)
  refine hr_aload_n C dX4_begin_0 rfl 0 rfl ?_
  refine hr_iconst (v := 0) C dX4_begin_1 (by decide) ?_
  refine hr_put (k := 14) (i := 0) (fld := 16) C (by decide) rfl rfl (by decide) kU_X4 kF_X4_56 rfl tyX4 tyX4_ok nmX4 rfl (by decide +kernel) (Nat.le_of_ble_eq_true rfl) (by simp [hr_cell, hr_w, hr_wA, upd]) rfl dX4_begin_2 ?_
  refine hr_aload_n C dX4_begin_5 rfl 0 rfl ?_
  refine hr_iload_n C dX4_begin_6 rfl 1 rfl ?_
  refine hr_cVv C (ct_X4_put l E (hr_w S 14 0 16 0) o b 0 (hr_w_self _ _ _ _ _) (by omega)) (cwV 1 C.1.2.2.2.2 (hr_gV kM_X4_59 kI_X4_put kS_X4_put kN_X4 kC_X4_put) rfl rfl rfl (by decide +kernel) ⟨Nat.le_of_ble_eq_true rfl, Nat.le_of_ble_eq_true rfl⟩) (by decide) rfl rfl rfl (Nat.le_of_ble_eq_true rfl) dX4_begin_7 ⟨Nat.le_of_ble_eq_true rfl, Nat.le_of_ble_eq_true rfl⟩ (fun S2 h3 => ?_) rfl
  refine hr_st (S1 := (md_put (hr_w S 14 0 16 0) 0 b)) h3 ?_
  refine hr_aload_n C dX4_begin_10 rfl 0 rfl ?_
  refine hr_iconst (v := 2) C dX4_begin_11 (by decide) ?_
  refine hr_cVv C (ct_X4_put l E (md_put (hr_w S 14 0 16 0) 0 b) o 2 1 (md_put_m _ _ _) (by omega)) (cwV 1 C.1.2.2.2.2 (hr_gV kM_X4_59 kI_X4_put kS_X4_put kN_X4 kC_X4_put) rfl rfl rfl (by decide +kernel) ⟨Nat.le_of_ble_eq_true rfl, Nat.le_of_ble_eq_true rfl⟩) (by decide) rfl rfl rfl (Nat.le_of_ble_eq_true rfl) dX4_begin_12 ⟨Nat.le_of_ble_eq_true rfl, Nat.le_of_ble_eq_true rfl⟩ (fun S5 h6 => ?_) rfl
  refine hr_st (S1 := (md_put (md_put (hr_w S 14 0 16 0) 0 b) 1 2)) h6 ?_
  refine hr_aload_n C dX4_begin_15 rfl 0 rfl ?_
  refine hr_iconst (v := 0) C dX4_begin_16 (by decide) ?_
  refine hr_cVv C (ct_X4_put l E (md_put (md_put (hr_w S 14 0 16 0) 0 b) 1 2) o 0 2 (md_put_m _ _ _) (by omega)) (cwV 1 C.1.2.2.2.2 (hr_gV kM_X4_59 kI_X4_put kS_X4_put kN_X4 kC_X4_put) rfl rfl rfl (by decide +kernel) ⟨Nat.le_of_ble_eq_true rfl, Nat.le_of_ble_eq_true rfl⟩) (by decide) rfl rfl rfl (Nat.le_of_ble_eq_true rfl) dX4_begin_17 ⟨Nat.le_of_ble_eq_true rfl, Nat.le_of_ble_eq_true rfl⟩ (fun S8 h9 => ?_) rfl
  refine hr_st (S1 := (md_put (md_put (md_put (hr_w S 14 0 16 0) 0 b) 1 2) 2 0)) h9 ?_
  refine hr_aload_n C dX4_begin_20 rfl 0 rfl ?_
  refine hr_iconst (v := 0) C dX4_begin_21 (by decide) ?_
  refine hr_cVv C (ct_X4_put l E (md_put (md_put (md_put (hr_w S 14 0 16 0) 0 b) 1 2) 2 0) o 0 3 (md_put_m _ _ _) (by omega)) (cwV 1 C.1.2.2.2.2 (hr_gV kM_X4_59 kI_X4_put kS_X4_put kN_X4 kC_X4_put) rfl rfl rfl (by decide +kernel) ⟨Nat.le_of_ble_eq_true rfl, Nat.le_of_ble_eq_true rfl⟩) (by decide) rfl rfl rfl (Nat.le_of_ble_eq_true rfl) dX4_begin_22 ⟨Nat.le_of_ble_eq_true rfl, Nat.le_of_ble_eq_true rfl⟩ (fun S11 h12 => ?_) rfl
  refine hr_st (S1 := (md_put (md_put (md_put (md_put (hr_w S 14 0 16 0) 0 b) 1 2) 2 0) 3 0)) h12 ?_
  exact hr_vret C hr dX4_begin_25 rfl
set_option maxHeartbeats 4000000 in
set_option maxRecDepth 100000 in
theorem ct_X4_entry (l : Launch) (E : hr_E) (S : hr_S) (o : Int64) (f9 d9 t9 : Int32) (n9 : Nat) (hn : S 14 0 16 = nI n9) (hl : n9 ≤ 144) : hr_Mv l E yX4_entry (Cond.code yX4_entry cX4_entry 5 none :: hr_W) ({ frames := 1, cells := 0, slots := 0, locals := 21 } : Room) [.ref (hr_ad E 14 0), .int f9, .int d9, .int t9] S o (fun u => u = md_entry S n9 f9 d9 t9) := by
  refine hr_of (by decide) (Nat.le_of_ble_eq_true rfl) (fun p e s m below meth c C hr => ?_)
  refine hr_aload_n C dX4_entry_0 rfl 0 rfl ?_
  refine hr_iconst (v := 0) C dX4_entry_1 (by decide) ?_
  refine hr_cVv C (ct_X4_put l E S o 0 n9 hn (by omega)) (cwV 1 C.1.2.2.2.2 (hr_gV kM_X4_59 kI_X4_put kS_X4_put kN_X4 kC_X4_put) rfl rfl rfl (by decide +kernel) ⟨Nat.le_of_ble_eq_true rfl, Nat.le_of_ble_eq_true rfl⟩) (by decide) rfl rfl rfl (Nat.le_of_ble_eq_true rfl) dX4_entry_2 ⟨Nat.le_of_ble_eq_true rfl, Nat.le_of_ble_eq_true rfl⟩ (fun S2 h3 => ?_) rfl
  refine hr_st (S1 := (md_put S n9 0)) h3 ?_
  refine hr_aload_n C dX4_entry_5 rfl 0 rfl ?_
  refine hr_iload_n C dX4_entry_6 rfl 1 rfl ?_
  refine hr_cVv C (ct_X4_put l E (md_put S n9 0) o f9 (n9 + 1) (md_put_m _ _ _) (by omega)) (cwV 1 C.1.2.2.2.2 (hr_gV kM_X4_59 kI_X4_put kS_X4_put kN_X4 kC_X4_put) rfl rfl rfl (by decide +kernel) ⟨Nat.le_of_ble_eq_true rfl, Nat.le_of_ble_eq_true rfl⟩) (by decide) rfl rfl rfl (Nat.le_of_ble_eq_true rfl) dX4_entry_7 ⟨Nat.le_of_ble_eq_true rfl, Nat.le_of_ble_eq_true rfl⟩ (fun S5 h6 => ?_) rfl
  refine hr_st (S1 := (md_put (md_put S n9 0) (n9 + 1) f9)) h6 ?_
  refine hr_aload_n C dX4_entry_10 rfl 0 rfl ?_
  refine hr_iconst (v := 0) C dX4_entry_11 (by decide) ?_
  refine hr_cVv C (ct_X4_put l E (md_put (md_put S n9 0) (n9 + 1) f9) o 0 (n9 + 2) (md_put_m _ _ _) (by omega)) (cwV 1 C.1.2.2.2.2 (hr_gV kM_X4_59 kI_X4_put kS_X4_put kN_X4 kC_X4_put) rfl rfl rfl (by decide +kernel) ⟨Nat.le_of_ble_eq_true rfl, Nat.le_of_ble_eq_true rfl⟩) (by decide) rfl rfl rfl (Nat.le_of_ble_eq_true rfl) dX4_entry_12 ⟨Nat.le_of_ble_eq_true rfl, Nat.le_of_ble_eq_true rfl⟩ (fun S8 h9 => ?_) rfl
  refine hr_st (S1 := (md_put (md_put (md_put S n9 0) (n9 + 1) f9) (n9 + 2) 0)) h9 ?_
  refine hr_aload_n C dX4_entry_15 rfl 0 rfl ?_
  refine hr_iconst (v := 0) C dX4_entry_16 (by decide) ?_
  refine hr_cVv C (ct_X4_put l E (md_put (md_put (md_put S n9 0) (n9 + 1) f9) (n9 + 2) 0) o 0 (n9 + 3) (md_put_m _ _ _) (by omega)) (cwV 1 C.1.2.2.2.2 (hr_gV kM_X4_59 kI_X4_put kS_X4_put kN_X4 kC_X4_put) rfl rfl rfl (by decide +kernel) ⟨Nat.le_of_ble_eq_true rfl, Nat.le_of_ble_eq_true rfl⟩) (by decide) rfl rfl rfl (Nat.le_of_ble_eq_true rfl) dX4_entry_17 ⟨Nat.le_of_ble_eq_true rfl, Nat.le_of_ble_eq_true rfl⟩ (fun S11 h12 => ?_) rfl
  refine hr_st (S1 := (md_put (md_put (md_put (md_put S n9 0) (n9 + 1) f9) (n9 + 2) 0) (n9 + 3) 0)) h12 ?_
  refine hr_aload_n C dX4_entry_20 rfl 0 rfl ?_
  refine hr_bipush (v := 10) C dX4_entry_21 (by decide) ?_
  refine hr_cVv C (ct_X4_put l E (md_put (md_put (md_put (md_put S n9 0) (n9 + 1) f9) (n9 + 2) 0) (n9 + 3) 0) o 10 (n9 + 4) (md_put_m _ _ _) (by omega)) (cwV 1 C.1.2.2.2.2 (hr_gV kM_X4_59 kI_X4_put kS_X4_put kN_X4 kC_X4_put) rfl rfl rfl (by decide +kernel) ⟨Nat.le_of_ble_eq_true rfl, Nat.le_of_ble_eq_true rfl⟩) (by decide) rfl rfl rfl (Nat.le_of_ble_eq_true rfl) dX4_entry_23 ⟨Nat.le_of_ble_eq_true rfl, Nat.le_of_ble_eq_true rfl⟩ (fun S14 h15 => ?_) rfl
  refine hr_st (S1 := (md_put (md_put (md_put (md_put (md_put S n9 0) (n9 + 1) f9) (n9 + 2) 0) (n9 + 3) 0) (n9 + 4) 10)) h15 ?_
  refine hr_aload_n C dX4_entry_26 rfl 0 rfl ?_
  refine hr_iconst (v := 0) C dX4_entry_27 (by decide) ?_
  refine hr_cVv C (ct_X4_put l E (md_put (md_put (md_put (md_put (md_put S n9 0) (n9 + 1) f9) (n9 + 2) 0) (n9 + 3) 0) (n9 + 4) 10) o 0 (n9 + 5) (md_put_m _ _ _) (by omega)) (cwV 1 C.1.2.2.2.2 (hr_gV kM_X4_59 kI_X4_put kS_X4_put kN_X4 kC_X4_put) rfl rfl rfl (by decide +kernel) ⟨Nat.le_of_ble_eq_true rfl, Nat.le_of_ble_eq_true rfl⟩) (by decide) rfl rfl rfl (Nat.le_of_ble_eq_true rfl) dX4_entry_28 ⟨Nat.le_of_ble_eq_true rfl, Nat.le_of_ble_eq_true rfl⟩ (fun S17 h18 => ?_) rfl
  refine hr_st (S1 := (md_put (md_put (md_put (md_put (md_put (md_put S n9 0) (n9 + 1) f9) (n9 + 2) 0) (n9 + 3) 0) (n9 + 4) 10) (n9 + 5) 0)) h18 ?_
  refine hr_aload_n C dX4_entry_31 rfl 0 rfl ?_
  refine hr_iload_n C dX4_entry_32 rfl 2 rfl ?_
  refine hr_cVv C (ct_X4_put l E (md_put (md_put (md_put (md_put (md_put (md_put S n9 0) (n9 + 1) f9) (n9 + 2) 0) (n9 + 3) 0) (n9 + 4) 10) (n9 + 5) 0) o d9 (n9 + 6) (md_put_m _ _ _) (by omega)) (cwV 1 C.1.2.2.2.2 (hr_gV kM_X4_59 kI_X4_put kS_X4_put kN_X4 kC_X4_put) rfl rfl rfl (by decide +kernel) ⟨Nat.le_of_ble_eq_true rfl, Nat.le_of_ble_eq_true rfl⟩) (by decide) rfl rfl rfl (Nat.le_of_ble_eq_true rfl) dX4_entry_33 ⟨Nat.le_of_ble_eq_true rfl, Nat.le_of_ble_eq_true rfl⟩ (fun S20 h21 => ?_) rfl
  refine hr_st (S1 := (md_put (md_put (md_put (md_put (md_put (md_put (md_put S n9 0) (n9 + 1) f9) (n9 + 2) 0) (n9 + 3) 0) (n9 + 4) 10) (n9 + 5) 0) (n9 + 6) d9)) h21 ?_
  refine hr_aload_n C dX4_entry_36 rfl 0 rfl ?_
  refine hr_iconst (v := 0) C dX4_entry_37 (by decide) ?_
  refine hr_cVv C (ct_X4_put l E (md_put (md_put (md_put (md_put (md_put (md_put (md_put S n9 0) (n9 + 1) f9) (n9 + 2) 0) (n9 + 3) 0) (n9 + 4) 10) (n9 + 5) 0) (n9 + 6) d9) o 0 (n9 + 7) (md_put_m _ _ _) (by omega)) (cwV 1 C.1.2.2.2.2 (hr_gV kM_X4_59 kI_X4_put kS_X4_put kN_X4 kC_X4_put) rfl rfl rfl (by decide +kernel) ⟨Nat.le_of_ble_eq_true rfl, Nat.le_of_ble_eq_true rfl⟩) (by decide) rfl rfl rfl (Nat.le_of_ble_eq_true rfl) dX4_entry_38 ⟨Nat.le_of_ble_eq_true rfl, Nat.le_of_ble_eq_true rfl⟩ (fun S23 h24 => ?_) rfl
  refine hr_st (S1 := (md_put (md_put (md_put (md_put (md_put (md_put (md_put (md_put S n9 0) (n9 + 1) f9) (n9 + 2) 0) (n9 + 3) 0) (n9 + 4) 10) (n9 + 5) 0) (n9 + 6) d9) (n9 + 7) 0)) h24 ?_
  refine hr_aload_n C dX4_entry_41 rfl 0 rfl ?_
  refine hr_sipush (v := 255) C dX4_entry_42 (by decide) ?_
  refine hr_cVv C (ct_X4_put l E (md_put (md_put (md_put (md_put (md_put (md_put (md_put (md_put S n9 0) (n9 + 1) f9) (n9 + 2) 0) (n9 + 3) 0) (n9 + 4) 10) (n9 + 5) 0) (n9 + 6) d9) (n9 + 7) 0) o 255 (n9 + 8) (md_put_m _ _ _) (by omega)) (cwV 1 C.1.2.2.2.2 (hr_gV kM_X4_59 kI_X4_put kS_X4_put kN_X4 kC_X4_put) rfl rfl rfl (by decide +kernel) ⟨Nat.le_of_ble_eq_true rfl, Nat.le_of_ble_eq_true rfl⟩) (by decide) rfl rfl rfl (Nat.le_of_ble_eq_true rfl) dX4_entry_45 ⟨Nat.le_of_ble_eq_true rfl, Nat.le_of_ble_eq_true rfl⟩ (fun S26 h27 => ?_) rfl
  refine hr_st (S1 := (md_put (md_put (md_put (md_put (md_put (md_put (md_put (md_put (md_put S n9 0) (n9 + 1) f9) (n9 + 2) 0) (n9 + 3) 0) (n9 + 4) 10) (n9 + 5) 0) (n9 + 6) d9) (n9 + 7) 0) (n9 + 8) 255)) h27 ?_
  refine hr_aload_n C dX4_entry_48 rfl 0 rfl ?_
  refine hr_sipush (v := 255) C dX4_entry_49 (by decide) ?_
  refine hr_cVv C (ct_X4_put l E (md_put (md_put (md_put (md_put (md_put (md_put (md_put (md_put (md_put S n9 0) (n9 + 1) f9) (n9 + 2) 0) (n9 + 3) 0) (n9 + 4) 10) (n9 + 5) 0) (n9 + 6) d9) (n9 + 7) 0) (n9 + 8) 255) o 255 (n9 + 9) (md_put_m _ _ _) (by omega)) (cwV 1 C.1.2.2.2.2 (hr_gV kM_X4_59 kI_X4_put kS_X4_put kN_X4 kC_X4_put) rfl rfl rfl (by decide +kernel) ⟨Nat.le_of_ble_eq_true rfl, Nat.le_of_ble_eq_true rfl⟩) (by decide) rfl rfl rfl (Nat.le_of_ble_eq_true rfl) dX4_entry_52 ⟨Nat.le_of_ble_eq_true rfl, Nat.le_of_ble_eq_true rfl⟩ (fun S29 h30 => ?_) rfl
  refine hr_st (S1 := (md_put (md_put (md_put (md_put (md_put (md_put (md_put (md_put (md_put (md_put S n9 0) (n9 + 1) f9) (n9 + 2) 0) (n9 + 3) 0) (n9 + 4) 10) (n9 + 5) 0) (n9 + 6) d9) (n9 + 7) 0) (n9 + 8) 255) (n9 + 9) 255)) h30 ?_
  refine hr_aload_n C dX4_entry_55 rfl 0 rfl ?_
  refine hr_sipush (v := 255) C dX4_entry_56 (by decide) ?_
  refine hr_cVv C (ct_X4_put l E (md_put (md_put (md_put (md_put (md_put (md_put (md_put (md_put (md_put (md_put S n9 0) (n9 + 1) f9) (n9 + 2) 0) (n9 + 3) 0) (n9 + 4) 10) (n9 + 5) 0) (n9 + 6) d9) (n9 + 7) 0) (n9 + 8) 255) (n9 + 9) 255) o 255 (n9 + 10) (md_put_m _ _ _) (by omega)) (cwV 1 C.1.2.2.2.2 (hr_gV kM_X4_59 kI_X4_put kS_X4_put kN_X4 kC_X4_put) rfl rfl rfl (by decide +kernel) ⟨Nat.le_of_ble_eq_true rfl, Nat.le_of_ble_eq_true rfl⟩) (by decide) rfl rfl rfl (Nat.le_of_ble_eq_true rfl) dX4_entry_59 ⟨Nat.le_of_ble_eq_true rfl, Nat.le_of_ble_eq_true rfl⟩ (fun S32 h33 => ?_) rfl
  refine hr_st (S1 := (md_put (md_put (md_put (md_put (md_put (md_put (md_put (md_put (md_put (md_put (md_put S n9 0) (n9 + 1) f9) (n9 + 2) 0) (n9 + 3) 0) (n9 + 4) 10) (n9 + 5) 0) (n9 + 6) d9) (n9 + 7) 0) (n9 + 8) 255) (n9 + 9) 255) (n9 + 10) 255)) h33 ?_
  refine hr_iconst (v := 0) C dX4_entry_62 (by decide) ?_
  refine hr_istore C [(4, .int 0), (0, .ref (hr_ad E 14 0)), (1, .int f9), (2, .int d9), (3, .int t9)] dX4_entry_63 (by decide) rfl ?_
  have LP65 : ∀ (n k9 : Nat) , k9 ≤ 8 → 8 + 1 ≤ k9 + n → hr_G p l e ({ frames := 1, cells := 0, slots := 0, locals := 21 } : Room) s m #[.ref (hr_ad E 14 0), .int f9, .int d9, .int t9] below meth c (MQ below (va_Qv (fun u => u = md_entry S n9 f9 d9 t9) (fun u t => hr_P E u o t.heap) (hr_A E)) #[.ref (hr_ad E 14 0), .int f9, .int d9, .int t9] s 0 0 (hr_A E)) E 5 0 0 (md_zero (md_ent1 S n9 f9 d9) (n9 + 11) k9) o [(0, .ref (hr_ad E 14 0)), (1, .int f9), (2, .int d9), (3, .int t9), (4, .int (nI k9))] 65 [] := by
    intro n
    induction n with
    | zero => intro k9  h1 h2; omega
    | succ n ih =>
      intro k9  hv1 hv2
      refine hr_iload C dX4_entry_65 4 rfl ?_
      refine hr_bipush (v := 8) C dX4_entry_67 (by decide) ?_
      refine hr_icmp_ge C 83 dX4_entry_69 (by decide) (fun c69 => ?_) (fun c69 => ?_)
      · skip
        have c69 : 8 ≤ k9 := (nI_leI (a := 8) (b := k9) (by omega) (by omega)).mp c69
        have c69n : ¬ k9 < 8 := Nat.not_lt.mpr c69
        refine hr_aload_n C dX4_entry_83 rfl 0 rfl ?_
        refine hr_iload_n C dX4_entry_84 rfl 3 rfl ?_
        refine hr_cVv C (ct_X4_put l E (md_zero (md_ent1 S n9 f9 d9) (n9 + 11) k9) o t9 (n9 + 19) (by rw [show k9 = 8 by omega]; exact md_zero_m (md_put_m _ _ _) 8) (by omega)) (cwV 1 C.1.2.2.2.2 (hr_gV kM_X4_59 kI_X4_put kS_X4_put kN_X4 kC_X4_put) rfl rfl rfl (by decide +kernel) ⟨Nat.le_of_ble_eq_true rfl, Nat.le_of_ble_eq_true rfl⟩) (by decide) rfl rfl rfl (Nat.le_of_ble_eq_true rfl) dX4_entry_85 ⟨Nat.le_of_ble_eq_true rfl, Nat.le_of_ble_eq_true rfl⟩ (fun S35 h36 => ?_) rfl
        refine hr_st (S1 := (md_put (md_zero (md_ent1 S n9 f9 d9) (n9 + 11) k9) (n9 + 19) t9)) h36 ?_
        exact hr_vret C hr dX4_entry_88 (by rw [show k9 = 8 by omega]; rfl)
      · skip
        have c69 : ¬ 8 ≤ k9 := fun h => c69 ((nI_leI (a := 8) (b := k9) (by omega) (by omega)).mpr h)
        have c69n : k9 < 8 := Nat.not_le.mp c69
        refine hr_aload_n C dX4_entry_72 rfl 0 rfl ?_
        refine hr_iconst (v := 0) C dX4_entry_73 (by decide) ?_
        refine hr_cVv C (ct_X4_put l E (md_zero (md_ent1 S n9 f9 d9) (n9 + 11) k9) o 0 (n9 + 11 + k9) (md_zero_m (md_put_m _ _ _) k9) (by omega)) (cwV 1 C.1.2.2.2.2 (hr_gV kM_X4_59 kI_X4_put kS_X4_put kN_X4 kC_X4_put) rfl rfl rfl (by decide +kernel) ⟨Nat.le_of_ble_eq_true rfl, Nat.le_of_ble_eq_true rfl⟩) (by decide) rfl rfl rfl (Nat.le_of_ble_eq_true rfl) dX4_entry_74 ⟨Nat.le_of_ble_eq_true rfl, Nat.le_of_ble_eq_true rfl⟩ (fun S38 h39 => ?_) rfl
        refine hr_st (S1 := (md_put (md_zero (md_ent1 S n9 f9 d9) (n9 + 11) k9) (n9 + 11 + k9) 0)) h39 ?_
        refine hr_iinc (v := nI (k9 + 1)) C [(4, .int (nI (k9 + 1))), (0, .ref (hr_ad E 14 0)), (1, .int f9), (2, .int d9), (3, .int t9)] dX4_entry_77 4 rfl (nI_add k9 1) (by decide) rfl ?_
        refine hr_goto C 65 dX4_entry_80 (by decide) ?_
        refine hr_sub [1, 2, 3, 4, 0] rfl ?_
        refine hr_st (S1 := md_zero (md_ent1 S n9 f9 d9) (n9 + 11) (k9 + 1)) rfl ?_
        exact ih (k9 + 1)  (by omega) (by omega)
  refine hr_sub [1, 2, 3, 4, 0] rfl ?_
  refine hr_st (S1 := md_zero (md_ent1 S n9 f9 d9) (n9 + 11) 0) rfl ?_
  exact LP65 (8 + 1) 0  (by omega) (by omega)
theorem md_cpL_k (S : hr_S) (q : Nat) {k : Nat} (hk : k ≠ 24) (i' j' : Nat) : ∀ i, md_cpL S q i k i' j' = S k i' j'
  | 0 => rfl
  | i + 1 => by unfold md_cpL; rw [hr_w_k _ hk]; exact md_cpL_k S q hk i' j' i
theorem md_tkI_k (S : hr_S) (q : Nat) {k : Nat} (hk : k ≠ 24) (i' j' : Nat) : ∀ i, md_tkI S q i k i' j' = S k i' j'
  | 0 => rfl
  | i + 1 => by unfold md_tkI; rw [hr_w_k _ hk]; exact md_tkI_k S q hk i' j' i
theorem md_tkL_k (S : hr_S) (k9 : Nat) {k : Nat} (h1 : k ≠ 21) (h2 : k ≠ 22) (h3 : k ≠ 23) (h4 : k ≠ 24) (i' j' : Nat) : ∀ j, md_tkL S k9 j k i' j' = S k i' j'
  | 0 => rfl
  | j + 1 => by
    unfold md_tkL md_tk1
    rw [md_tkI_k _ _ h4, hr_w_k _ h3, hr_w_k _ h2, hr_w_k _ h1]
    exact md_tkL_k S k9 h1 h2 h3 h4 i' j' j
set_option maxHeartbeats 4000000 in
set_option maxRecDepth 100000 in
theorem ct_X4_post (l : Launch) (E : hr_E) (S : hr_S) (o : Int64) (a b : Int32) (hI : hr_MI S) (hm : nb (S 14 0 16) 165) : hr_Mv l E yX4_post (Cond.code yX4_post cX4_post 4 none :: hr_W) ({ frames := 0, cells := 0, slots := 0, locals := 0 } : Room) [.ref (hr_ad E 14 0), .int a, .int b] S o (fun u => u = md_post S a b) := by
  refine hr_of (by decide) (Nat.le_of_ble_eq_true rfl) (fun p e s m below meth c C hr => ?_)
  have hn2 := hI.1.2
  have hm2 := hm.2
  refine hr_aload_n C dX4_post_0 rfl 0 rfl ?_
  refine hr_dup C dX4_post_1 rfl ?_
  refine hr_get (k := 14) (i := 0) (fld := 3) C (by decide) rfl rfl (by decide) kU_X4 kF_X4_63 rfl rfl dX4_post_2 ?_
  refine hr_iconst (v := 1) C dX4_post_5 (by decide) ?_
  refine hr_iadd C dX4_post_6 rfl ?_
  refine hr_put (k := 14) (i := 0) (fld := 3) C (by decide) rfl rfl (by decide) kU_X4 kF_X4_63 rfl tyX4 tyX4_ok nmX4 rfl (by decide +kernel) (Nat.le_of_ble_eq_true rfl) (by simp [hr_cell, hr_w, hr_wA, upd]) rfl dX4_post_7 ?_
  refine hr_aload_n C dX4_post_10 rfl 0 rfl ?_
  refine hr_get (k := 14) (i := 0) (fld := 11) C (by decide) rfl rfl (by decide) kU_X4 kF_X4_66 rfl rfl dX4_post_11 ?_
  refine hr_tp (y := S 14 0 11) (by simp [hr_w, hr_wA, upd]) ?_
  refine hr_tp (y := nI (un (S 14 0 11))) hI.1.1 ?_
  refine hr_sipush (v := 200) C dX4_post_14 (by decide) ?_
  refine hr_icmp_ne C 31 dX4_post_17 (by decide) (fun c17 => ?_) (fun c17 => ?_)
  · skip
    have c17 : ¬ (un (S 14 0 11)) = 200 := fun h => c17 ((nI_eq (a := (un (S 14 0 11))) (b := 200) (by omega) (by omega)).mpr h)
    refine hr_aload_n C dX4_post_31 rfl 0 rfl ?_
    refine hr_get (k := 14) (i := 0) (fld := 12) C (by decide) rfl rfl (by decide) kU_X4 kF_X4_29 rfl rfl dX4_post_32 ?_
    refine hr_aload_n C dX4_post_35 rfl 0 rfl ?_
    refine hr_get (k := 14) (i := 0) (fld := 11) C (by decide) rfl rfl (by decide) kU_X4 kF_X4_66 rfl rfl dX4_post_36 ?_
    refine hr_tp (y := S 14 0 11) (by simp [hr_w, hr_wA, upd]) ?_
    refine hr_tp (y := nI (un (S 14 0 11))) hI.1.1 ?_
    refine hr_iload_n C dX4_post_39 rfl 1 rfl ?_
    refine hr_iast (k := 21) (i := 0) (un (S 14 0 11)) C (by decide) rfl rfl (show un (S 14 0 11) < 200 by omega) (by decide) (by simp [hr_cell, hr_wA]) rfl dX4_post_40 ?_
    refine hr_aload_n C dX4_post_41 rfl 0 rfl ?_
    refine hr_get (k := 14) (i := 0) (fld := 13) C (by decide) rfl rfl (by decide) kU_X4 kF_X4_32 rfl rfl dX4_post_42 ?_
    refine hr_aload_n C dX4_post_45 rfl 0 rfl ?_
    refine hr_get (k := 14) (i := 0) (fld := 11) C (by decide) rfl rfl (by decide) kU_X4 kF_X4_66 rfl rfl dX4_post_46 ?_
    refine hr_tp (y := S 14 0 11) (by simp [hr_w, hr_wA, upd]) ?_
    refine hr_tp (y := nI (un (S 14 0 11))) hI.1.1 ?_
    refine hr_iload_n C dX4_post_49 rfl 2 rfl ?_
    refine hr_iast (k := 22) (i := 0) (un (S 14 0 11)) C (by decide) rfl rfl (show un (S 14 0 11) < 200 by omega) (by decide) (by simp [hr_cell, hr_wA]) rfl dX4_post_50 ?_
    refine hr_aload_n C dX4_post_51 rfl 0 rfl ?_
    refine hr_get (k := 14) (i := 0) (fld := 14) C (by decide) rfl rfl (by decide) kU_X4 kF_X4_35 rfl rfl dX4_post_52 ?_
    refine hr_aload_n C dX4_post_55 rfl 0 rfl ?_
    refine hr_get (k := 14) (i := 0) (fld := 11) C (by decide) rfl rfl (by decide) kU_X4 kF_X4_66 rfl rfl dX4_post_56 ?_
    refine hr_tp (y := S 14 0 11) (by simp [hr_w, hr_wA, upd]) ?_
    refine hr_tp (y := nI (un (S 14 0 11))) hI.1.1 ?_
    refine hr_aload_n C dX4_post_59 rfl 0 rfl ?_
    refine hr_get (k := 14) (i := 0) (fld := 16) C (by decide) rfl rfl (by decide) kU_X4 kF_X4_56 rfl rfl dX4_post_60 ?_
    refine hr_tp (y := S 14 0 16) (by simp [hr_w, hr_wA, upd]) ?_
    refine hr_tp (y := nI (un (S 14 0 16))) hm.1 ?_
    refine hr_iast (k := 23) (i := 0) (un (S 14 0 11)) C (by decide) rfl rfl (show un (S 14 0 11) < 200 by omega) (by decide) (by simp [hr_cell, hr_wA]) rfl dX4_post_63 ?_
    refine hr_iconst (v := 0) C dX4_post_64 (by decide) ?_
    refine hr_istore_n C [(3, .int 0), (0, .ref (hr_ad E 14 0)), (1, .int a), (2, .int b)] dX4_post_65 rfl (by decide) rfl ?_
    have LP66 : ∀ (n i9 : Nat) , i9 ≤ (un (S 14 0 16)) → (un (S 14 0 16)) + 1 ≤ i9 + n → hr_G p l e ({ frames := 0, cells := 0, slots := 0, locals := 0 } : Room) s m #[.ref (hr_ad E 14 0), .int a, .int b] below meth c (MQ below (va_Qv (fun u => u = md_post S a b) (fun u t => hr_P E u o t.heap) (hr_A E)) #[.ref (hr_ad E 14 0), .int a, .int b] s 0 0 (hr_A E)) E 4 0 0 (md_cpL (md_pst1 S a b) (un (S 14 0 11)) i9) o [(0, .ref (hr_ad E 14 0)), (1, .int a), (2, .int b), (3, .int (nI i9))] 66 [] := by
      intro n
      induction n with
      | zero => intro i9  h1 h2; omega
      | succ n ih =>
        intro i9  hv1 hv2
        refine hr_iload_n C dX4_post_66 rfl 3 rfl ?_
        refine hr_aload_n C dX4_post_67 rfl 0 rfl ?_
        refine hr_get (k := 14) (i := 0) (fld := 16) C (by decide) rfl rfl (by decide) kU_X4 kF_X4_56 rfl rfl dX4_post_68 ?_
        refine hr_tp (y := nI (un (S 14 0 16))) (by rw [md_cpL_k _ _ (by decide)]; exact hm.1) ?_
        refine hr_icmp_ge C 101 dX4_post_71 (by decide) (fun c71 => ?_) (fun c71 => ?_)
        · skip
          have c71 : (un (S 14 0 16)) ≤ i9 := (nI_leI (a := (un (S 14 0 16))) (b := i9) (by omega) (by omega)).mp c71
          have c71n : ¬ i9 < (un (S 14 0 16)) := Nat.not_lt.mpr c71
          refine hr_aload_n C dX4_post_101 rfl 0 rfl ?_
          refine hr_dup C dX4_post_102 rfl ?_
          refine hr_get (k := 14) (i := 0) (fld := 11) C (by decide) rfl rfl (by decide) kU_X4 kF_X4_66 rfl rfl dX4_post_103 ?_
          refine hr_tp (y := nI (un (S 14 0 11))) (by rw [md_cpL_k _ _ (by decide)]; exact hI.1.1) ?_
          refine hr_iconst (v := 1) C dX4_post_106 (by decide) ?_
          refine hr_iadd (v := nI ((un (S 14 0 11)) + 1)) C dX4_post_107 (nI_add (un (S 14 0 11)) 1) ?_
          refine hr_put (k := 14) (i := 0) (fld := 11) C (by decide) rfl rfl (by decide) kU_X4 kF_X4_66 rfl tyX4 tyX4_ok nmX4 rfl (by decide +kernel) (Nat.le_of_ble_eq_true rfl) (by simp [hr_cell, hr_w, hr_wA, upd]) rfl dX4_post_108 ?_
          exact hr_vret C hr dX4_post_111 (by unfold md_post; rw [if_neg (show ¬ md_n S = 200 from c17), show i9 = un (S 14 0 16) by omega]; rfl)
        · skip
          have c71 : ¬ (un (S 14 0 16)) ≤ i9 := fun h => c71 ((nI_leI (a := (un (S 14 0 16))) (b := i9) (by omega) (by omega)).mpr h)
          have c71n : i9 < (un (S 14 0 16)) := Nat.not_le.mp c71
          refine hr_aload_n C dX4_post_74 rfl 0 rfl ?_
          refine hr_get (k := 14) (i := 0) (fld := 15) C (by decide) rfl rfl (by decide) kU_X4 kF_X4_39 rfl rfl dX4_post_75 ?_
          refine hr_sipush (v := 164) C dX4_post_78 (by decide) ?_
          refine hr_aload_n C dX4_post_81 rfl 0 rfl ?_
          refine hr_get (k := 14) (i := 0) (fld := 11) C (by decide) rfl rfl (by decide) kU_X4 kF_X4_66 rfl rfl dX4_post_82 ?_
          refine hr_tp (y := nI (un (S 14 0 11))) (by rw [md_cpL_k _ _ (by decide)]; exact hI.1.1) ?_
          refine hr_imul (v := nI (164 * (un (S 14 0 11)))) C dX4_post_85 (pk_mul 164 (un (S 14 0 11))) ?_
          refine hr_iload_n C dX4_post_86 rfl 3 rfl ?_
          refine hr_iadd (v := nI ((164 * (un (S 14 0 11))) + i9)) C dX4_post_87 (nI_add (164 * (un (S 14 0 11))) i9) ?_
          refine hr_aload_n C dX4_post_88 rfl 0 rfl ?_
          refine hr_get (k := 14) (i := 0) (fld := 17) C (by decide) rfl rfl (by decide) kU_X4 kF_X4_42 rfl rfl dX4_post_89 ?_
          refine hr_iload_n C dX4_post_92 rfl 3 rfl ?_
          refine hr_iald (k := 25) (i := 0) i9 C (by decide) rfl rfl (show i9 < 164 by omega) (by decide) dX4_post_93 ?_
          refine hr_iast (k := 24) (i := 0) ((164 * (un (S 14 0 11))) + i9) C (by decide) rfl rfl (show (164 * (un (S 14 0 11))) + i9 < 32800 by omega) (by decide) (by simp [hr_cell, hr_wA]) rfl dX4_post_94 ?_
          refine hr_iinc (v := nI (i9 + 1)) C [(3, .int (nI (i9 + 1))), (0, .ref (hr_ad E 14 0)), (1, .int a), (2, .int b)] dX4_post_95 3 rfl (nI_add i9 1) (by decide) rfl ?_
          refine hr_goto C 66 dX4_post_98 (by decide) ?_
          refine hr_sub [1, 2, 3, 0] rfl ?_
          refine hr_st (S1 := md_cpL (md_pst1 S a b) (un (S 14 0 11)) (i9 + 1)) rfl ?_
          exact ih (i9 + 1)  (by omega) (by omega)
    refine hr_sub [1, 2, 3, 0] rfl ?_
    refine hr_st (S1 := md_cpL (md_pst1 S a b) (un (S 14 0 11)) 0) rfl ?_
    exact LP66 ((un (S 14 0 16)) + 1) 0  (by omega) (by omega)
  · skip
    have c17 : (un (S 14 0 11)) = 200 := (nI_eq (a := (un (S 14 0 11))) (b := 200) (by omega) (by omega)).mp c17
    refine hr_aload_n C dX4_post_20 rfl 0 rfl ?_
    refine hr_dup C dX4_post_21 rfl ?_
    refine hr_get (k := 14) (i := 0) (fld := 2) C (by decide) rfl rfl (by decide) kU_X4 kF_X4_69 rfl rfl dX4_post_22 ?_
    refine hr_tp (y := S 14 0 2) (by simp [hr_w, hr_wA, upd]) ?_
    refine hr_iconst (v := 1) C dX4_post_25 (by decide) ?_
    refine hr_iadd C dX4_post_26 rfl ?_
    refine hr_put (k := 14) (i := 0) (fld := 2) C (by decide) rfl rfl (by decide) kU_X4 kF_X4_69 rfl tyX4 tyX4_ok nmX4 rfl (by decide +kernel) (Nat.le_of_ble_eq_true rfl) (by simp [hr_cell, hr_w, hr_wA, upd]) rfl dX4_post_27 ?_
    exact hr_vret C hr dX4_post_30 (by unfold md_post; rw [if_pos (show md_n S = 200 from c17)]; try rfl)
set_option maxHeartbeats 4000000 in
set_option maxRecDepth 100000 in
theorem ct_X4_takeOut (l : Launch) (E : hr_E) (S : hr_S) (o : Int64) (k : Nat) (hk : k < un (S 14 0 11)) (hI : hr_MI S) : hr_Mv l E yX4_takeOut (Cond.code yX4_takeOut cX4_takeOut 4 none :: hr_W) ({ frames := 0, cells := 0, slots := 0, locals := 0 } : Room) [.ref (hr_ad E 14 0), .int (nI k)] S o (fun u => u = md_take S k) := by
  refine hr_of (by decide) (Nat.le_of_ble_eq_true rfl) (fun p e s m below meth c C hr => ?_)
  have hn2 := hI.1.2
  refine hr_aload_n C dX4_takeOut_0 rfl 0 rfl ?_
  refine hr_dup C dX4_takeOut_1 rfl ?_
  refine hr_get (k := 14) (i := 0) (fld := 11) C (by decide) rfl rfl (by decide) kU_X4 kF_X4_66 rfl rfl dX4_takeOut_2 ?_
  refine hr_tp (y := nI (un (S 14 0 11))) hI.1.1 ?_
  refine hr_iconst (v := 1) C dX4_takeOut_5 (by decide) ?_
  refine hr_isub (v := nI ((un (S 14 0 11)) - 1)) C dX4_takeOut_6 (pk_sub (a := (un (S 14 0 11))) (b := 1) (by omega)) ?_
  refine hr_put (k := 14) (i := 0) (fld := 11) C (by decide) rfl rfl (by decide) kU_X4 kF_X4_66 rfl tyX4 tyX4_ok nmX4 rfl (by decide +kernel) (Nat.le_of_ble_eq_true rfl) (by simp [hr_cell, hr_w, hr_wA, upd]) rfl dX4_takeOut_7 ?_
  refine hr_iload_n C dX4_takeOut_10 rfl 1 rfl ?_
  refine hr_istore_n C [(2, .int (nI k)), (0, .ref (hr_ad E 14 0)), (1, .int (nI k))] dX4_takeOut_11 rfl (by decide) rfl ?_
  have LP12 : ∀ (n j9 : Nat) , j9 ≤ (un (S 14 0 11) - 1 - k) → (un (S 14 0 11) - 1 - k) + 1 ≤ j9 + n → hr_G p l e ({ frames := 0, cells := 0, slots := 0, locals := 0 } : Room) s m #[.ref (hr_ad E 14 0), .int (nI k)] below meth c (MQ below (va_Qv (fun u => u = md_take S k) (fun u t => hr_P E u o t.heap) (hr_A E)) #[.ref (hr_ad E 14 0), .int (nI k)] s 0 0 (hr_A E)) E 4 0 0 (md_tkL (hr_w S 14 0 11 (nI (un (S 14 0 11) - 1))) k j9) o [(0, .ref (hr_ad E 14 0)), (1, .int (nI k)), (2, .int (nI (k + j9)))] 12 [] := by
    intro n
    induction n with
    | zero => intro j9  h1 h2; omega
    | succ n ihA =>
      intro j9  hv1 hv2
      refine hr_iload_n C dX4_takeOut_12 rfl 2 rfl ?_
      refine hr_aload_n C dX4_takeOut_13 rfl 0 rfl ?_
      refine hr_get (k := 14) (i := 0) (fld := 11) C (by decide) rfl rfl (by decide) kU_X4 kF_X4_66 rfl rfl dX4_takeOut_14 ?_
      refine hr_tp (y := nI (un (S 14 0 11) - 1)) (by rw [md_tkL_k _ _ (by decide) (by decide) (by decide) (by decide)]; exact hr_w_self _ _ _ _ _) ?_
      refine hr_icmp_ge C 109 dX4_takeOut_17 (by decide) (fun c17 => ?_) (fun c17 => ?_)
      · skip
        have c17 : (un (S 14 0 11) - 1) ≤ (k + j9) := (nI_leI (a := (un (S 14 0 11) - 1)) (b := (k + j9)) (by omega) (by omega)).mp c17
        have c17n : ¬ (k + j9) < (un (S 14 0 11) - 1) := Nat.not_lt.mpr c17
        exact hr_vret C hr dX4_takeOut_109 (by unfold md_take; rw [show j9 = md_n S - 1 - k by show j9 = un (S 14 0 11) - 1 - k; omega]; rfl)
      · skip
        have c17 : ¬ (un (S 14 0 11) - 1) ≤ (k + j9) := fun h => c17 ((nI_leI (a := (un (S 14 0 11) - 1)) (b := (k + j9)) (by omega) (by omega)).mpr h)
        have c17n : (k + j9) < (un (S 14 0 11) - 1) := Nat.not_le.mp c17
        refine hr_aload_n C dX4_takeOut_20 rfl 0 rfl ?_
        refine hr_get (k := 14) (i := 0) (fld := 12) C (by decide) rfl rfl (by decide) kU_X4 kF_X4_29 rfl rfl dX4_takeOut_21 ?_
        refine hr_iload_n C dX4_takeOut_24 rfl 2 rfl ?_
        refine hr_aload_n C dX4_takeOut_25 rfl 0 rfl ?_
        refine hr_get (k := 14) (i := 0) (fld := 12) C (by decide) rfl rfl (by decide) kU_X4 kF_X4_29 rfl rfl dX4_takeOut_26 ?_
        refine hr_iload_n C dX4_takeOut_29 rfl 2 rfl ?_
        refine hr_iconst (v := 1) C dX4_takeOut_30 (by decide) ?_
        refine hr_iadd (v := nI ((k + j9) + 1)) C dX4_takeOut_31 (nI_add (k + j9) 1) ?_
        refine hr_iald (k := 21) (i := 0) ((k + j9) + 1) C (by decide) rfl rfl (show (k + j9) + 1 < 200 by omega) (by decide) dX4_takeOut_32 ?_
        refine hr_iast (k := 21) (i := 0) (k + j9) C (by decide) rfl rfl (show k + j9 < 200 by omega) (by decide) (by simp [hr_cell, hr_wA]) rfl dX4_takeOut_33 ?_
        refine hr_aload_n C dX4_takeOut_34 rfl 0 rfl ?_
        refine hr_get (k := 14) (i := 0) (fld := 13) C (by decide) rfl rfl (by decide) kU_X4 kF_X4_32 rfl rfl dX4_takeOut_35 ?_
        refine hr_iload_n C dX4_takeOut_38 rfl 2 rfl ?_
        refine hr_aload_n C dX4_takeOut_39 rfl 0 rfl ?_
        refine hr_get (k := 14) (i := 0) (fld := 13) C (by decide) rfl rfl (by decide) kU_X4 kF_X4_32 rfl rfl dX4_takeOut_40 ?_
        refine hr_iload_n C dX4_takeOut_43 rfl 2 rfl ?_
        refine hr_iconst (v := 1) C dX4_takeOut_44 (by decide) ?_
        refine hr_iadd (v := nI ((k + j9) + 1)) C dX4_takeOut_45 (nI_add (k + j9) 1) ?_
        refine hr_iald (k := 22) (i := 0) ((k + j9) + 1) C (by decide) rfl rfl (show (k + j9) + 1 < 200 by omega) (by decide) dX4_takeOut_46 ?_
        refine hr_tp (y := (md_tkL (hr_w S 14 0 11 (nI (un (S 14 0 11) - 1))) k j9) 22 0 ((k + j9) + 1)) rfl ?_
        refine hr_iast (k := 22) (i := 0) (k + j9) C (by decide) rfl rfl (show k + j9 < 200 by omega) (by decide) (by simp [hr_cell, hr_wA]) rfl dX4_takeOut_47 ?_
        refine hr_aload_n C dX4_takeOut_48 rfl 0 rfl ?_
        refine hr_get (k := 14) (i := 0) (fld := 14) C (by decide) rfl rfl (by decide) kU_X4 kF_X4_35 rfl rfl dX4_takeOut_49 ?_
        refine hr_iload_n C dX4_takeOut_52 rfl 2 rfl ?_
        refine hr_aload_n C dX4_takeOut_53 rfl 0 rfl ?_
        refine hr_get (k := 14) (i := 0) (fld := 14) C (by decide) rfl rfl (by decide) kU_X4 kF_X4_35 rfl rfl dX4_takeOut_54 ?_
        refine hr_iload_n C dX4_takeOut_57 rfl 2 rfl ?_
        refine hr_iconst (v := 1) C dX4_takeOut_58 (by decide) ?_
        refine hr_iadd (v := nI ((k + j9) + 1)) C dX4_takeOut_59 (nI_add (k + j9) 1) ?_
        refine hr_iald (k := 23) (i := 0) ((k + j9) + 1) C (by decide) rfl rfl (show (k + j9) + 1 < 200 by omega) (by decide) dX4_takeOut_60 ?_
        refine hr_tp (y := (md_tkL (hr_w S 14 0 11 (nI (un (S 14 0 11) - 1))) k j9) 23 0 ((k + j9) + 1)) rfl ?_
        refine hr_iast (k := 23) (i := 0) (k + j9) C (by decide) rfl rfl (show k + j9 < 200 by omega) (by decide) (by simp [hr_cell, hr_wA]) rfl dX4_takeOut_61 ?_
        refine hr_iconst (v := 0) C dX4_takeOut_62 (by decide) ?_
        refine hr_istore_n C [(3, .int 0), (0, .ref (hr_ad E 14 0)), (1, .int (nI k)), (2, .int (nI (k + j9)))] dX4_takeOut_63 rfl (by decide) rfl ?_
        have LP64 : ∀ (n2 i9 : Nat) , i9 ≤ 164 → 164 + 1 ≤ i9 + n2 → hr_G p l e ({ frames := 0, cells := 0, slots := 0, locals := 0 } : Room) s m #[.ref (hr_ad E 14 0), .int (nI k)] below meth c (MQ below (va_Qv (fun u => u = md_take S k) (fun u t => hr_P E u o t.heap) (hr_A E)) #[.ref (hr_ad E 14 0), .int (nI k)] s 0 0 (hr_A E)) E 4 0 0 (md_tkI (md_tk1 (md_tkL (hr_w S 14 0 11 (nI (un (S 14 0 11) - 1))) k j9) (k + j9)) (k + j9) i9) o [(0, .ref (hr_ad E 14 0)), (1, .int (nI k)), (2, .int (nI (k + j9))), (3, .int (nI i9))] 64 [] := by
          intro n2
          induction n2 with
          | zero => intro i9  h1 h2; omega
          | succ n2 ihB =>
            intro i9  hv1 hv2
            refine hr_iload_n C dX4_takeOut_64 rfl 3 rfl ?_
            refine hr_sipush (v := 164) C dX4_takeOut_65 (by decide) ?_
            refine hr_icmp_ge C 103 dX4_takeOut_68 (by decide) (fun c68 => ?_) (fun c68 => ?_)
            · skip
              have c68 : 164 ≤ i9 := (nI_leI (a := 164) (b := i9) (by omega) (by omega)).mp c68
              have c68n : ¬ i9 < 164 := Nat.not_lt.mpr c68
              refine hr_iinc (v := nI (k + j9 + 1)) C [(2, .int (nI (k + j9 + 1))), (0, .ref (hr_ad E 14 0)), (1, .int (nI k)), (3, .int (nI i9))] dX4_takeOut_103 2 rfl (nI_add (k + j9) 1) (by decide) rfl ?_
              refine hr_goto C 12 dX4_takeOut_106 (by decide) ?_
              refine hr_sub [1, 2, 0] rfl ?_
              refine hr_st (S1 := md_tkL (hr_w S 14 0 11 (nI (un (S 14 0 11) - 1))) k (j9 + 1)) (by rw [show i9 = 164 by omega]; rfl) ?_
              exact ihA (j9 + 1)  (by omega) (by omega)
            · skip
              have c68 : ¬ 164 ≤ i9 := fun h => c68 ((nI_leI (a := 164) (b := i9) (by omega) (by omega)).mpr h)
              have c68n : i9 < 164 := Nat.not_le.mp c68
              refine hr_aload_n C dX4_takeOut_71 rfl 0 rfl ?_
              refine hr_get (k := 14) (i := 0) (fld := 15) C (by decide) rfl rfl (by decide) kU_X4 kF_X4_39 rfl rfl dX4_takeOut_72 ?_
              refine hr_sipush (v := 164) C dX4_takeOut_75 (by decide) ?_
              refine hr_iload_n C dX4_takeOut_78 rfl 2 rfl ?_
              refine hr_imul (v := nI (164 * (k + j9))) C dX4_takeOut_79 (pk_mul 164 (k + j9)) ?_
              refine hr_iload_n C dX4_takeOut_80 rfl 3 rfl ?_
              refine hr_iadd (v := nI ((164 * (k + j9)) + i9)) C dX4_takeOut_81 (nI_add (164 * (k + j9)) i9) ?_
              refine hr_aload_n C dX4_takeOut_82 rfl 0 rfl ?_
              refine hr_get (k := 14) (i := 0) (fld := 15) C (by decide) rfl rfl (by decide) kU_X4 kF_X4_39 rfl rfl dX4_takeOut_83 ?_
              refine hr_sipush (v := 164) C dX4_takeOut_86 (by decide) ?_
              refine hr_iload_n C dX4_takeOut_89 rfl 2 rfl ?_
              refine hr_iconst (v := 1) C dX4_takeOut_90 (by decide) ?_
              refine hr_iadd (v := nI ((k + j9) + 1)) C dX4_takeOut_91 (nI_add (k + j9) 1) ?_
              refine hr_imul (v := nI (164 * ((k + j9) + 1))) C dX4_takeOut_92 (pk_mul 164 ((k + j9) + 1)) ?_
              refine hr_iload_n C dX4_takeOut_93 rfl 3 rfl ?_
              refine hr_iadd (v := nI ((164 * ((k + j9) + 1)) + i9)) C dX4_takeOut_94 (nI_add (164 * ((k + j9) + 1)) i9) ?_
              refine hr_iald (k := 24) (i := 0) ((164 * ((k + j9) + 1)) + i9) C (by decide) rfl rfl (show (164 * ((k + j9) + 1)) + i9 < 32800 by omega) (by decide) dX4_takeOut_95 ?_
              refine hr_iast (k := 24) (i := 0) ((164 * (k + j9)) + i9) C (by decide) rfl rfl (show (164 * (k + j9)) + i9 < 32800 by omega) (by decide) (by simp [hr_cell, hr_wA]) rfl dX4_takeOut_96 ?_
              refine hr_iinc (v := nI (i9 + 1)) C [(3, .int (nI (i9 + 1))), (0, .ref (hr_ad E 14 0)), (1, .int (nI k)), (2, .int (nI (k + j9)))] dX4_takeOut_97 3 rfl (nI_add i9 1) (by decide) rfl ?_
              refine hr_goto C 64 dX4_takeOut_100 (by decide) ?_
              refine hr_sub [1, 2, 3, 0] rfl ?_
              refine hr_st (S1 := md_tkI (md_tk1 (md_tkL (hr_w S 14 0 11 (nI (un (S 14 0 11) - 1))) k j9) (k + j9)) (k + j9) (i9 + 1)) rfl ?_
              exact ihB (i9 + 1)  (by omega) (by omega)
        refine hr_sub [1, 2, 3, 0] rfl ?_
        refine hr_st (S1 := md_tkI (md_tk1 (md_tkL (hr_w S 14 0 11 (nI (un (S 14 0 11) - 1))) k j9) (k + j9)) (k + j9) 0) rfl ?_
        exact LP64 (164 + 1) 0  (by omega) (by omega)
  refine hr_sub [1, 2, 0] rfl ?_
  refine hr_st (S1 := md_tkL (hr_w S 14 0 11 (nI (un (S 14 0 11) - 1))) k 0) rfl ?_
  exact LP12 ((un (S 14 0 11) - 1 - k) + 1) 0  (by omega) (by omega)
set_option maxHeartbeats 4000000 in
set_option maxRecDepth 100000 in
theorem ct_X4_gone (l : Launch) (E : hr_E) (S : hr_S) (o : Int64) (q : Nat) (hq : q < 64) : hr_Mv l E yX4_gone (Cond.code yX4_gone cX4_gone 2 none :: hr_W) ({ frames := 0, cells := 0, slots := 0, locals := 0 } : Room) [.ref (hr_ad E 14 0), .int (nI q)] S o (fun u => u = md_gone S q) := by
  refine hr_of (by decide) (Nat.le_of_ble_eq_true rfl) (fun p e s m below meth c C hr => ?_)
  refine hr_aload_n C dX4_gone_0 rfl 0 rfl ?_
  refine hr_get (k := 14) (i := 0) (fld := 6) C (by decide) rfl rfl (by decide) kU_X4 kF_X4_13 rfl rfl dX4_gone_1 ?_
  refine hr_iload_n C dX4_gone_4 rfl 1 rfl ?_
  refine hr_bipush (v := 16) C dX4_gone_5 (by decide) ?_
  refine hr_iast (k := 16) (i := 0) q C (by decide) rfl rfl (show q < 64 by omega) (by decide) (by simp [hr_cell, hr_wA]) rfl dX4_gone_7 ?_
  refine hr_aload_n C dX4_gone_8 rfl 0 rfl ?_
  refine hr_get (k := 14) (i := 0) (fld := 8) C (by decide) rfl rfl (by decide) kU_X4 kF_X4_20 rfl rfl dX4_gone_9 ?_
  refine hr_iload_n C dX4_gone_12 rfl 1 rfl ?_
  refine hr_iconst (v := 0) C dX4_gone_13 (by decide) ?_
  refine hr_iast (k := 18) (i := 0) q C (by decide) rfl rfl (show q < 64 by omega) (by decide) (by simp [hr_cell, hr_wA]) rfl dX4_gone_14 ?_
  refine hr_aload_n C dX4_gone_15 rfl 0 rfl ?_
  refine hr_get (k := 14) (i := 0) (fld := 9) C (by decide) rfl rfl (by decide) kU_X4 kF_X4_23 rfl rfl dX4_gone_16 ?_
  refine hr_iload_n C dX4_gone_19 rfl 1 rfl ?_
  refine hr_iconst (v := 1) C dX4_gone_20 (by decide) ?_
  refine hr_zast (k := 19) (i := 0) q C (by decide) rfl rfl (show q < 64 by omega) (by decide) (by simp [hr_cell, hr_wA]) rfl dX4_gone_21 ?_
  refine hr_aload_n C dX4_gone_22 rfl 0 rfl ?_
  refine hr_get (k := 14) (i := 0) (fld := 10) C (by decide) rfl rfl (by decide) kU_X4 kF_X4_26 rfl rfl dX4_gone_23 ?_
  refine hr_iload_n C dX4_gone_26 rfl 1 rfl ?_
  refine hr_bipush (v := 20) C dX4_gone_27 (by decide) ?_
  refine hr_iast (k := 20) (i := 0) q C (by decide) rfl rfl (show q < 64 by omega) (by decide) (by simp [hr_cell, hr_wA]) rfl dX4_gone_29 ?_
  exact hr_vret C hr dX4_gone_30 rfl
set_option maxHeartbeats 4000000 in
set_option maxRecDepth 100000 in
theorem ct_X4_hear (l : Launch) (E : hr_E) (S : hr_S) (o : Int64) (r9 d9 : Nat) (hr9 : r9 < 8) (hd9 : d9 < 8) (a t : Int32) : hr_Mv l E yX4_hear (Cond.code yX4_hear cX4_hear 6 none :: hr_W) ({ frames := 1, cells := 0, slots := 0, locals := 21 } : Room) [.ref (hr_ad E 14 0), .int (nI r9), .int a, .int (nI d9), .int t] S o (fun u => u = md_hear S ((8 * r9) + d9) a t) := by
  refine hr_of (by decide) (Nat.le_of_ble_eq_true rfl) (fun p e s m below meth c C hr => ?_)
  refine hr_bipush (v := 8) C dX4_hear_0 (by decide) ?_
  refine hr_iload_n C dX4_hear_2 rfl 1 rfl ?_
  refine hr_imul (v := nI (8 * r9)) C dX4_hear_3 (pk_mul 8 r9) ?_
  refine hr_iload_n C dX4_hear_4 rfl 3 rfl ?_
  refine hr_iadd (v := nI ((8 * r9) + d9)) C dX4_hear_5 (nI_add (8 * r9) d9) ?_
  refine hr_istore C [(5, .int (nI ((8 * r9) + d9))), (0, .ref (hr_ad E 14 0)), (1, .int (nI r9)), (2, .int a), (3, .int (nI d9)), (4, .int t)] dX4_hear_6 (by decide) rfl ?_
  refine hr_aload_n C dX4_hear_8 rfl 1 rfl ?_
  refine hr_get (k := 14) (i := 0) (fld := 6) C (by decide) rfl rfl (by decide) kU_X4 kF_X4_13 rfl rfl dX4_hear_9 ?_
  refine hr_iload C dX4_hear_12 0 rfl ?_
  refine hr_iald (k := 16) (i := 0) ((8 * r9) + d9) C (by decide) rfl rfl (show (8 * r9) + d9 < 64 by omega) (by decide) dX4_hear_14 ?_
  refine hr_if_ne C 67 dX4_hear_15 (by decide) (fun c15 => ?_) (fun c15 => ?_)
  · skip
    refine hr_aload_n C dX4_hear_67 rfl 1 rfl ?_
    refine hr_get (k := 14) (i := 0) (fld := 10) C (by decide) rfl rfl (by decide) kU_X4 kF_X4_26 rfl rfl dX4_hear_68 ?_
    refine hr_iload C dX4_hear_71 0 rfl ?_
    refine hr_iald (k := 20) (i := 0) ((8 * r9) + d9) C (by decide) rfl rfl (show (8 * r9) + d9 < 64 by omega) (by decide) dX4_hear_73 ?_
    refine hr_if_le C 78 dX4_hear_74 (by decide) (fun c74 => ?_) (fun c74 => ?_)
    · skip
      have c74n : ¬ 0 < (S 20 0 ((8 * r9) + d9)) := Int32.not_lt.mpr c74
      refine hr_aload_n C dX4_hear_78 rfl 1 rfl ?_
      refine hr_get (k := 14) (i := 0) (fld := 7) C (by decide) rfl rfl (by decide) kU_X4 kF_X4_17 rfl rfl dX4_hear_79 ?_
      refine hr_iload C dX4_hear_82 0 rfl ?_
      refine hr_iald (k := 17) (i := 0) ((8 * r9) + d9) C (by decide) rfl rfl (show (8 * r9) + d9 < 64 by omega) (by decide) dX4_hear_84 ?_
      refine hr_iload_n C dX4_hear_85 rfl 3 rfl ?_
      refine hr_icmp_ne C 159 dX4_hear_86 (by decide) (fun c86 => ?_) (fun c86 => ?_)
      · skip
        refine hr_iload C dX4_hear_159 5 rfl ?_
        refine hr_aload_n C dX4_hear_161 rfl 1 rfl ?_
        refine hr_get (k := 14) (i := 0) (fld := 6) C (by decide) rfl rfl (by decide) kU_X4 kF_X4_13 rfl rfl dX4_hear_162 ?_
        refine hr_iload C dX4_hear_165 0 rfl ?_
        refine hr_iald (k := 16) (i := 0) ((8 * r9) + d9) C (by decide) rfl rfl (show (8 * r9) + d9 < 64 by omega) (by decide) dX4_hear_167 ?_
        refine hr_icmp_ge C 204 dX4_hear_168 (by decide) (fun c168 => ?_) (fun c168 => ?_)
        · skip
          have c168n : ¬ t < (S 16 0 ((8 * r9) + d9)) := Int32.not_lt.mpr c168
          exact hr_vret C hr dX4_hear_204 (by unfold md_hear md_hn md_hn2 md_hn1; repeat (first | rw [if_pos c15] | rw [if_neg c15] | rw [if_neg (not_not_intro c15)] | rw [if_pos c74] | rw [if_neg c74] | rw [if_neg (not_not_intro c74)] | rw [if_pos c74n] | rw [if_neg c74n] | rw [if_neg (not_not_intro c74n)] | rw [if_pos c86] | rw [if_neg c86] | rw [if_neg (not_not_intro c86)] | rw [if_pos c168] | rw [if_neg c168] | rw [if_neg (not_not_intro c168)] | rw [if_pos c168n] | rw [if_neg c168n] | rw [if_neg (not_not_intro c168n)]); try rfl)
        · skip
          have c168n : t < (S 16 0 ((8 * r9) + d9)) := Int32.not_le.mp c168
          refine hr_aload_n C dX4_hear_171 rfl 1 rfl ?_
          refine hr_get (k := 14) (i := 0) (fld := 6) C (by decide) rfl rfl (by decide) kU_X4 kF_X4_13 rfl rfl dX4_hear_172 ?_
          refine hr_iload C dX4_hear_175 0 rfl ?_
          refine hr_iload C dX4_hear_177 5 rfl ?_
          refine hr_iast (k := 16) (i := 0) ((8 * r9) + d9) C (by decide) rfl rfl (show (8 * r9) + d9 < 64 by omega) (by decide) (by simp [hr_cell, hr_wA]) rfl dX4_hear_179 ?_
          refine hr_aload_n C dX4_hear_180 rfl 1 rfl ?_
          refine hr_get (k := 14) (i := 0) (fld := 7) C (by decide) rfl rfl (by decide) kU_X4 kF_X4_17 rfl rfl dX4_hear_181 ?_
          refine hr_iload C dX4_hear_184 0 rfl ?_
          refine hr_iload_n C dX4_hear_186 rfl 3 rfl ?_
          refine hr_iast (k := 17) (i := 0) ((8 * r9) + d9) C (by decide) rfl rfl (show (8 * r9) + d9 < 64 by omega) (by decide) (by simp [hr_cell, hr_wA]) rfl dX4_hear_187 ?_
          refine hr_aload_n C dX4_hear_188 rfl 1 rfl ?_
          refine hr_get (k := 14) (i := 0) (fld := 8) C (by decide) rfl rfl (by decide) kU_X4 kF_X4_20 rfl rfl dX4_hear_189 ?_
          refine hr_iload C dX4_hear_192 0 rfl ?_
          refine hr_iconst (v := 0) C dX4_hear_194 (by decide) ?_
          refine hr_iast (k := 18) (i := 0) ((8 * r9) + d9) C (by decide) rfl rfl (show (8 * r9) + d9 < 64 by omega) (by decide) (by simp [hr_cell, hr_wA]) rfl dX4_hear_195 ?_
          refine hr_aload_n C dX4_hear_196 rfl 1 rfl ?_
          refine hr_get (k := 14) (i := 0) (fld := 9) C (by decide) rfl rfl (by decide) kU_X4 kF_X4_23 rfl rfl dX4_hear_197 ?_
          refine hr_iload C dX4_hear_200 0 rfl ?_
          refine hr_iconst (v := 1) C dX4_hear_202 (by decide) ?_
          refine hr_zast (k := 19) (i := 0) ((8 * r9) + d9) C (by decide) rfl rfl (show (8 * r9) + d9 < 64 by omega) (by decide) (by simp [hr_cell, hr_wA]) rfl dX4_hear_203 ?_
          exact hr_vret C hr dX4_hear_204 (by unfold md_hear md_hn md_hn2 md_hn1; repeat (first | rw [if_pos c15] | rw [if_neg c15] | rw [if_neg (not_not_intro c15)] | rw [if_pos c74] | rw [if_neg c74] | rw [if_neg (not_not_intro c74)] | rw [if_pos c74n] | rw [if_neg c74n] | rw [if_neg (not_not_intro c74n)] | rw [if_pos c86] | rw [if_neg c86] | rw [if_neg (not_not_intro c86)] | rw [if_pos c168] | rw [if_neg c168] | rw [if_neg (not_not_intro c168)] | rw [if_pos c168n] | rw [if_neg c168n] | rw [if_neg (not_not_intro c168n)]); try rfl)
      · skip
        refine hr_aload_n C dX4_hear_89 rfl 1 rfl ?_
        refine hr_get (k := 14) (i := 0) (fld := 8) C (by decide) rfl rfl (by decide) kU_X4 kF_X4_20 rfl rfl dX4_hear_90 ?_
        refine hr_iload C dX4_hear_93 0 rfl ?_
        refine hr_iload C dX4_hear_95 5 rfl ?_
        refine hr_bipush (v := 16) C dX4_hear_97 (by decide) ?_
        refine hr_icmp_ge C 106 dX4_hear_99 (by decide) (fun c99 => ?_) (fun c99 => ?_)
        · skip
          have c99n : ¬ t < 16 := Int32.not_lt.mpr c99
          refine hr_aload_n C dX4_hear_106 rfl 1 rfl ?_
          refine hr_get (k := 14) (i := 0) (fld := 8) C (by decide) rfl rfl (by decide) kU_X4 kF_X4_20 rfl rfl dX4_hear_107 ?_
          refine hr_iload C dX4_hear_110 0 rfl ?_
          refine hr_iald (k := 18) (i := 0) ((8 * r9) + d9) C (by decide) rfl rfl (show (8 * r9) + d9 < 64 by omega) (by decide) dX4_hear_112 ?_
          refine hr_iast (k := 18) (i := 0) ((8 * r9) + d9) C (by decide) rfl rfl (show (8 * r9) + d9 < 64 by omega) (by decide) (by simp [hr_cell, hr_wA]) rfl dX4_hear_113 ?_
          refine hr_iload C dX4_hear_114 5 rfl ?_
          refine hr_aload_n C dX4_hear_116 rfl 1 rfl ?_
          refine hr_get (k := 14) (i := 0) (fld := 6) C (by decide) rfl rfl (by decide) kU_X4 kF_X4_13 rfl rfl dX4_hear_117 ?_
          refine hr_iload C dX4_hear_120 0 rfl ?_
          refine hr_iald (k := 16) (i := 0) ((8 * r9) + d9) C (by decide) rfl rfl (show (8 * r9) + d9 < 64 by omega) (by decide) dX4_hear_122 ?_
          refine hr_tp (y := S 16 0 ((8 * r9) + d9)) rfl ?_
          refine hr_icmp_eq C 204 dX4_hear_123 (by decide) (fun c123 => ?_) (fun c123 => ?_)
          · skip
            exact hr_vret C hr dX4_hear_204 (by unfold md_hear md_hn md_hn2 md_hn1; repeat (first | rw [if_pos c15] | rw [if_neg c15] | rw [if_neg (not_not_intro c15)] | rw [if_pos c74] | rw [if_neg c74] | rw [if_neg (not_not_intro c74)] | rw [if_pos c74n] | rw [if_neg c74n] | rw [if_neg (not_not_intro c74n)] | rw [if_pos c86] | rw [if_neg c86] | rw [if_neg (not_not_intro c86)] | rw [if_pos c99] | rw [if_neg c99] | rw [if_neg (not_not_intro c99)] | rw [if_pos c99n] | rw [if_neg c99n] | rw [if_neg (not_not_intro c99n)] | rw [if_pos c123] | rw [if_neg c123] | rw [if_neg (not_not_intro c123)]); try rfl)
          · skip
            refine hr_aload_n C dX4_hear_126 rfl 1 rfl ?_
            refine hr_get (k := 14) (i := 0) (fld := 6) C (by decide) rfl rfl (by decide) kU_X4 kF_X4_13 rfl rfl dX4_hear_127 ?_
            refine hr_iload C dX4_hear_130 0 rfl ?_
            refine hr_iload C dX4_hear_132 5 rfl ?_
            refine hr_iast (k := 16) (i := 0) ((8 * r9) + d9) C (by decide) rfl rfl (show (8 * r9) + d9 < 64 by omega) (by decide) (by simp [hr_cell, hr_wA]) rfl dX4_hear_134 ?_
            refine hr_aload_n C dX4_hear_135 rfl 1 rfl ?_
            refine hr_get (k := 14) (i := 0) (fld := 9) C (by decide) rfl rfl (by decide) kU_X4 kF_X4_23 rfl rfl dX4_hear_136 ?_
            refine hr_iload C dX4_hear_139 0 rfl ?_
            refine hr_iconst (v := 1) C dX4_hear_141 (by decide) ?_
            refine hr_zast (k := 19) (i := 0) ((8 * r9) + d9) C (by decide) rfl rfl (show (8 * r9) + d9 < 64 by omega) (by decide) (by simp [hr_cell, hr_wA]) rfl dX4_hear_142 ?_
            refine hr_iload C dX4_hear_143 5 rfl ?_
            refine hr_bipush (v := 16) C dX4_hear_145 (by decide) ?_
            refine hr_icmp_ne C 204 dX4_hear_147 (by decide) (fun c147 => ?_) (fun c147 => ?_)
            · skip
              exact hr_vret C hr dX4_hear_204 (by unfold md_hear md_hn md_hn2 md_hn1; repeat (first | rw [if_pos c15] | rw [if_neg c15] | rw [if_neg (not_not_intro c15)] | rw [if_pos c74] | rw [if_neg c74] | rw [if_neg (not_not_intro c74)] | rw [if_pos c74n] | rw [if_neg c74n] | rw [if_neg (not_not_intro c74n)] | rw [if_pos c86] | rw [if_neg c86] | rw [if_neg (not_not_intro c86)] | rw [if_pos c99] | rw [if_neg c99] | rw [if_neg (not_not_intro c99)] | rw [if_pos c99n] | rw [if_neg c99n] | rw [if_neg (not_not_intro c99n)] | rw [if_pos c123] | rw [if_neg c123] | rw [if_neg (not_not_intro c123)] | rw [if_pos c147] | rw [if_neg c147] | rw [if_neg (not_not_intro c147)]); try rfl)
            · skip
              refine hr_aload_n C dX4_hear_150 rfl 1 rfl ?_
              refine hr_iload C dX4_hear_151 0 rfl ?_
              refine hr_cVv C (ct_X4_gone l E (hr_w (hr_w (hr_w S 18 0 ((8 * r9) + d9) (S 18 0 ((8 * r9) + d9))) 16 0 ((8 * r9) + d9) t) 19 0 ((8 * r9) + d9) 1) o ((8 * r9) + d9) (by omega)) (cwV 1 C.1.2.2.2.2 (hr_gV kM_X4_87 kI_X4_gone kS_X4_gone kN_X4 kC_X4_gone) rfl rfl rfl (by decide +kernel) ⟨Nat.le_of_ble_eq_true rfl, Nat.le_of_ble_eq_true rfl⟩) (by decide) rfl rfl rfl (Nat.le_of_ble_eq_true rfl) dX4_hear_153 ⟨Nat.le_of_ble_eq_true rfl, Nat.le_of_ble_eq_true rfl⟩ (fun S2 h3 => ?_) rfl
              refine hr_st (S1 := (md_gone (hr_w (hr_w (hr_w S 18 0 ((8 * r9) + d9) (S 18 0 ((8 * r9) + d9))) 16 0 ((8 * r9) + d9) t) 19 0 ((8 * r9) + d9) 1) ((8 * r9) + d9))) h3 ?_
              refine hr_goto C 204 dX4_hear_156 (by decide) ?_
              exact hr_vret C hr dX4_hear_204 (by unfold md_hear md_hn md_hn2 md_hn1; repeat (first | rw [if_pos c15] | rw [if_neg c15] | rw [if_neg (not_not_intro c15)] | rw [if_pos c74] | rw [if_neg c74] | rw [if_neg (not_not_intro c74)] | rw [if_pos c74n] | rw [if_neg c74n] | rw [if_neg (not_not_intro c74n)] | rw [if_pos c86] | rw [if_neg c86] | rw [if_neg (not_not_intro c86)] | rw [if_pos c99] | rw [if_neg c99] | rw [if_neg (not_not_intro c99)] | rw [if_pos c99n] | rw [if_neg c99n] | rw [if_neg (not_not_intro c99n)] | rw [if_pos c123] | rw [if_neg c123] | rw [if_neg (not_not_intro c123)] | rw [if_pos c147] | rw [if_neg c147] | rw [if_neg (not_not_intro c147)]); try rfl)
        · skip
          have c99n : t < 16 := Int32.not_le.mp c99
          refine hr_iconst (v := 0) C dX4_hear_102 (by decide) ?_
          refine hr_goto C 113 dX4_hear_103 (by decide) ?_
          refine hr_iast (k := 18) (i := 0) ((8 * r9) + d9) C (by decide) rfl rfl (show (8 * r9) + d9 < 64 by omega) (by decide) (by simp [hr_cell, hr_wA]) rfl dX4_hear_113 ?_
          refine hr_iload C dX4_hear_114 5 rfl ?_
          refine hr_aload_n C dX4_hear_116 rfl 1 rfl ?_
          refine hr_get (k := 14) (i := 0) (fld := 6) C (by decide) rfl rfl (by decide) kU_X4 kF_X4_13 rfl rfl dX4_hear_117 ?_
          refine hr_iload C dX4_hear_120 0 rfl ?_
          refine hr_iald (k := 16) (i := 0) ((8 * r9) + d9) C (by decide) rfl rfl (show (8 * r9) + d9 < 64 by omega) (by decide) dX4_hear_122 ?_
          refine hr_tp (y := S 16 0 ((8 * r9) + d9)) rfl ?_
          refine hr_icmp_eq C 204 dX4_hear_123 (by decide) (fun c123 => ?_) (fun c123 => ?_)
          · skip
            exact hr_vret C hr dX4_hear_204 (by unfold md_hear md_hn md_hn2 md_hn1; repeat (first | rw [if_pos c15] | rw [if_neg c15] | rw [if_neg (not_not_intro c15)] | rw [if_pos c74] | rw [if_neg c74] | rw [if_neg (not_not_intro c74)] | rw [if_pos c74n] | rw [if_neg c74n] | rw [if_neg (not_not_intro c74n)] | rw [if_pos c86] | rw [if_neg c86] | rw [if_neg (not_not_intro c86)] | rw [if_pos c99] | rw [if_neg c99] | rw [if_neg (not_not_intro c99)] | rw [if_pos c99n] | rw [if_neg c99n] | rw [if_neg (not_not_intro c99n)] | rw [if_pos c123] | rw [if_neg c123] | rw [if_neg (not_not_intro c123)]); try rfl)
          · skip
            refine hr_aload_n C dX4_hear_126 rfl 1 rfl ?_
            refine hr_get (k := 14) (i := 0) (fld := 6) C (by decide) rfl rfl (by decide) kU_X4 kF_X4_13 rfl rfl dX4_hear_127 ?_
            refine hr_iload C dX4_hear_130 0 rfl ?_
            refine hr_iload C dX4_hear_132 5 rfl ?_
            refine hr_iast (k := 16) (i := 0) ((8 * r9) + d9) C (by decide) rfl rfl (show (8 * r9) + d9 < 64 by omega) (by decide) (by simp [hr_cell, hr_wA]) rfl dX4_hear_134 ?_
            refine hr_aload_n C dX4_hear_135 rfl 1 rfl ?_
            refine hr_get (k := 14) (i := 0) (fld := 9) C (by decide) rfl rfl (by decide) kU_X4 kF_X4_23 rfl rfl dX4_hear_136 ?_
            refine hr_iload C dX4_hear_139 0 rfl ?_
            refine hr_iconst (v := 1) C dX4_hear_141 (by decide) ?_
            refine hr_zast (k := 19) (i := 0) ((8 * r9) + d9) C (by decide) rfl rfl (show (8 * r9) + d9 < 64 by omega) (by decide) (by simp [hr_cell, hr_wA]) rfl dX4_hear_142 ?_
            refine hr_iload C dX4_hear_143 5 rfl ?_
            refine hr_bipush (v := 16) C dX4_hear_145 (by decide) ?_
            refine hr_icmp_ne C 204 dX4_hear_147 (by decide) (fun c147 => ?_) (fun c147 => ?_)
            · skip
              exact hr_vret C hr dX4_hear_204 (by unfold md_hear md_hn md_hn2 md_hn1; repeat (first | rw [if_pos c15] | rw [if_neg c15] | rw [if_neg (not_not_intro c15)] | rw [if_pos c74] | rw [if_neg c74] | rw [if_neg (not_not_intro c74)] | rw [if_pos c74n] | rw [if_neg c74n] | rw [if_neg (not_not_intro c74n)] | rw [if_pos c86] | rw [if_neg c86] | rw [if_neg (not_not_intro c86)] | rw [if_pos c99] | rw [if_neg c99] | rw [if_neg (not_not_intro c99)] | rw [if_pos c99n] | rw [if_neg c99n] | rw [if_neg (not_not_intro c99n)] | rw [if_pos c123] | rw [if_neg c123] | rw [if_neg (not_not_intro c123)] | rw [if_pos c147] | rw [if_neg c147] | rw [if_neg (not_not_intro c147)]); try rfl)
            · skip
              refine hr_aload_n C dX4_hear_150 rfl 1 rfl ?_
              refine hr_iload C dX4_hear_151 0 rfl ?_
              refine hr_cVv C (ct_X4_gone l E (hr_w (hr_w (hr_w S 18 0 ((8 * r9) + d9) 0) 16 0 ((8 * r9) + d9) t) 19 0 ((8 * r9) + d9) 1) o ((8 * r9) + d9) (by omega)) (cwV 1 C.1.2.2.2.2 (hr_gV kM_X4_87 kI_X4_gone kS_X4_gone kN_X4 kC_X4_gone) rfl rfl rfl (by decide +kernel) ⟨Nat.le_of_ble_eq_true rfl, Nat.le_of_ble_eq_true rfl⟩) (by decide) rfl rfl rfl (Nat.le_of_ble_eq_true rfl) dX4_hear_153 ⟨Nat.le_of_ble_eq_true rfl, Nat.le_of_ble_eq_true rfl⟩ (fun S5 h6 => ?_) rfl
              refine hr_st (S1 := (md_gone (hr_w (hr_w (hr_w S 18 0 ((8 * r9) + d9) 0) 16 0 ((8 * r9) + d9) t) 19 0 ((8 * r9) + d9) 1) ((8 * r9) + d9))) h6 ?_
              refine hr_goto C 204 dX4_hear_156 (by decide) ?_
              exact hr_vret C hr dX4_hear_204 (by unfold md_hear md_hn md_hn2 md_hn1; repeat (first | rw [if_pos c15] | rw [if_neg c15] | rw [if_neg (not_not_intro c15)] | rw [if_pos c74] | rw [if_neg c74] | rw [if_neg (not_not_intro c74)] | rw [if_pos c74n] | rw [if_neg c74n] | rw [if_neg (not_not_intro c74n)] | rw [if_pos c86] | rw [if_neg c86] | rw [if_neg (not_not_intro c86)] | rw [if_pos c99] | rw [if_neg c99] | rw [if_neg (not_not_intro c99)] | rw [if_pos c99n] | rw [if_neg c99n] | rw [if_neg (not_not_intro c99n)] | rw [if_pos c123] | rw [if_neg c123] | rw [if_neg (not_not_intro c123)] | rw [if_pos c147] | rw [if_neg c147] | rw [if_neg (not_not_intro c147)]); try rfl)
    · skip
      have c74n : 0 < (S 20 0 ((8 * r9) + d9)) := Int32.not_le.mp c74
      exact hr_vret C hr dX4_hear_77 (by unfold md_hear md_hn md_hn2 md_hn1; repeat (first | rw [if_pos c15] | rw [if_neg c15] | rw [if_neg (not_not_intro c15)] | rw [if_pos c74] | rw [if_neg c74] | rw [if_neg (not_not_intro c74)] | rw [if_pos c74n] | rw [if_neg c74n] | rw [if_neg (not_not_intro c74n)]); try rfl)
  · skip
    refine hr_iload C dX4_hear_18 5 rfl ?_
    refine hr_bipush (v := 16) C dX4_hear_20 (by decide) ?_
    refine hr_icmp_ge C 66 dX4_hear_22 (by decide) (fun c22 => ?_) (fun c22 => ?_)
    · skip
      have c22n : ¬ t < 16 := Int32.not_lt.mpr c22
      exact hr_vret C hr dX4_hear_66 (by unfold md_hear md_hn md_hn2 md_hn1; repeat (first | rw [if_pos c15] | rw [if_neg c15] | rw [if_neg (not_not_intro c15)] | rw [if_pos c22] | rw [if_neg c22] | rw [if_neg (not_not_intro c22)] | rw [if_pos c22n] | rw [if_neg c22n] | rw [if_neg (not_not_intro c22n)]); try rfl)
    · skip
      have c22n : t < 16 := Int32.not_le.mp c22
      refine hr_aload_n C dX4_hear_25 rfl 1 rfl ?_
      refine hr_get (k := 14) (i := 0) (fld := 6) C (by decide) rfl rfl (by decide) kU_X4 kF_X4_13 rfl rfl dX4_hear_26 ?_
      refine hr_iload C dX4_hear_29 0 rfl ?_
      refine hr_iload C dX4_hear_31 5 rfl ?_
      refine hr_iast (k := 16) (i := 0) ((8 * r9) + d9) C (by decide) rfl rfl (show (8 * r9) + d9 < 64 by omega) (by decide) (by simp [hr_cell, hr_wA]) rfl dX4_hear_33 ?_
      refine hr_aload_n C dX4_hear_34 rfl 1 rfl ?_
      refine hr_get (k := 14) (i := 0) (fld := 7) C (by decide) rfl rfl (by decide) kU_X4 kF_X4_17 rfl rfl dX4_hear_35 ?_
      refine hr_iload C dX4_hear_38 0 rfl ?_
      refine hr_iload_n C dX4_hear_40 rfl 3 rfl ?_
      refine hr_iast (k := 17) (i := 0) ((8 * r9) + d9) C (by decide) rfl rfl (show (8 * r9) + d9 < 64 by omega) (by decide) (by simp [hr_cell, hr_wA]) rfl dX4_hear_41 ?_
      refine hr_aload_n C dX4_hear_42 rfl 1 rfl ?_
      refine hr_get (k := 14) (i := 0) (fld := 8) C (by decide) rfl rfl (by decide) kU_X4 kF_X4_20 rfl rfl dX4_hear_43 ?_
      refine hr_iload C dX4_hear_46 0 rfl ?_
      refine hr_iconst (v := 0) C dX4_hear_48 (by decide) ?_
      refine hr_iast (k := 18) (i := 0) ((8 * r9) + d9) C (by decide) rfl rfl (show (8 * r9) + d9 < 64 by omega) (by decide) (by simp [hr_cell, hr_wA]) rfl dX4_hear_49 ?_
      refine hr_aload_n C dX4_hear_50 rfl 1 rfl ?_
      refine hr_get (k := 14) (i := 0) (fld := 9) C (by decide) rfl rfl (by decide) kU_X4 kF_X4_23 rfl rfl dX4_hear_51 ?_
      refine hr_iload C dX4_hear_54 0 rfl ?_
      refine hr_iconst (v := 1) C dX4_hear_56 (by decide) ?_
      refine hr_zast (k := 19) (i := 0) ((8 * r9) + d9) C (by decide) rfl rfl (show (8 * r9) + d9 < 64 by omega) (by decide) (by simp [hr_cell, hr_wA]) rfl dX4_hear_57 ?_
      refine hr_aload_n C dX4_hear_58 rfl 1 rfl ?_
      refine hr_get (k := 14) (i := 0) (fld := 10) C (by decide) rfl rfl (by decide) kU_X4 kF_X4_26 rfl rfl dX4_hear_59 ?_
      refine hr_iload C dX4_hear_62 0 rfl ?_
      refine hr_iconst (v := 0) C dX4_hear_64 (by decide) ?_
      refine hr_iast (k := 20) (i := 0) ((8 * r9) + d9) C (by decide) rfl rfl (show (8 * r9) + d9 < 64 by omega) (by decide) (by simp [hr_cell, hr_wA]) rfl dX4_hear_65 ?_
      exact hr_vret C hr dX4_hear_66 (by unfold md_hear md_hn md_hn2 md_hn1; repeat (first | rw [if_pos c15] | rw [if_neg c15] | rw [if_neg (not_not_intro c15)] | rw [if_pos c22] | rw [if_neg c22] | rw [if_neg (not_not_intro c22)] | rw [if_pos c22n] | rw [if_neg c22n] | rw [if_neg (not_not_intro c22n)]); try rfl)
