/-! the class's table t: metric 9, next 10, age 11, silent 12, changed 13 -/
def tb_adopt (S : hr_S) (t d : Nat) (told fr : Int32) : hr_S := hr_w (hr_w (hr_w (hr_w (hr_w S 9 t d told) 10 t d fr) 11 t d 0) 12 t d 0) 13 t d 1
def tb_gone (S : hr_S) (t d : Nat) : hr_S := hr_w (hr_w (hr_w (hr_w S 9 t d 16) 11 t d 0) 12 t d 20) 13 t d 1
def tb_forget (S : hr_S) (t d : Nat) : hr_S := hr_w (hr_w S 9 t d (-1)) 13 t d 0
def tb_hfn1 (S : hr_S) (t d : Nat) (told : Int32) : hr_S := if told < 16 then hr_w S 11 t d 0 else S
def tb_hfn (S : hr_S) (t d : Nat) (told : Int32) : hr_S := if told = S 9 t d then tb_hfn1 S t d told else if told = 16 then tb_gone (tb_hfn1 S t d told) t d else hr_w (hr_w (tb_hfn1 S t d told) 9 t d told) 13 t d 1
def tb_hear (S : hr_S) (t d : Nat) (told fr : Int32) : hr_S := if ¬ S 9 t d = -1 then (if S 12 t d = 0 then (if S 10 t d = fr then tb_hfn S t d told else if told < S 9 t d then tb_adopt S t d told fr else S) else S) else (if told < 16 then tb_adopt S t d told fr else S)
def tb_age1 (S : hr_S) (t d : Nat) : hr_S := hr_w S 11 t d (S 11 t d + 1)
def tb_age2 (S : hr_S) (t d : Nat) : hr_S := if S 12 t d ≤ 0 then tb_age1 S t d else hr_w (tb_age1 S t d) 12 t d (S 12 t d - 1)
def tb_age (S : hr_S) (t d : Nat) : hr_S := if 16 ≤ S 9 t d then (if S 11 t d + 1 < 50 then tb_age2 S t d else tb_forget (tb_age2 S t d) t d) else (if S 11 t d + 1 < 60 then tb_age2 S t d else tb_gone (tb_age2 S t d) t d)
def tb_grow (S : hr_S) (t : Nat) : Nat → hr_S
  | 0 => S
  | d + 1 => if ¬ tb_grow S t d 9 t d = -1 then tb_age (tb_grow S t d) t d else tb_grow S t d
def tb_fall (S : hr_S) (t : Nat) : Nat → hr_S
  | 0 => S
  | d + 1 => tb_forget (tb_fall S t d) t d
def tb_clr (S : hr_S) (t : Nat) : Nat → hr_S
  | 0 => S
  | d + 1 => hr_w (tb_clr S t d) 13 t d 0
/-- loseNext: the numbers and how many are gone -/
def tb_lose (S : hr_S) (t : Nat) (x : Int32) : Nat → hr_S × Nat
  | 0 => (S, 0)
  | d + 1 => if (¬ (tb_lose S t x d).1 9 t d = -1 ∧ (tb_lose S t x d).1 9 t d < 16) ∧ (tb_lose S t x d).1 10 t d = x ∧ (tb_lose S t x d).1 12 t d = 0 then (tb_gone (tb_lose S t x d).1 t d, (tb_lose S t x d).2 + 1) else tb_lose S t x d
theorem tb_lose_le (S : hr_S) (t : Nat) (x : Int32) : ∀ d, (tb_lose S t x d).2 ≤ d
  | 0 => Nat.le_refl 0
  | d + 1 => by
    have := tb_lose_le S t x d
    unfold tb_lose
    split
    · show (tb_lose S t x d).2 + 1 ≤ d + 1; omega
    · omega
def tb_told (S : hr_S) (t d : Nat) (x : Int32) : Int32 := if S 10 t d = x then 16 else if (16 : Int32) < S 9 t d + 1 then 16 else S 9 t d + 1
def tb_read (S : hr_S) (t d what : Nat) : Int32 := if ¬ S 9 t d = -1 then (if what = 0 then S 9 t d else if what = 1 then S 10 t d else if what = 2 then S 11 t d else if what = 3 then (if S 13 t d = 0 then 0 else 1) else S 12 t d) else -1
set_option maxHeartbeats 4000000 in
set_option maxRecDepth 100000 in
theorem ct_X2_has (l : Launch) (E : hr_E) (S : hr_S) (o : Int64) (t : Nat) (ht : t < 8) (d : Nat) (hd : d < 8) : hr_Mi l E yX2_has (Cond.code yX2_has cX2_has 2 (some .boolean) :: hr_W) ({ frames := 0, cells := 0, slots := 0, locals := 0 } : Room) [.ref (hr_ad E 8 t), .int (nI d)] S o (fun r u => r = (if ¬ S 9 t d = -1 then 1 else 0) ∧ u = S) := by
  refine hr_of (by decide) (Nat.le_of_ble_eq_true rfl) (fun p e s m below meth c C hr => ?_)
  refine hr_aload_n C dX2_has_0 rfl 0 rfl ?_
  refine hr_get (k := 8) (i := t) (fld := 0) C (show t < 8 by omega) rfl rfl (by decide) kU_X2 kF_X2_9 rfl rfl dX2_has_1 ?_
  refine hr_iload_n C dX2_has_4 rfl 1 rfl ?_
  refine hr_iald (k := 9) (i := t) d C (show t < 8 by omega) rfl rfl (show d < 8 by omega) (by decide) dX2_has_5 ?_
  refine hr_iconst (v := (-1)) C dX2_has_6 (by decide) ?_
  refine hr_icmp_eq C 14 dX2_has_7 (by decide) (fun c7 => ?_) (fun c7 => ?_)
  · skip
    refine hr_iconst (v := 0) C dX2_has_14 (by decide) ?_
    exact hr_zret C hr rfl dX2_has_15 ⟨by first | (simp only [c7, and_true, true_and, and_false, false_and, or_true, true_or, or_false, false_or, if_true, if_false, reduceIte, not_true_eq_false, not_false_eq_true, and_self]; done) | (rw [if_neg (fun h => by have := h.1; omega)]) | (rw [if_neg (fun h => by have := h.2.1; omega)]), rfl⟩
  · skip
    refine hr_iconst (v := 1) C dX2_has_10 (by decide) ?_
    refine hr_goto C 15 dX2_has_11 (by decide) ?_
    exact hr_zret C hr rfl dX2_has_15 ⟨by first | (simp only [c7, and_true, true_and, and_false, false_and, or_true, true_or, or_false, false_or, if_true, if_false, reduceIte, not_true_eq_false, not_false_eq_true, and_self]; done) | (rw [if_neg (fun h => by have := h.1; omega)]) | (rw [if_neg (fun h => by have := h.2.1; omega)]), rfl⟩
set_option maxHeartbeats 4000000 in
set_option maxRecDepth 100000 in
theorem ct_X2_reaches (l : Launch) (E : hr_E) (S : hr_S) (o : Int64) (t : Nat) (ht : t < 8) (d : Nat) (hd : d < 8) : hr_Mi l E yX2_reaches (Cond.code yX2_reaches cX2_reaches 2 (some .boolean) :: hr_W) ({ frames := 1, cells := 0, slots := 0, locals := 21 } : Room) [.ref (hr_ad E 8 t), .int (nI d)] S o (fun r u => r = (if (¬ S 9 t d = -1) ∧ S 9 t d < 16 then 1 else 0) ∧ u = S) := by
  refine hr_of (by decide) (Nat.le_of_ble_eq_true rfl) (fun p e s m below meth c C hr => ?_)
  refine hr_aload_n C dX2_reaches_0 rfl 0 rfl ?_
  refine hr_iload_n C dX2_reaches_1 rfl 1 rfl ?_
  refine hr_cVi C (ct_X2_has l E S o t (by omega) d (by omega)) (cwV 1 C.1.2.2.2.2 (hr_gV kM_X2_34 kI_X2_has kS_X2_has kN_X2 kC_X2_has) rfl rfl rfl (by decide +kernel) ⟨Nat.le_of_ble_eq_true rfl, Nat.le_of_ble_eq_true rfl⟩) (show t < 8 by omega) rfl rfl rfl (Nat.le_of_ble_eq_true rfl) dX2_reaches_2 ⟨Nat.le_of_ble_eq_true rfl, Nat.le_of_ble_eq_true rfl⟩ (fun r1 S2 h3 => ?_) rfl
  refine hr_tp h3.1 ?_
  refine hr_st h3.2 ?_
  refine hr_if_eq C 23 dX2_reaches_5 (by decide) (fun c5 => ?_) (fun c5 => ?_)
  · skip
    have c5 : ¬ (¬ S 9 t d = -1) := hr_bz.mp c5
    refine hr_iconst (v := 0) C dX2_reaches_23 (by decide) ?_
    exact hr_zret C hr rfl dX2_reaches_24 ⟨by first | (simp only [c5, and_true, true_and, and_false, false_and, or_true, true_or, or_false, false_or, if_true, if_false, reduceIte, not_true_eq_false, not_false_eq_true, and_self]; done) | (rw [if_neg (fun h => by have := h.1; omega)]) | (rw [if_neg (fun h => by have := h.2.1; omega)]), rfl⟩
  · skip
    have c5 : ¬ S 9 t d = -1 := hr_bn.mp c5
    refine hr_aload_n C dX2_reaches_8 rfl 0 rfl ?_
    refine hr_get (k := 8) (i := t) (fld := 0) C (show t < 8 by omega) rfl rfl (by decide) kU_X2 kF_X2_9 rfl rfl dX2_reaches_9 ?_
    refine hr_iload_n C dX2_reaches_12 rfl 1 rfl ?_
    refine hr_iald (k := 9) (i := t) d C (show t < 8 by omega) rfl rfl (show d < 8 by omega) (by decide) dX2_reaches_13 ?_
    refine hr_bipush (v := 16) C dX2_reaches_14 (by decide) ?_
    refine hr_icmp_ge C 23 dX2_reaches_16 (by decide) (fun c16 => ?_) (fun c16 => ?_)
    · skip
      have c16n : ¬ (S 9 t d) < 16 := Int32.not_lt.mpr c16
      refine hr_iconst (v := 0) C dX2_reaches_23 (by decide) ?_
      exact hr_zret C hr rfl dX2_reaches_24 ⟨by first | (simp only [c5, c16, c16n, and_true, true_and, and_false, false_and, or_true, true_or, or_false, false_or, if_true, if_false, reduceIte, not_true_eq_false, not_false_eq_true, and_self]; done) | (rw [if_neg (fun h => by have := h.1; omega)]) | (rw [if_neg (fun h => by have := h.2.1; omega)]), rfl⟩
    · skip
      have c16n : (S 9 t d) < 16 := Int32.not_le.mp c16
      refine hr_iconst (v := 1) C dX2_reaches_19 (by decide) ?_
      refine hr_goto C 24 dX2_reaches_20 (by decide) ?_
      exact hr_zret C hr rfl dX2_reaches_24 ⟨by first | (simp only [c5, c16, c16n, and_true, true_and, and_false, false_and, or_true, true_or, or_false, false_or, if_true, if_false, reduceIte, not_true_eq_false, not_false_eq_true, and_self]; done) | (rw [if_neg (fun h => by have := h.1; omega)]) | (rw [if_neg (fun h => by have := h.2.1; omega)]), rfl⟩
set_option maxHeartbeats 4000000 in
set_option maxRecDepth 100000 in
theorem ct_X2_metricTold (l : Launch) (E : hr_E) (S : hr_S) (o : Int64) (t : Nat) (ht : t < 8) (d : Nat) (hd : d < 8) (x : Int32) : hr_Mi l E yX2_metricTold (Cond.code yX2_metricTold cX2_metricTold 3 (some .int) :: hr_W) ({ frames := 1, cells := 0, slots := 0, locals := 24 } : Room) [.ref (hr_ad E 8 t), .int (nI d), .int x] S o (fun r u => r = tb_told S t d x ∧ u = S) := by
  refine hr_of (by decide) (Nat.le_of_ble_eq_true rfl) (fun p e s m below meth c C hr => ?_)
  refine hr_aload_n C dX2_metricTold_0 rfl 0 rfl ?_
  refine hr_get (k := 8) (i := t) (fld := 1) C (show t < 8 by omega) rfl rfl (by decide) kU_X2 kF_X2_15 rfl rfl dX2_metricTold_1 ?_
  refine hr_iload_n C dX2_metricTold_4 rfl 1 rfl ?_
  refine hr_iald (k := 10) (i := t) d C (show t < 8 by omega) rfl rfl (show d < 8 by omega) (by decide) dX2_metricTold_5 ?_
  refine hr_iload_n C dX2_metricTold_6 rfl 2 rfl ?_
  refine hr_icmp_ne C 15 dX2_metricTold_7 (by decide) (fun c7 => ?_) (fun c7 => ?_)
  · skip
    refine hr_aload_n C dX2_metricTold_15 rfl 0 rfl ?_
    refine hr_get (k := 8) (i := t) (fld := 0) C (show t < 8 by omega) rfl rfl (by decide) kU_X2 kF_X2_9 rfl rfl dX2_metricTold_16 ?_
    refine hr_iload_n C dX2_metricTold_19 rfl 1 rfl ?_
    refine hr_iald (k := 9) (i := t) d C (show t < 8 by omega) rfl rfl (show d < 8 by omega) (by decide) dX2_metricTold_20 ?_
    refine hr_iconst (v := 1) C dX2_metricTold_21 (by decide) ?_
    refine hr_iadd C dX2_metricTold_22 rfl ?_
    refine hr_bipush (v := 16) C dX2_metricTold_23 (by decide) ?_
    refine hr_min C kM_X2_38 kT_min kN_Math kC_min (Nat.le_of_ble_eq_true rfl) (Nat.le_of_ble_eq_true rfl) (Nat.le_of_ble_eq_true rfl) (Nat.le_of_ble_eq_true rfl) rfl dX2_metricTold_25 ?_
    exact hr_iret C hr dX2_metricTold_28 ⟨by unfold tb_told; simp only [c7, if_true, if_false, reduceIte], rfl⟩
  · skip
    refine hr_bipush (v := 16) C dX2_metricTold_10 (by decide) ?_
    refine hr_goto C 28 dX2_metricTold_12 (by decide) ?_
    exact hr_iret C hr dX2_metricTold_28 ⟨by unfold tb_told; simp only [c7, if_true, if_false, reduceIte], rfl⟩
set_option maxHeartbeats 4000000 in
set_option maxRecDepth 100000 in
theorem ct_X2_adopt (l : Launch) (E : hr_E) (S : hr_S) (o : Int64) (t : Nat) (ht : t < 8) (d : Nat) (hd : d < 8) (a b : Int32) : hr_Mv l E yX2_adopt (Cond.code yX2_adopt cX2_adopt 4 none :: hr_W) ({ frames := 0, cells := 0, slots := 0, locals := 0 } : Room) [.ref (hr_ad E 8 t), .int (nI d), .int a, .int b] S o (fun u => u = tb_adopt S t d a b) := by
  refine hr_of (by decide) (Nat.le_of_ble_eq_true rfl) (fun p e s m below meth c C hr => ?_)
  refine hr_aload_n C dX2_adopt_0 rfl 0 rfl ?_
  refine hr_get (k := 8) (i := t) (fld := 0) C (show t < 8 by omega) rfl rfl (by decide) kU_X2 kF_X2_9 rfl rfl dX2_adopt_1 ?_
  refine hr_iload_n C dX2_adopt_4 rfl 1 rfl ?_
  refine hr_iload_n C dX2_adopt_5 rfl 2 rfl ?_
  refine hr_iast (k := 9) (i := t) d C (show t < 8 by omega) rfl rfl (show d < 8 by omega) (by decide) (by simp [hr_cell, hr_wA]) rfl dX2_adopt_6 ?_
  refine hr_aload_n C dX2_adopt_7 rfl 0 rfl ?_
  refine hr_get (k := 8) (i := t) (fld := 1) C (show t < 8 by omega) rfl rfl (by decide) kU_X2 kF_X2_15 rfl rfl dX2_adopt_8 ?_
  refine hr_iload_n C dX2_adopt_11 rfl 1 rfl ?_
  refine hr_iload_n C dX2_adopt_12 rfl 3 rfl ?_
  refine hr_iast (k := 10) (i := t) d C (show t < 8 by omega) rfl rfl (show d < 8 by omega) (by decide) (by simp [hr_cell, hr_wA]) rfl dX2_adopt_13 ?_
  refine hr_aload_n C dX2_adopt_14 rfl 0 rfl ?_
  refine hr_get (k := 8) (i := t) (fld := 2) C (show t < 8 by omega) rfl rfl (by decide) kU_X2 kF_X2_18 rfl rfl dX2_adopt_15 ?_
  refine hr_iload_n C dX2_adopt_18 rfl 1 rfl ?_
  refine hr_iconst (v := 0) C dX2_adopt_19 (by decide) ?_
  refine hr_iast (k := 11) (i := t) d C (show t < 8 by omega) rfl rfl (show d < 8 by omega) (by decide) (by simp [hr_cell, hr_wA]) rfl dX2_adopt_20 ?_
  refine hr_aload_n C dX2_adopt_21 rfl 0 rfl ?_
  refine hr_get (k := 8) (i := t) (fld := 3) C (show t < 8 by omega) rfl rfl (by decide) kU_X2 kF_X2_21 rfl rfl dX2_adopt_22 ?_
  refine hr_iload_n C dX2_adopt_25 rfl 1 rfl ?_
  refine hr_iconst (v := 0) C dX2_adopt_26 (by decide) ?_
  refine hr_iast (k := 12) (i := t) d C (show t < 8 by omega) rfl rfl (show d < 8 by omega) (by decide) (by simp [hr_cell, hr_wA]) rfl dX2_adopt_27 ?_
  refine hr_aload_n C dX2_adopt_28 rfl 0 rfl ?_
  refine hr_get (k := 8) (i := t) (fld := 4) C (show t < 8 by omega) rfl rfl (by decide) kU_X2 kF_X2_24 rfl rfl dX2_adopt_29 ?_
  refine hr_iload_n C dX2_adopt_32 rfl 1 rfl ?_
  refine hr_iconst (v := 1) C dX2_adopt_33 (by decide) ?_
  refine hr_zast (k := 13) (i := t) d C (show t < 8 by omega) rfl rfl (show d < 8 by omega) (by decide) (by simp [hr_cell, hr_wA]) rfl dX2_adopt_34 ?_
  exact hr_vret C hr dX2_adopt_35 rfl
set_option maxHeartbeats 4000000 in
set_option maxRecDepth 100000 in
theorem ct_X2_becomeGone (l : Launch) (E : hr_E) (S : hr_S) (o : Int64) (t : Nat) (ht : t < 8) (d : Nat) (hd : d < 8) : hr_Mv l E yX2_becomeGone (Cond.code yX2_becomeGone cX2_becomeGone 2 none :: hr_W) ({ frames := 0, cells := 0, slots := 0, locals := 0 } : Room) [.ref (hr_ad E 8 t), .int (nI d)] S o (fun u => u = tb_gone S t d) := by
  refine hr_of (by decide) (Nat.le_of_ble_eq_true rfl) (fun p e s m below meth c C hr => ?_)
  refine hr_aload_n C dX2_becomeGone_0 rfl 0 rfl ?_
  refine hr_get (k := 8) (i := t) (fld := 0) C (show t < 8 by omega) rfl rfl (by decide) kU_X2 kF_X2_9 rfl rfl dX2_becomeGone_1 ?_
  refine hr_iload_n C dX2_becomeGone_4 rfl 1 rfl ?_
  refine hr_bipush (v := 16) C dX2_becomeGone_5 (by decide) ?_
  refine hr_iast (k := 9) (i := t) d C (show t < 8 by omega) rfl rfl (show d < 8 by omega) (by decide) (by simp [hr_cell, hr_wA]) rfl dX2_becomeGone_7 ?_
  refine hr_aload_n C dX2_becomeGone_8 rfl 0 rfl ?_
  refine hr_get (k := 8) (i := t) (fld := 2) C (show t < 8 by omega) rfl rfl (by decide) kU_X2 kF_X2_18 rfl rfl dX2_becomeGone_9 ?_
  refine hr_iload_n C dX2_becomeGone_12 rfl 1 rfl ?_
  refine hr_iconst (v := 0) C dX2_becomeGone_13 (by decide) ?_
  refine hr_iast (k := 11) (i := t) d C (show t < 8 by omega) rfl rfl (show d < 8 by omega) (by decide) (by simp [hr_cell, hr_wA]) rfl dX2_becomeGone_14 ?_
  refine hr_aload_n C dX2_becomeGone_15 rfl 0 rfl ?_
  refine hr_get (k := 8) (i := t) (fld := 3) C (show t < 8 by omega) rfl rfl (by decide) kU_X2 kF_X2_21 rfl rfl dX2_becomeGone_16 ?_
  refine hr_iload_n C dX2_becomeGone_19 rfl 1 rfl ?_
  refine hr_bipush (v := 20) C dX2_becomeGone_20 (by decide) ?_
  refine hr_iast (k := 12) (i := t) d C (show t < 8 by omega) rfl rfl (show d < 8 by omega) (by decide) (by simp [hr_cell, hr_wA]) rfl dX2_becomeGone_22 ?_
  refine hr_aload_n C dX2_becomeGone_23 rfl 0 rfl ?_
  refine hr_get (k := 8) (i := t) (fld := 4) C (show t < 8 by omega) rfl rfl (by decide) kU_X2 kF_X2_24 rfl rfl dX2_becomeGone_24 ?_
  refine hr_iload_n C dX2_becomeGone_27 rfl 1 rfl ?_
  refine hr_iconst (v := 1) C dX2_becomeGone_28 (by decide) ?_
  refine hr_zast (k := 13) (i := t) d C (show t < 8 by omega) rfl rfl (show d < 8 by omega) (by decide) (by simp [hr_cell, hr_wA]) rfl dX2_becomeGone_29 ?_
  exact hr_vret C hr dX2_becomeGone_30 rfl
set_option maxHeartbeats 4000000 in
set_option maxRecDepth 100000 in
theorem ct_X2_forget (l : Launch) (E : hr_E) (S : hr_S) (o : Int64) (t : Nat) (ht : t < 8) (d : Nat) (hd : d < 8) : hr_Mv l E yX2_forget (Cond.code yX2_forget cX2_forget 2 none :: hr_W) ({ frames := 0, cells := 0, slots := 0, locals := 0 } : Room) [.ref (hr_ad E 8 t), .int (nI d)] S o (fun u => u = tb_forget S t d) := by
  refine hr_of (by decide) (Nat.le_of_ble_eq_true rfl) (fun p e s m below meth c C hr => ?_)
  refine hr_aload_n C dX2_forget_0 rfl 0 rfl ?_
  refine hr_get (k := 8) (i := t) (fld := 0) C (show t < 8 by omega) rfl rfl (by decide) kU_X2 kF_X2_9 rfl rfl dX2_forget_1 ?_
  refine hr_iload_n C dX2_forget_4 rfl 1 rfl ?_
  refine hr_iconst (v := (-1)) C dX2_forget_5 (by decide) ?_
  refine hr_iast (k := 9) (i := t) d C (show t < 8 by omega) rfl rfl (show d < 8 by omega) (by decide) (by simp [hr_cell, hr_wA]) rfl dX2_forget_6 ?_
  refine hr_aload_n C dX2_forget_7 rfl 0 rfl ?_
  refine hr_get (k := 8) (i := t) (fld := 4) C (show t < 8 by omega) rfl rfl (by decide) kU_X2 kF_X2_24 rfl rfl dX2_forget_8 ?_
  refine hr_iload_n C dX2_forget_11 rfl 1 rfl ?_
  refine hr_iconst (v := 0) C dX2_forget_12 (by decide) ?_
  refine hr_zast (k := 13) (i := t) d C (show t < 8 by omega) rfl rfl (show d < 8 by omega) (by decide) (by simp [hr_cell, hr_wA]) rfl dX2_forget_13 ?_
  exact hr_vret C hr dX2_forget_14 rfl
set_option maxHeartbeats 4000000 in
set_option maxRecDepth 100000 in
theorem ct_X2_hearFromNext (l : Launch) (E : hr_E) (S : hr_S) (o : Int64) (t : Nat) (ht : t < 8) (d : Nat) (hd : d < 8) (a : Int32) : hr_Mv l E yX2_hearFromNext (Cond.code yX2_hearFromNext cX2_hearFromNext 3 none :: hr_W) ({ frames := 1, cells := 0, slots := 0, locals := 21 } : Room) [.ref (hr_ad E 8 t), .int (nI d), .int a] S o (fun u => u = tb_hfn S t d a) := by
  refine hr_of (by decide) (Nat.le_of_ble_eq_true rfl) (fun p e s m below meth c C hr => ?_)
  refine hr_iload_n C dX2_hearFromNext_0 rfl 2 rfl ?_
  refine hr_bipush (v := 16) C dX2_hearFromNext_1 (by decide) ?_
  refine hr_icmp_ge C 13 dX2_hearFromNext_3 (by decide) (fun c3 => ?_) (fun c3 => ?_)
  · skip
    have c3n : ¬ a < 16 := Int32.not_lt.mpr c3
    refine hr_iload_n C dX2_hearFromNext_13 rfl 2 rfl ?_
    refine hr_aload_n C dX2_hearFromNext_14 rfl 0 rfl ?_
    refine hr_get (k := 8) (i := t) (fld := 0) C (show t < 8 by omega) rfl rfl (by decide) kU_X2 kF_X2_9 rfl rfl dX2_hearFromNext_15 ?_
    refine hr_iload_n C dX2_hearFromNext_18 rfl 1 rfl ?_
    refine hr_iald (k := 9) (i := t) d C (show t < 8 by omega) rfl rfl (show d < 8 by omega) (by decide) dX2_hearFromNext_19 ?_
    refine hr_icmp_ne C 24 dX2_hearFromNext_20 (by decide) (fun c20 => ?_) (fun c20 => ?_)
    · skip
      refine hr_iload_n C dX2_hearFromNext_24 rfl 2 rfl ?_
      refine hr_bipush (v := 16) C dX2_hearFromNext_25 (by decide) ?_
      refine hr_icmp_ne C 38 dX2_hearFromNext_27 (by decide) (fun c27 => ?_) (fun c27 => ?_)
      · skip
        refine hr_aload_n C dX2_hearFromNext_38 rfl 0 rfl ?_
        refine hr_get (k := 8) (i := t) (fld := 0) C (show t < 8 by omega) rfl rfl (by decide) kU_X2 kF_X2_9 rfl rfl dX2_hearFromNext_39 ?_
        refine hr_iload_n C dX2_hearFromNext_42 rfl 1 rfl ?_
        refine hr_iload_n C dX2_hearFromNext_43 rfl 2 rfl ?_
        refine hr_iast (k := 9) (i := t) d C (show t < 8 by omega) rfl rfl (show d < 8 by omega) (by decide) (by simp [hr_cell, hr_wA]) rfl dX2_hearFromNext_44 ?_
        refine hr_aload_n C dX2_hearFromNext_45 rfl 0 rfl ?_
        refine hr_get (k := 8) (i := t) (fld := 4) C (show t < 8 by omega) rfl rfl (by decide) kU_X2 kF_X2_24 rfl rfl dX2_hearFromNext_46 ?_
        refine hr_iload_n C dX2_hearFromNext_49 rfl 1 rfl ?_
        refine hr_iconst (v := 1) C dX2_hearFromNext_50 (by decide) ?_
        refine hr_zast (k := 13) (i := t) d C (show t < 8 by omega) rfl rfl (show d < 8 by omega) (by decide) (by simp [hr_cell, hr_wA]) rfl dX2_hearFromNext_51 ?_
        exact hr_vret C hr dX2_hearFromNext_52 (by unfold tb_hfn tb_hfn1; repeat (first | rw [if_pos c3] | rw [if_neg c3] | rw [if_neg (not_not_intro c3)] | rw [if_pos c3n] | rw [if_neg c3n] | rw [if_neg (not_not_intro c3n)] | rw [if_pos c20] | rw [if_neg c20] | rw [if_neg (not_not_intro c20)] | rw [if_pos c27] | rw [if_neg c27] | rw [if_neg (not_not_intro c27)]); try rfl)
      · skip
        refine hr_aload_n C dX2_hearFromNext_30 rfl 0 rfl ?_
        refine hr_iload_n C dX2_hearFromNext_31 rfl 1 rfl ?_
        refine hr_cVv C (ct_X2_becomeGone l E S o t (by omega) d (by omega)) (cwV 1 C.1.2.2.2.2 (hr_gV kM_X2_52 kI_X2_becomeGone kS_X2_becomeGone kN_X2 kC_X2_becomeGone) rfl rfl rfl (by decide +kernel) ⟨Nat.le_of_ble_eq_true rfl, Nat.le_of_ble_eq_true rfl⟩) (show t < 8 by omega) rfl rfl rfl (Nat.le_of_ble_eq_true rfl) dX2_hearFromNext_32 ⟨Nat.le_of_ble_eq_true rfl, Nat.le_of_ble_eq_true rfl⟩ (fun S2 h3 => ?_) rfl
        refine hr_st h3 ?_
        refine hr_goto C 52 dX2_hearFromNext_35 (by decide) ?_
        exact hr_vret C hr dX2_hearFromNext_52 (by unfold tb_hfn tb_hfn1; repeat (first | rw [if_pos c3] | rw [if_neg c3] | rw [if_neg (not_not_intro c3)] | rw [if_pos c3n] | rw [if_neg c3n] | rw [if_neg (not_not_intro c3n)] | rw [if_pos c20] | rw [if_neg c20] | rw [if_neg (not_not_intro c20)] | rw [if_pos c27] | rw [if_neg c27] | rw [if_neg (not_not_intro c27)]); try rfl)
    · skip
      exact hr_vret C hr dX2_hearFromNext_23 (by unfold tb_hfn tb_hfn1; repeat (first | rw [if_pos c3] | rw [if_neg c3] | rw [if_neg (not_not_intro c3)] | rw [if_pos c3n] | rw [if_neg c3n] | rw [if_neg (not_not_intro c3n)] | rw [if_pos c20] | rw [if_neg c20] | rw [if_neg (not_not_intro c20)]); try rfl)
  · skip
    have c3n : a < 16 := Int32.not_le.mp c3
    refine hr_aload_n C dX2_hearFromNext_6 rfl 0 rfl ?_
    refine hr_get (k := 8) (i := t) (fld := 2) C (show t < 8 by omega) rfl rfl (by decide) kU_X2 kF_X2_18 rfl rfl dX2_hearFromNext_7 ?_
    refine hr_iload_n C dX2_hearFromNext_10 rfl 1 rfl ?_
    refine hr_iconst (v := 0) C dX2_hearFromNext_11 (by decide) ?_
    refine hr_iast (k := 11) (i := t) d C (show t < 8 by omega) rfl rfl (show d < 8 by omega) (by decide) (by simp [hr_cell, hr_wA]) rfl dX2_hearFromNext_12 ?_
    refine hr_iload_n C dX2_hearFromNext_13 rfl 2 rfl ?_
    refine hr_aload_n C dX2_hearFromNext_14 rfl 0 rfl ?_
    refine hr_get (k := 8) (i := t) (fld := 0) C (show t < 8 by omega) rfl rfl (by decide) kU_X2 kF_X2_9 rfl rfl dX2_hearFromNext_15 ?_
    refine hr_iload_n C dX2_hearFromNext_18 rfl 1 rfl ?_
    refine hr_iald (k := 9) (i := t) d C (show t < 8 by omega) rfl rfl (show d < 8 by omega) (by decide) dX2_hearFromNext_19 ?_
    refine hr_tp (y := S 9 t d) rfl ?_
    refine hr_icmp_ne C 24 dX2_hearFromNext_20 (by decide) (fun c20 => ?_) (fun c20 => ?_)
    · skip
      refine hr_iload_n C dX2_hearFromNext_24 rfl 2 rfl ?_
      refine hr_bipush (v := 16) C dX2_hearFromNext_25 (by decide) ?_
      refine hr_icmp_ne C 38 dX2_hearFromNext_27 (by decide) (fun c27 => ?_) (fun c27 => ?_)
      · skip
        refine hr_aload_n C dX2_hearFromNext_38 rfl 0 rfl ?_
        refine hr_get (k := 8) (i := t) (fld := 0) C (show t < 8 by omega) rfl rfl (by decide) kU_X2 kF_X2_9 rfl rfl dX2_hearFromNext_39 ?_
        refine hr_iload_n C dX2_hearFromNext_42 rfl 1 rfl ?_
        refine hr_iload_n C dX2_hearFromNext_43 rfl 2 rfl ?_
        refine hr_iast (k := 9) (i := t) d C (show t < 8 by omega) rfl rfl (show d < 8 by omega) (by decide) (by simp [hr_cell, hr_wA]) rfl dX2_hearFromNext_44 ?_
        refine hr_aload_n C dX2_hearFromNext_45 rfl 0 rfl ?_
        refine hr_get (k := 8) (i := t) (fld := 4) C (show t < 8 by omega) rfl rfl (by decide) kU_X2 kF_X2_24 rfl rfl dX2_hearFromNext_46 ?_
        refine hr_iload_n C dX2_hearFromNext_49 rfl 1 rfl ?_
        refine hr_iconst (v := 1) C dX2_hearFromNext_50 (by decide) ?_
        refine hr_zast (k := 13) (i := t) d C (show t < 8 by omega) rfl rfl (show d < 8 by omega) (by decide) (by simp [hr_cell, hr_wA]) rfl dX2_hearFromNext_51 ?_
        exact hr_vret C hr dX2_hearFromNext_52 (by unfold tb_hfn tb_hfn1; repeat (first | rw [if_pos c3] | rw [if_neg c3] | rw [if_neg (not_not_intro c3)] | rw [if_pos c3n] | rw [if_neg c3n] | rw [if_neg (not_not_intro c3n)] | rw [if_pos c20] | rw [if_neg c20] | rw [if_neg (not_not_intro c20)] | rw [if_pos c27] | rw [if_neg c27] | rw [if_neg (not_not_intro c27)]); try rfl)
      · skip
        refine hr_aload_n C dX2_hearFromNext_30 rfl 0 rfl ?_
        refine hr_iload_n C dX2_hearFromNext_31 rfl 1 rfl ?_
        refine hr_cVv C (ct_X2_becomeGone l E (hr_w S 11 t d 0) o t (by omega) d (by omega)) (cwV 1 C.1.2.2.2.2 (hr_gV kM_X2_52 kI_X2_becomeGone kS_X2_becomeGone kN_X2 kC_X2_becomeGone) rfl rfl rfl (by decide +kernel) ⟨Nat.le_of_ble_eq_true rfl, Nat.le_of_ble_eq_true rfl⟩) (show t < 8 by omega) rfl rfl rfl (Nat.le_of_ble_eq_true rfl) dX2_hearFromNext_32 ⟨Nat.le_of_ble_eq_true rfl, Nat.le_of_ble_eq_true rfl⟩ (fun S5 h6 => ?_) rfl
        refine hr_st h6 ?_
        refine hr_goto C 52 dX2_hearFromNext_35 (by decide) ?_
        exact hr_vret C hr dX2_hearFromNext_52 (by unfold tb_hfn tb_hfn1; repeat (first | rw [if_pos c3] | rw [if_neg c3] | rw [if_neg (not_not_intro c3)] | rw [if_pos c3n] | rw [if_neg c3n] | rw [if_neg (not_not_intro c3n)] | rw [if_pos c20] | rw [if_neg c20] | rw [if_neg (not_not_intro c20)] | rw [if_pos c27] | rw [if_neg c27] | rw [if_neg (not_not_intro c27)]); try rfl)
    · skip
      exact hr_vret C hr dX2_hearFromNext_23 (by unfold tb_hfn tb_hfn1; repeat (first | rw [if_pos c3] | rw [if_neg c3] | rw [if_neg (not_not_intro c3)] | rw [if_pos c3n] | rw [if_neg c3n] | rw [if_neg (not_not_intro c3n)] | rw [if_pos c20] | rw [if_neg c20] | rw [if_neg (not_not_intro c20)]); try rfl)
set_option maxHeartbeats 4000000 in
set_option maxRecDepth 100000 in
theorem ct_X2_hear (l : Launch) (E : hr_E) (S : hr_S) (o : Int64) (t : Nat) (ht : t < 8) (d : Nat) (hd : d < 8) (a b : Int32) : hr_Mv l E yX2_hear (Cond.code yX2_hear cX2_hear 4 none :: hr_W) ({ frames := 2, cells := 0, slots := 0, locals := 43 } : Room) [.ref (hr_ad E 8 t), .int (nI d), .int a, .int b] S o (fun u => u = tb_hear S t d a b) := by
  refine hr_of (by decide) (Nat.le_of_ble_eq_true rfl) (fun p e s m below meth c C hr => ?_)
  refine hr_aload_n C dX2_hear_0 rfl 0 rfl ?_
  refine hr_iload_n C dX2_hear_1 rfl 1 rfl ?_
  refine hr_cVi C (ct_X2_has l E S o t (by omega) d (by omega)) (cwV 1 C.1.2.2.2.2 (hr_gV kM_X2_34 kI_X2_has kS_X2_has kN_X2 kC_X2_has) rfl rfl rfl (by decide +kernel) ⟨Nat.le_of_ble_eq_true rfl, Nat.le_of_ble_eq_true rfl⟩) (show t < 8 by omega) rfl rfl rfl (Nat.le_of_ble_eq_true rfl) dX2_hear_2 ⟨Nat.le_of_ble_eq_true rfl, Nat.le_of_ble_eq_true rfl⟩ (fun r1 S2 h3 => ?_) rfl
  refine hr_tp h3.1 ?_
  refine hr_st h3.2 ?_
  refine hr_if_ne C 24 dX2_hear_5 (by decide) (fun c5 => ?_) (fun c5 => ?_)
  · skip
    have c5 : ¬ S 9 t d = -1 := hr_bn.mp c5
    refine hr_aload_n C dX2_hear_24 rfl 0 rfl ?_
    refine hr_get (k := 8) (i := t) (fld := 3) C (show t < 8 by omega) rfl rfl (by decide) kU_X2 kF_X2_21 rfl rfl dX2_hear_25 ?_
    refine hr_iload_n C dX2_hear_28 rfl 1 rfl ?_
    refine hr_iald (k := 12) (i := t) d C (show t < 8 by omega) rfl rfl (show d < 8 by omega) (by decide) dX2_hear_29 ?_
    refine hr_if_ne C 69 dX2_hear_30 (by decide) (fun c30 => ?_) (fun c30 => ?_)
    · skip
      exact hr_vret C hr dX2_hear_69 (by unfold tb_hear; repeat (first | rw [if_pos c5] | rw [if_neg c5] | rw [if_neg (not_not_intro c5)] | rw [if_pos c30] | rw [if_neg c30] | rw [if_neg (not_not_intro c30)]); try rfl)
    · skip
      refine hr_aload_n C dX2_hear_33 rfl 0 rfl ?_
      refine hr_get (k := 8) (i := t) (fld := 1) C (show t < 8 by omega) rfl rfl (by decide) kU_X2 kF_X2_15 rfl rfl dX2_hear_34 ?_
      refine hr_iload_n C dX2_hear_37 rfl 1 rfl ?_
      refine hr_iald (k := 10) (i := t) d C (show t < 8 by omega) rfl rfl (show d < 8 by omega) (by decide) dX2_hear_38 ?_
      refine hr_iload_n C dX2_hear_39 rfl 3 rfl ?_
      refine hr_icmp_ne C 52 dX2_hear_40 (by decide) (fun c40 => ?_) (fun c40 => ?_)
      · skip
        refine hr_iload_n C dX2_hear_52 rfl 2 rfl ?_
        refine hr_aload_n C dX2_hear_53 rfl 0 rfl ?_
        refine hr_get (k := 8) (i := t) (fld := 0) C (show t < 8 by omega) rfl rfl (by decide) kU_X2 kF_X2_9 rfl rfl dX2_hear_54 ?_
        refine hr_iload_n C dX2_hear_57 rfl 1 rfl ?_
        refine hr_iald (k := 9) (i := t) d C (show t < 8 by omega) rfl rfl (show d < 8 by omega) (by decide) dX2_hear_58 ?_
        refine hr_icmp_ge C 69 dX2_hear_59 (by decide) (fun c59 => ?_) (fun c59 => ?_)
        · skip
          have c59n : ¬ a < (S 9 t d) := Int32.not_lt.mpr c59
          exact hr_vret C hr dX2_hear_69 (by unfold tb_hear; repeat (first | rw [if_pos c5] | rw [if_neg c5] | rw [if_neg (not_not_intro c5)] | rw [if_pos c30] | rw [if_neg c30] | rw [if_neg (not_not_intro c30)] | rw [if_pos c40] | rw [if_neg c40] | rw [if_neg (not_not_intro c40)] | rw [if_pos c59] | rw [if_neg c59] | rw [if_neg (not_not_intro c59)] | rw [if_pos c59n] | rw [if_neg c59n] | rw [if_neg (not_not_intro c59n)]); try rfl)
        · skip
          have c59n : a < (S 9 t d) := Int32.not_le.mp c59
          refine hr_aload_n C dX2_hear_62 rfl 0 rfl ?_
          refine hr_iload_n C dX2_hear_63 rfl 1 rfl ?_
          refine hr_iload_n C dX2_hear_64 rfl 2 rfl ?_
          refine hr_iload_n C dX2_hear_65 rfl 3 rfl ?_
          refine hr_cVv C (ct_X2_adopt l E S o t (by omega) d (by omega) a b) (cwV 3 C.1.2.2.2.2 (hr_gV kM_X2_44 kI_X2_adopt kS_X2_adopt kN_X2 kC_X2_adopt) rfl rfl rfl (by decide +kernel) ⟨Nat.le_of_ble_eq_true rfl, Nat.le_of_ble_eq_true rfl⟩) (show t < 8 by omega) rfl rfl rfl (Nat.le_of_ble_eq_true rfl) dX2_hear_66 ⟨Nat.le_of_ble_eq_true rfl, Nat.le_of_ble_eq_true rfl⟩ (fun S5 h6 => ?_) rfl
          refine hr_st h6 ?_
          exact hr_vret C hr dX2_hear_69 (by unfold tb_hear; repeat (first | rw [if_pos c5] | rw [if_neg c5] | rw [if_neg (not_not_intro c5)] | rw [if_pos c30] | rw [if_neg c30] | rw [if_neg (not_not_intro c30)] | rw [if_pos c40] | rw [if_neg c40] | rw [if_neg (not_not_intro c40)] | rw [if_pos c59] | rw [if_neg c59] | rw [if_neg (not_not_intro c59)] | rw [if_pos c59n] | rw [if_neg c59n] | rw [if_neg (not_not_intro c59n)]); try rfl)
      · skip
        refine hr_aload_n C dX2_hear_43 rfl 0 rfl ?_
        refine hr_iload_n C dX2_hear_44 rfl 1 rfl ?_
        refine hr_iload_n C dX2_hear_45 rfl 2 rfl ?_
        refine hr_cVv C (ct_X2_hearFromNext l E S o t (by omega) d (by omega) a) (cwV 2 C.1.2.2.2.2 (hr_gV kM_X2_48 kI_X2_hearFromNext kS_X2_hearFromNext kN_X2 kC_X2_hearFromNext) rfl rfl rfl (by decide +kernel) ⟨Nat.le_of_ble_eq_true rfl, Nat.le_of_ble_eq_true rfl⟩) (show t < 8 by omega) rfl rfl rfl (Nat.le_of_ble_eq_true rfl) dX2_hear_46 ⟨Nat.le_of_ble_eq_true rfl, Nat.le_of_ble_eq_true rfl⟩ (fun S8 h9 => ?_) rfl
        refine hr_st h9 ?_
        refine hr_goto C 69 dX2_hear_49 (by decide) ?_
        exact hr_vret C hr dX2_hear_69 (by unfold tb_hear; repeat (first | rw [if_pos c5] | rw [if_neg c5] | rw [if_neg (not_not_intro c5)] | rw [if_pos c30] | rw [if_neg c30] | rw [if_neg (not_not_intro c30)] | rw [if_pos c40] | rw [if_neg c40] | rw [if_neg (not_not_intro c40)]); try rfl)
  · skip
    have c5 : ¬ (¬ S 9 t d = -1) := hr_bz.mp c5
    refine hr_iload_n C dX2_hear_8 rfl 2 rfl ?_
    refine hr_bipush (v := 16) C dX2_hear_9 (by decide) ?_
    refine hr_icmp_ge C 69 dX2_hear_11 (by decide) (fun c11 => ?_) (fun c11 => ?_)
    · skip
      have c11n : ¬ a < 16 := Int32.not_lt.mpr c11
      exact hr_vret C hr dX2_hear_69 (by unfold tb_hear; repeat (first | rw [if_pos c5] | rw [if_neg c5] | rw [if_neg (not_not_intro c5)] | rw [if_pos c11] | rw [if_neg c11] | rw [if_neg (not_not_intro c11)] | rw [if_pos c11n] | rw [if_neg c11n] | rw [if_neg (not_not_intro c11n)]); try rfl)
    · skip
      have c11n : a < 16 := Int32.not_le.mp c11
      refine hr_aload_n C dX2_hear_14 rfl 0 rfl ?_
      refine hr_iload_n C dX2_hear_15 rfl 1 rfl ?_
      refine hr_iload_n C dX2_hear_16 rfl 2 rfl ?_
      refine hr_iload_n C dX2_hear_17 rfl 3 rfl ?_
      refine hr_cVv C (ct_X2_adopt l E S o t (by omega) d (by omega) a b) (cwV 3 C.1.2.2.2.2 (hr_gV kM_X2_44 kI_X2_adopt kS_X2_adopt kN_X2 kC_X2_adopt) rfl rfl rfl (by decide +kernel) ⟨Nat.le_of_ble_eq_true rfl, Nat.le_of_ble_eq_true rfl⟩) (show t < 8 by omega) rfl rfl rfl (Nat.le_of_ble_eq_true rfl) dX2_hear_18 ⟨Nat.le_of_ble_eq_true rfl, Nat.le_of_ble_eq_true rfl⟩ (fun S11 h12 => ?_) rfl
      refine hr_st h12 ?_
      refine hr_goto C 69 dX2_hear_21 (by decide) ?_
      exact hr_vret C hr dX2_hear_69 (by unfold tb_hear; repeat (first | rw [if_pos c5] | rw [if_neg c5] | rw [if_neg (not_not_intro c5)] | rw [if_pos c11] | rw [if_neg c11] | rw [if_neg (not_not_intro c11)] | rw [if_pos c11n] | rw [if_neg c11n] | rw [if_neg (not_not_intro c11n)]); try rfl)
set_option maxHeartbeats 4000000 in
set_option maxRecDepth 100000 in
theorem ct_X2_ageRoute (l : Launch) (E : hr_E) (S : hr_S) (o : Int64) (t : Nat) (ht : t < 8) (d : Nat) (hd : d < 8) : hr_Mv l E yX2_ageRoute (Cond.code yX2_ageRoute cX2_ageRoute 2 none :: hr_W) ({ frames := 1, cells := 0, slots := 0, locals := 21 } : Room) [.ref (hr_ad E 8 t), .int (nI d)] S o (fun u => u = tb_age S t d) := by
  refine hr_of (by decide) (Nat.le_of_ble_eq_true rfl) (fun p e s m below meth c C hr => ?_)
  refine hr_aload_n C dX2_ageRoute_0 rfl 0 rfl ?_
  refine hr_get (k := 8) (i := t) (fld := 2) C (show t < 8 by omega) rfl rfl (by decide) kU_X2 kF_X2_18 rfl rfl dX2_ageRoute_1 ?_
  refine hr_iload_n C dX2_ageRoute_4 rfl 1 rfl ?_
  refine hr_dup2 C dX2_ageRoute_5 rfl rfl ?_
  refine hr_iald (k := 11) (i := t) d C (show t < 8 by omega) rfl rfl (show d < 8 by omega) (by decide) dX2_ageRoute_6 ?_
  refine hr_iconst (v := 1) C dX2_ageRoute_7 (by decide) ?_
  refine hr_iadd C dX2_ageRoute_8 rfl ?_
  refine hr_iast (k := 11) (i := t) d C (show t < 8 by omega) rfl rfl (show d < 8 by omega) (by decide) (by simp [hr_cell, hr_wA]) rfl dX2_ageRoute_9 ?_
  refine hr_aload_n C dX2_ageRoute_10 rfl 0 rfl ?_
  refine hr_get (k := 8) (i := t) (fld := 3) C (show t < 8 by omega) rfl rfl (by decide) kU_X2 kF_X2_21 rfl rfl dX2_ageRoute_11 ?_
  refine hr_iload_n C dX2_ageRoute_14 rfl 1 rfl ?_
  refine hr_iald (k := 12) (i := t) d C (show t < 8 by omega) rfl rfl (show d < 8 by omega) (by decide) dX2_ageRoute_15 ?_
  refine hr_tp (y := S 12 t d) rfl ?_
  refine hr_if_le C 29 dX2_ageRoute_16 (by decide) (fun c16 => ?_) (fun c16 => ?_)
  · skip
    have c16n : ¬ 0 < (S 12 t d) := Int32.not_lt.mpr c16
    refine hr_aload_n C dX2_ageRoute_29 rfl 0 rfl ?_
    refine hr_get (k := 8) (i := t) (fld := 0) C (show t < 8 by omega) rfl rfl (by decide) kU_X2 kF_X2_9 rfl rfl dX2_ageRoute_30 ?_
    refine hr_iload_n C dX2_ageRoute_33 rfl 1 rfl ?_
    refine hr_iald (k := 9) (i := t) d C (show t < 8 by omega) rfl rfl (show d < 8 by omega) (by decide) dX2_ageRoute_34 ?_
    refine hr_tp (y := S 9 t d) rfl ?_
    refine hr_bipush (v := 16) C dX2_ageRoute_35 (by decide) ?_
    refine hr_icmp_ge C 59 dX2_ageRoute_37 (by decide) (fun c37 => ?_) (fun c37 => ?_)
    · skip
      have c37n : ¬ (S 9 t d) < 16 := Int32.not_lt.mpr c37
      refine hr_aload_n C dX2_ageRoute_59 rfl 0 rfl ?_
      refine hr_get (k := 8) (i := t) (fld := 2) C (show t < 8 by omega) rfl rfl (by decide) kU_X2 kF_X2_18 rfl rfl dX2_ageRoute_60 ?_
      refine hr_iload_n C dX2_ageRoute_63 rfl 1 rfl ?_
      refine hr_iald (k := 11) (i := t) d C (show t < 8 by omega) rfl rfl (show d < 8 by omega) (by decide) dX2_ageRoute_64 ?_
      refine hr_tp (y := (S 11 t d) + 1) (by simp [hr_w, hr_wA, upd]) ?_
      refine hr_bipush (v := 50) C dX2_ageRoute_65 (by decide) ?_
      refine hr_icmp_lt C 75 dX2_ageRoute_67 (by decide) (fun c67 => ?_) (fun c67 => ?_)
      · skip
        have c67n : ¬ 50 ≤ ((S 11 t d) + 1) := Int32.not_le.mpr c67
        exact hr_vret C hr dX2_ageRoute_75 (by unfold tb_age tb_age2 tb_age1; repeat (first | rw [if_pos c16] | rw [if_neg c16] | rw [if_neg (not_not_intro c16)] | rw [if_pos c16n] | rw [if_neg c16n] | rw [if_neg (not_not_intro c16n)] | rw [if_pos c37] | rw [if_neg c37] | rw [if_neg (not_not_intro c37)] | rw [if_pos c37n] | rw [if_neg c37n] | rw [if_neg (not_not_intro c37n)] | rw [if_pos c67] | rw [if_neg c67] | rw [if_neg (not_not_intro c67)] | rw [if_pos c67n] | rw [if_neg c67n] | rw [if_neg (not_not_intro c67n)]); try rfl)
      · skip
        have c67n : 50 ≤ ((S 11 t d) + 1) := Int32.not_lt.mp c67
        refine hr_aload_n C dX2_ageRoute_70 rfl 0 rfl ?_
        refine hr_iload_n C dX2_ageRoute_71 rfl 1 rfl ?_
        refine hr_cVv C (ct_X2_forget l E (hr_w S 11 t d ((S 11 t d) + 1)) o t (by omega) d (by omega)) (cwV 1 C.1.2.2.2.2 (hr_gV kM_X2_56 kI_X2_forget kS_X2_forget kN_X2 kC_X2_forget) rfl rfl rfl (by decide +kernel) ⟨Nat.le_of_ble_eq_true rfl, Nat.le_of_ble_eq_true rfl⟩) (show t < 8 by omega) rfl rfl rfl (Nat.le_of_ble_eq_true rfl) dX2_ageRoute_72 ⟨Nat.le_of_ble_eq_true rfl, Nat.le_of_ble_eq_true rfl⟩ (fun S2 h3 => ?_) rfl
        refine hr_st h3 ?_
        exact hr_vret C hr dX2_ageRoute_75 (by unfold tb_age tb_age2 tb_age1; repeat (first | rw [if_pos c16] | rw [if_neg c16] | rw [if_neg (not_not_intro c16)] | rw [if_pos c16n] | rw [if_neg c16n] | rw [if_neg (not_not_intro c16n)] | rw [if_pos c37] | rw [if_neg c37] | rw [if_neg (not_not_intro c37)] | rw [if_pos c37n] | rw [if_neg c37n] | rw [if_neg (not_not_intro c37n)] | rw [if_pos c67] | rw [if_neg c67] | rw [if_neg (not_not_intro c67)] | rw [if_pos c67n] | rw [if_neg c67n] | rw [if_neg (not_not_intro c67n)]); try rfl)
    · skip
      have c37n : (S 9 t d) < 16 := Int32.not_le.mp c37
      refine hr_aload_n C dX2_ageRoute_40 rfl 0 rfl ?_
      refine hr_get (k := 8) (i := t) (fld := 2) C (show t < 8 by omega) rfl rfl (by decide) kU_X2 kF_X2_18 rfl rfl dX2_ageRoute_41 ?_
      refine hr_iload_n C dX2_ageRoute_44 rfl 1 rfl ?_
      refine hr_iald (k := 11) (i := t) d C (show t < 8 by omega) rfl rfl (show d < 8 by omega) (by decide) dX2_ageRoute_45 ?_
      refine hr_tp (y := (S 11 t d) + 1) (by simp [hr_w, hr_wA, upd]) ?_
      refine hr_bipush (v := 60) C dX2_ageRoute_46 (by decide) ?_
      refine hr_icmp_lt C 75 dX2_ageRoute_48 (by decide) (fun c48 => ?_) (fun c48 => ?_)
      · skip
        have c48n : ¬ 60 ≤ ((S 11 t d) + 1) := Int32.not_le.mpr c48
        exact hr_vret C hr dX2_ageRoute_75 (by unfold tb_age tb_age2 tb_age1; repeat (first | rw [if_pos c16] | rw [if_neg c16] | rw [if_neg (not_not_intro c16)] | rw [if_pos c16n] | rw [if_neg c16n] | rw [if_neg (not_not_intro c16n)] | rw [if_pos c37] | rw [if_neg c37] | rw [if_neg (not_not_intro c37)] | rw [if_pos c37n] | rw [if_neg c37n] | rw [if_neg (not_not_intro c37n)] | rw [if_pos c48] | rw [if_neg c48] | rw [if_neg (not_not_intro c48)] | rw [if_pos c48n] | rw [if_neg c48n] | rw [if_neg (not_not_intro c48n)]); try rfl)
      · skip
        have c48n : 60 ≤ ((S 11 t d) + 1) := Int32.not_lt.mp c48
        refine hr_aload_n C dX2_ageRoute_51 rfl 0 rfl ?_
        refine hr_iload_n C dX2_ageRoute_52 rfl 1 rfl ?_
        refine hr_cVv C (ct_X2_becomeGone l E (hr_w S 11 t d ((S 11 t d) + 1)) o t (by omega) d (by omega)) (cwV 1 C.1.2.2.2.2 (hr_gV kM_X2_52 kI_X2_becomeGone kS_X2_becomeGone kN_X2 kC_X2_becomeGone) rfl rfl rfl (by decide +kernel) ⟨Nat.le_of_ble_eq_true rfl, Nat.le_of_ble_eq_true rfl⟩) (show t < 8 by omega) rfl rfl rfl (Nat.le_of_ble_eq_true rfl) dX2_ageRoute_53 ⟨Nat.le_of_ble_eq_true rfl, Nat.le_of_ble_eq_true rfl⟩ (fun S5 h6 => ?_) rfl
        refine hr_st h6 ?_
        refine hr_goto C 75 dX2_ageRoute_56 (by decide) ?_
        exact hr_vret C hr dX2_ageRoute_75 (by unfold tb_age tb_age2 tb_age1; repeat (first | rw [if_pos c16] | rw [if_neg c16] | rw [if_neg (not_not_intro c16)] | rw [if_pos c16n] | rw [if_neg c16n] | rw [if_neg (not_not_intro c16n)] | rw [if_pos c37] | rw [if_neg c37] | rw [if_neg (not_not_intro c37)] | rw [if_pos c37n] | rw [if_neg c37n] | rw [if_neg (not_not_intro c37n)] | rw [if_pos c48] | rw [if_neg c48] | rw [if_neg (not_not_intro c48)] | rw [if_pos c48n] | rw [if_neg c48n] | rw [if_neg (not_not_intro c48n)]); try rfl)
  · skip
    have c16n : 0 < (S 12 t d) := Int32.not_le.mp c16
    refine hr_aload_n C dX2_ageRoute_19 rfl 0 rfl ?_
    refine hr_get (k := 8) (i := t) (fld := 3) C (show t < 8 by omega) rfl rfl (by decide) kU_X2 kF_X2_21 rfl rfl dX2_ageRoute_20 ?_
    refine hr_iload_n C dX2_ageRoute_23 rfl 1 rfl ?_
    refine hr_dup2 C dX2_ageRoute_24 rfl rfl ?_
    refine hr_iald (k := 12) (i := t) d C (show t < 8 by omega) rfl rfl (show d < 8 by omega) (by decide) dX2_ageRoute_25 ?_
    refine hr_tp (y := S 12 t d) rfl ?_
    refine hr_iconst (v := 1) C dX2_ageRoute_26 (by decide) ?_
    refine hr_isub C dX2_ageRoute_27 rfl ?_
    refine hr_iast (k := 12) (i := t) d C (show t < 8 by omega) rfl rfl (show d < 8 by omega) (by decide) (by simp [hr_cell, hr_wA]) rfl dX2_ageRoute_28 ?_
    refine hr_aload_n C dX2_ageRoute_29 rfl 0 rfl ?_
    refine hr_get (k := 8) (i := t) (fld := 0) C (show t < 8 by omega) rfl rfl (by decide) kU_X2 kF_X2_9 rfl rfl dX2_ageRoute_30 ?_
    refine hr_iload_n C dX2_ageRoute_33 rfl 1 rfl ?_
    refine hr_iald (k := 9) (i := t) d C (show t < 8 by omega) rfl rfl (show d < 8 by omega) (by decide) dX2_ageRoute_34 ?_
    refine hr_tp (y := S 9 t d) rfl ?_
    refine hr_bipush (v := 16) C dX2_ageRoute_35 (by decide) ?_
    refine hr_icmp_ge C 59 dX2_ageRoute_37 (by decide) (fun c37 => ?_) (fun c37 => ?_)
    · skip
      have c37n : ¬ (S 9 t d) < 16 := Int32.not_lt.mpr c37
      refine hr_aload_n C dX2_ageRoute_59 rfl 0 rfl ?_
      refine hr_get (k := 8) (i := t) (fld := 2) C (show t < 8 by omega) rfl rfl (by decide) kU_X2 kF_X2_18 rfl rfl dX2_ageRoute_60 ?_
      refine hr_iload_n C dX2_ageRoute_63 rfl 1 rfl ?_
      refine hr_iald (k := 11) (i := t) d C (show t < 8 by omega) rfl rfl (show d < 8 by omega) (by decide) dX2_ageRoute_64 ?_
      refine hr_tp (y := (S 11 t d) + 1) (by simp [hr_w, hr_wA, upd]) ?_
      refine hr_bipush (v := 50) C dX2_ageRoute_65 (by decide) ?_
      refine hr_icmp_lt C 75 dX2_ageRoute_67 (by decide) (fun c67 => ?_) (fun c67 => ?_)
      · skip
        have c67n : ¬ 50 ≤ ((S 11 t d) + 1) := Int32.not_le.mpr c67
        exact hr_vret C hr dX2_ageRoute_75 (by unfold tb_age tb_age2 tb_age1; repeat (first | rw [if_pos c16] | rw [if_neg c16] | rw [if_neg (not_not_intro c16)] | rw [if_pos c16n] | rw [if_neg c16n] | rw [if_neg (not_not_intro c16n)] | rw [if_pos c37] | rw [if_neg c37] | rw [if_neg (not_not_intro c37)] | rw [if_pos c37n] | rw [if_neg c37n] | rw [if_neg (not_not_intro c37n)] | rw [if_pos c67] | rw [if_neg c67] | rw [if_neg (not_not_intro c67)] | rw [if_pos c67n] | rw [if_neg c67n] | rw [if_neg (not_not_intro c67n)]); try rfl)
      · skip
        have c67n : 50 ≤ ((S 11 t d) + 1) := Int32.not_lt.mp c67
        refine hr_aload_n C dX2_ageRoute_70 rfl 0 rfl ?_
        refine hr_iload_n C dX2_ageRoute_71 rfl 1 rfl ?_
        refine hr_cVv C (ct_X2_forget l E (hr_w (hr_w S 11 t d ((S 11 t d) + 1)) 12 t d ((S 12 t d) - 1)) o t (by omega) d (by omega)) (cwV 1 C.1.2.2.2.2 (hr_gV kM_X2_56 kI_X2_forget kS_X2_forget kN_X2 kC_X2_forget) rfl rfl rfl (by decide +kernel) ⟨Nat.le_of_ble_eq_true rfl, Nat.le_of_ble_eq_true rfl⟩) (show t < 8 by omega) rfl rfl rfl (Nat.le_of_ble_eq_true rfl) dX2_ageRoute_72 ⟨Nat.le_of_ble_eq_true rfl, Nat.le_of_ble_eq_true rfl⟩ (fun S8 h9 => ?_) rfl
        refine hr_st h9 ?_
        exact hr_vret C hr dX2_ageRoute_75 (by unfold tb_age tb_age2 tb_age1; repeat (first | rw [if_pos c16] | rw [if_neg c16] | rw [if_neg (not_not_intro c16)] | rw [if_pos c16n] | rw [if_neg c16n] | rw [if_neg (not_not_intro c16n)] | rw [if_pos c37] | rw [if_neg c37] | rw [if_neg (not_not_intro c37)] | rw [if_pos c37n] | rw [if_neg c37n] | rw [if_neg (not_not_intro c37n)] | rw [if_pos c67] | rw [if_neg c67] | rw [if_neg (not_not_intro c67)] | rw [if_pos c67n] | rw [if_neg c67n] | rw [if_neg (not_not_intro c67n)]); try rfl)
    · skip
      have c37n : (S 9 t d) < 16 := Int32.not_le.mp c37
      refine hr_aload_n C dX2_ageRoute_40 rfl 0 rfl ?_
      refine hr_get (k := 8) (i := t) (fld := 2) C (show t < 8 by omega) rfl rfl (by decide) kU_X2 kF_X2_18 rfl rfl dX2_ageRoute_41 ?_
      refine hr_iload_n C dX2_ageRoute_44 rfl 1 rfl ?_
      refine hr_iald (k := 11) (i := t) d C (show t < 8 by omega) rfl rfl (show d < 8 by omega) (by decide) dX2_ageRoute_45 ?_
      refine hr_tp (y := (S 11 t d) + 1) (by simp [hr_w, hr_wA, upd]) ?_
      refine hr_bipush (v := 60) C dX2_ageRoute_46 (by decide) ?_
      refine hr_icmp_lt C 75 dX2_ageRoute_48 (by decide) (fun c48 => ?_) (fun c48 => ?_)
      · skip
        have c48n : ¬ 60 ≤ ((S 11 t d) + 1) := Int32.not_le.mpr c48
        exact hr_vret C hr dX2_ageRoute_75 (by unfold tb_age tb_age2 tb_age1; repeat (first | rw [if_pos c16] | rw [if_neg c16] | rw [if_neg (not_not_intro c16)] | rw [if_pos c16n] | rw [if_neg c16n] | rw [if_neg (not_not_intro c16n)] | rw [if_pos c37] | rw [if_neg c37] | rw [if_neg (not_not_intro c37)] | rw [if_pos c37n] | rw [if_neg c37n] | rw [if_neg (not_not_intro c37n)] | rw [if_pos c48] | rw [if_neg c48] | rw [if_neg (not_not_intro c48)] | rw [if_pos c48n] | rw [if_neg c48n] | rw [if_neg (not_not_intro c48n)]); try rfl)
      · skip
        have c48n : 60 ≤ ((S 11 t d) + 1) := Int32.not_lt.mp c48
        refine hr_aload_n C dX2_ageRoute_51 rfl 0 rfl ?_
        refine hr_iload_n C dX2_ageRoute_52 rfl 1 rfl ?_
        refine hr_cVv C (ct_X2_becomeGone l E (hr_w (hr_w S 11 t d ((S 11 t d) + 1)) 12 t d ((S 12 t d) - 1)) o t (by omega) d (by omega)) (cwV 1 C.1.2.2.2.2 (hr_gV kM_X2_52 kI_X2_becomeGone kS_X2_becomeGone kN_X2 kC_X2_becomeGone) rfl rfl rfl (by decide +kernel) ⟨Nat.le_of_ble_eq_true rfl, Nat.le_of_ble_eq_true rfl⟩) (show t < 8 by omega) rfl rfl rfl (Nat.le_of_ble_eq_true rfl) dX2_ageRoute_53 ⟨Nat.le_of_ble_eq_true rfl, Nat.le_of_ble_eq_true rfl⟩ (fun S11 h12 => ?_) rfl
        refine hr_st h12 ?_
        refine hr_goto C 75 dX2_ageRoute_56 (by decide) ?_
        exact hr_vret C hr dX2_ageRoute_75 (by unfold tb_age tb_age2 tb_age1; repeat (first | rw [if_pos c16] | rw [if_neg c16] | rw [if_neg (not_not_intro c16)] | rw [if_pos c16n] | rw [if_neg c16n] | rw [if_neg (not_not_intro c16n)] | rw [if_pos c37] | rw [if_neg c37] | rw [if_neg (not_not_intro c37)] | rw [if_pos c37n] | rw [if_neg c37n] | rw [if_neg (not_not_intro c37n)] | rw [if_pos c48] | rw [if_neg c48] | rw [if_neg (not_not_intro c48)] | rw [if_pos c48n] | rw [if_neg c48n] | rw [if_neg (not_not_intro c48n)]); try rfl)
set_option maxHeartbeats 4000000 in
set_option maxRecDepth 100000 in
theorem ct_X2_forgetAll (l : Launch) (E : hr_E) (S : hr_S) (o : Int64) (t : Nat) (ht : t < 8) : hr_Mv l E yX2_forgetAll (Cond.code yX2_forgetAll cX2_forgetAll 2 none :: hr_W) ({ frames := 1, cells := 0, slots := 0, locals := 21 } : Room) [.ref (hr_ad E 8 t)] S o (fun u => u = tb_fall S t 8) := by
  refine hr_of (by decide) (Nat.le_of_ble_eq_true rfl) (fun p e s m below meth c C hr => ?_)
  refine hr_iconst (v := 0) C dX2_forgetAll_0 (by decide) ?_
  refine hr_istore_n C [(1, .int 0), (0, .ref (hr_ad E 8 t))] dX2_forgetAll_1 rfl (by decide) rfl ?_
  have LP2 : ∀ (n d : Nat) , d ≤ 8 → 8 + 1 ≤ d + n → hr_G p l e ({ frames := 1, cells := 0, slots := 0, locals := 21 } : Room) s m #[.ref (hr_ad E 8 t)] below meth c (MQ below (va_Qv (fun u => u = tb_fall S t 8) (fun u t => hr_P E u o t.heap) (hr_A E)) #[.ref (hr_ad E 8 t)] s 0 0 (hr_A E)) E 2 0 0 (tb_fall S t d) o [(0, .ref (hr_ad E 8 t)), (1, .int (nI d))] 2 [] := by
    intro n
    induction n with
    | zero => intro d  h1 h2; omega
    | succ n ih =>
      intro d  hv1 hv2
      refine hr_iload_n C dX2_forgetAll_2 rfl 1 rfl ?_
      refine hr_bipush (v := 8) C dX2_forgetAll_3 (by decide) ?_
      refine hr_icmp_ge C 19 dX2_forgetAll_5 (by decide) (fun c5 => ?_) (fun c5 => ?_)
      · skip
        have c5 : 8 ≤ d := (nI_leI (a := 8) (b := d) (by omega) (by omega)).mp c5
        have c5n : ¬ d < 8 := Nat.not_lt.mpr c5
        exact hr_vret C hr dX2_forgetAll_19 (by rw [show d = 8 by omega])
      · skip
        have c5 : ¬ 8 ≤ d := fun h => c5 ((nI_leI (a := 8) (b := d) (by omega) (by omega)).mpr h)
        have c5n : d < 8 := Nat.not_le.mp c5
        refine hr_aload_n C dX2_forgetAll_8 rfl 0 rfl ?_
        refine hr_iload_n C dX2_forgetAll_9 rfl 1 rfl ?_
        refine hr_cVv C (ct_X2_forget l E (tb_fall S t d) o t (by omega) d (by omega)) (cwV 1 C.1.2.2.2.2 (hr_gV kM_X2_56 kI_X2_forget kS_X2_forget kN_X2 kC_X2_forget) rfl rfl rfl (by decide +kernel) ⟨Nat.le_of_ble_eq_true rfl, Nat.le_of_ble_eq_true rfl⟩) (show t < 8 by omega) rfl rfl rfl (Nat.le_of_ble_eq_true rfl) dX2_forgetAll_10 ⟨Nat.le_of_ble_eq_true rfl, Nat.le_of_ble_eq_true rfl⟩ (fun S2 h3 => ?_) rfl
        refine hr_st h3 ?_
        refine hr_iinc (v := nI (d + 1)) C [(1, .int (nI (d + 1))), (0, .ref (hr_ad E 8 t))] dX2_forgetAll_13 1 rfl (nI_add d 1) (by decide) rfl ?_
        refine hr_goto C 2 dX2_forgetAll_16 (by decide) ?_
        refine hr_sub [1, 0] rfl ?_
        refine hr_st (S1 := tb_fall S t (d + 1)) rfl ?_
        exact ih (d + 1)  (by omega) (by omega)
  refine hr_sub [1, 0] rfl ?_
  refine hr_st (S1 := tb_fall S t 0) rfl ?_
  exact LP2 (8 + 1) 0  (by omega) (by omega)
set_option maxHeartbeats 4000000 in
set_option maxRecDepth 100000 in
theorem ct_X2_clearChanges (l : Launch) (E : hr_E) (S : hr_S) (o : Int64) (t : Nat) (ht : t < 8) : hr_Mv l E yX2_clearChanges (Cond.code yX2_clearChanges cX2_clearChanges 2 none :: hr_W) ({ frames := 0, cells := 0, slots := 0, locals := 0 } : Room) [.ref (hr_ad E 8 t)] S o (fun u => u = tb_clr S t 8) := by
  refine hr_of (by decide) (Nat.le_of_ble_eq_true rfl) (fun p e s m below meth c C hr => ?_)
  refine hr_iconst (v := 0) C dX2_clearChanges_0 (by decide) ?_
  refine hr_istore_n C [(1, .int 0), (0, .ref (hr_ad E 8 t))] dX2_clearChanges_1 rfl (by decide) rfl ?_
  have LP2 : ∀ (n d : Nat) , d ≤ 8 → 8 + 1 ≤ d + n → hr_G p l e ({ frames := 0, cells := 0, slots := 0, locals := 0 } : Room) s m #[.ref (hr_ad E 8 t)] below meth c (MQ below (va_Qv (fun u => u = tb_clr S t 8) (fun u t => hr_P E u o t.heap) (hr_A E)) #[.ref (hr_ad E 8 t)] s 0 0 (hr_A E)) E 2 0 0 (tb_clr S t d) o [(0, .ref (hr_ad E 8 t)), (1, .int (nI d))] 2 [] := by
    intro n
    induction n with
    | zero => intro d  h1 h2; omega
    | succ n ih =>
      intro d  hv1 hv2
      refine hr_iload_n C dX2_clearChanges_2 rfl 1 rfl ?_
      refine hr_bipush (v := 8) C dX2_clearChanges_3 (by decide) ?_
      refine hr_icmp_ge C 21 dX2_clearChanges_5 (by decide) (fun c5 => ?_) (fun c5 => ?_)
      · skip
        have c5 : 8 ≤ d := (nI_leI (a := 8) (b := d) (by omega) (by omega)).mp c5
        have c5n : ¬ d < 8 := Nat.not_lt.mpr c5
        exact hr_vret C hr dX2_clearChanges_21 (by rw [show d = 8 by omega])
      · skip
        have c5 : ¬ 8 ≤ d := fun h => c5 ((nI_leI (a := 8) (b := d) (by omega) (by omega)).mpr h)
        have c5n : d < 8 := Nat.not_le.mp c5
        refine hr_aload_n C dX2_clearChanges_8 rfl 0 rfl ?_
        refine hr_get (k := 8) (i := t) (fld := 4) C (show t < 8 by omega) rfl rfl (by decide) kU_X2 kF_X2_24 rfl rfl dX2_clearChanges_9 ?_
        refine hr_iload_n C dX2_clearChanges_12 rfl 1 rfl ?_
        refine hr_iconst (v := 0) C dX2_clearChanges_13 (by decide) ?_
        refine hr_zast (k := 13) (i := t) d C (show t < 8 by omega) rfl rfl (show d < 8 by omega) (by decide) (by simp [hr_cell, hr_wA]) rfl dX2_clearChanges_14 ?_
        refine hr_iinc (v := nI (d + 1)) C [(1, .int (nI (d + 1))), (0, .ref (hr_ad E 8 t))] dX2_clearChanges_15 1 rfl (nI_add d 1) (by decide) rfl ?_
        refine hr_goto C 2 dX2_clearChanges_18 (by decide) ?_
        refine hr_sub [1, 0] rfl ?_
        refine hr_st (S1 := tb_clr S t (d + 1)) rfl ?_
        exact ih (d + 1)  (by omega) (by omega)
  refine hr_sub [1, 0] rfl ?_
  refine hr_st (S1 := tb_clr S t 0) rfl ?_
  exact LP2 (8 + 1) 0  (by omega) (by omega)
set_option maxHeartbeats 4000000 in
set_option maxRecDepth 100000 in
theorem ct_X2_growOlder (l : Launch) (E : hr_E) (S : hr_S) (o : Int64) (t : Nat) (ht : t < 8) : hr_Mv l E yX2_growOlder (Cond.code yX2_growOlder cX2_growOlder 2 none :: hr_W) ({ frames := 2, cells := 0, slots := 0, locals := 42 } : Room) [.ref (hr_ad E 8 t)] S o (fun u => u = tb_grow S t 8) := by
  refine hr_of (by decide) (Nat.le_of_ble_eq_true rfl) (fun p e s m below meth c C hr => ?_)
  refine hr_iconst (v := 0) C dX2_growOlder_0 (by decide) ?_
  refine hr_istore_n C [(1, .int 0), (0, .ref (hr_ad E 8 t))] dX2_growOlder_1 rfl (by decide) rfl ?_
  have LP2 : ∀ (n d : Nat) , d ≤ 8 → 8 + 1 ≤ d + n → hr_G p l e ({ frames := 2, cells := 0, slots := 0, locals := 42 } : Room) s m #[.ref (hr_ad E 8 t)] below meth c (MQ below (va_Qv (fun u => u = tb_grow S t 8) (fun u t => hr_P E u o t.heap) (hr_A E)) #[.ref (hr_ad E 8 t)] s 0 0 (hr_A E)) E 2 0 0 (tb_grow S t d) o [(0, .ref (hr_ad E 8 t)), (1, .int (nI d))] 2 [] := by
    intro n
    induction n with
    | zero => intro d  h1 h2; omega
    | succ n ih =>
      intro d  hv1 hv2
      refine hr_iload_n C dX2_growOlder_2 rfl 1 rfl ?_
      refine hr_bipush (v := 8) C dX2_growOlder_3 (by decide) ?_
      refine hr_icmp_ge C 27 dX2_growOlder_5 (by decide) (fun c5 => ?_) (fun c5 => ?_)
      · skip
        have c5 : 8 ≤ d := (nI_leI (a := 8) (b := d) (by omega) (by omega)).mp c5
        have c5n : ¬ d < 8 := Nat.not_lt.mpr c5
        exact hr_vret C hr dX2_growOlder_27 (by rw [show d = 8 by omega])
      · skip
        have c5 : ¬ 8 ≤ d := fun h => c5 ((nI_leI (a := 8) (b := d) (by omega) (by omega)).mpr h)
        have c5n : d < 8 := Nat.not_le.mp c5
        refine hr_aload_n C dX2_growOlder_8 rfl 0 rfl ?_
        refine hr_iload_n C dX2_growOlder_9 rfl 1 rfl ?_
        refine hr_cVi C (ct_X2_has l E (tb_grow S t d) o t (by omega) d (by omega)) (cwV 1 C.1.2.2.2.2 (hr_gV kM_X2_34 kI_X2_has kS_X2_has kN_X2 kC_X2_has) rfl rfl rfl (by decide +kernel) ⟨Nat.le_of_ble_eq_true rfl, Nat.le_of_ble_eq_true rfl⟩) (show t < 8 by omega) rfl rfl rfl (Nat.le_of_ble_eq_true rfl) dX2_growOlder_10 ⟨Nat.le_of_ble_eq_true rfl, Nat.le_of_ble_eq_true rfl⟩ (fun r1 S2 h3 => ?_) rfl
        refine hr_tp h3.1 ?_
        refine hr_st h3.2 ?_
        refine hr_if_eq C 21 dX2_growOlder_13 (by decide) (fun c13 => ?_) (fun c13 => ?_)
        · skip
          have c13 : ¬ (¬ (tb_grow S t d) 9 t d = -1) := hr_bz.mp c13
          refine hr_iinc (v := nI (d + 1)) C [(1, .int (nI (d + 1))), (0, .ref (hr_ad E 8 t))] dX2_growOlder_21 1 rfl (nI_add d 1) (by decide) rfl ?_
          refine hr_goto C 2 dX2_growOlder_24 (by decide) ?_
          refine hr_sub [1, 0] rfl ?_
          refine hr_st (S1 := tb_grow S t (d + 1)) (by rw [tb_grow]; simp only [c5, c5n, c13, if_true, if_false, reduceIte, not_true_eq_false, not_false_eq_true]) ?_
          exact ih (d + 1)  (by omega) (by omega)
        · skip
          have c13 : ¬ (tb_grow S t d) 9 t d = -1 := hr_bn.mp c13
          refine hr_aload_n C dX2_growOlder_16 rfl 0 rfl ?_
          refine hr_iload_n C dX2_growOlder_17 rfl 1 rfl ?_
          refine hr_cVv C (ct_X2_ageRoute l E (tb_grow S t d) o t (by omega) d (by omega)) (cwV 1 C.1.2.2.2.2 (hr_gV kM_X2_62 kI_X2_ageRoute kS_X2_ageRoute kN_X2 kC_X2_ageRoute) rfl rfl rfl (by decide +kernel) ⟨Nat.le_of_ble_eq_true rfl, Nat.le_of_ble_eq_true rfl⟩) (show t < 8 by omega) rfl rfl rfl (Nat.le_of_ble_eq_true rfl) dX2_growOlder_18 ⟨Nat.le_of_ble_eq_true rfl, Nat.le_of_ble_eq_true rfl⟩ (fun S5 h6 => ?_) rfl
          refine hr_st h6 ?_
          refine hr_iinc (v := nI (d + 1)) C [(1, .int (nI (d + 1))), (0, .ref (hr_ad E 8 t))] dX2_growOlder_21 1 rfl (nI_add d 1) (by decide) rfl ?_
          refine hr_goto C 2 dX2_growOlder_24 (by decide) ?_
          refine hr_sub [1, 0] rfl ?_
          refine hr_st (S1 := tb_grow S t (d + 1)) (by rw [tb_grow]; simp only [c5, c5n, c13, if_true, if_false, reduceIte, not_true_eq_false, not_false_eq_true]) ?_
          exact ih (d + 1)  (by omega) (by omega)
  refine hr_sub [1, 0] rfl ?_
  refine hr_st (S1 := tb_grow S t 0) rfl ?_
  exact LP2 (8 + 1) 0  (by omega) (by omega)
