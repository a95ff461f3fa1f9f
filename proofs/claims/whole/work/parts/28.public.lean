set_option maxHeartbeats 4000000 in
set_option maxRecDepth 100000 in
theorem ct_X3_link (l : Launch) (htr : l.stackTraces = false) (E : hr_E) (S : hr_S) (o : Int64) (a b up : Int32) (hI : hr_CI S) : hr_Xi l E yX3_link (Cond.code yX3_link cX3_link 4 (some .boolean) :: hr_W) ({ frames := 8, cells := 3, slots := 18, locals := 131 } : Room) [.ref (hr_ad E 0 0), .int a, .int b, .int up] S o (fun r u => (r = (if cl_lv S (un a) (un b) = up then 0 else 1) ∧ u = (if cl_lv S (un a) (un b) = up then S else cl_link S (un a) (un b) up)) ∧ nb a 8 ∧ nb b 8 ∧ ¬ a = b) (fun X => (X = "java/lang/IndexOutOfBoundsException" ∧ ¬ (nb a 8 ∧ nb b 8)) ∨ (X = "java/lang/IllegalArgumentException" ∧ (nb a 8 ∧ nb b 8) ∧ a = b)) 3 18 := by
  refine hr_ofX (by decide) (Nat.le_of_ble_eq_true rfl) (fun p e s m below meth c C hr htab => ?_)
  refine hr_iload_n C dX3_link_0 rfl 1 rfl ?_
  refine hr_iload_n C dX3_link_1 rfl 2 rfl ?_
  refine hr_xSv C htab (ct_X3_checkPair l htr E S o a b) (cwS 2 C.1.2.2.2.2 (hr_gS kM_X3_37 kT_X3_checkPair kN_X3 kC_X3_checkPair) rfl rfl rfl (by decide +kernel) ⟨Nat.le_of_ble_eq_true rfl, Nat.le_of_ble_eq_true rfl⟩) rfl (Nat.le_of_ble_eq_true rfl) dX3_link_2 ⟨Nat.le_of_ble_eq_true rfl, Nat.le_of_ble_eq_true rfl⟩ ⟨Nat.le_of_ble_eq_true rfl, Nat.le_of_ble_eq_true rfl⟩ (fun _ h => h) (fun S2 h3 => ?_) rfl
  obtain ⟨h3, ⟨fA, fB, fN⟩⟩ := h3
  refine hr_st (S1 := S) h3 ?_
  have hA := fA.2
  have hB := fB.2
  refine hr_aload_n C dX3_link_5 rfl 0 rfl ?_
  refine hr_iload_n C dX3_link_6 rfl 1 rfl ?_
  refine hr_tp (y := nI (un a)) fA.1 ?_
  refine hr_iload_n C dX3_link_7 rfl 2 rfl ?_
  refine hr_tp (y := nI (un b)) fB.1 ?_
  refine hr_cVi C (ct_X3_isUp l E S o (un a) (un b) (by omega) (by omega) (hI.2.2.2.2.2 _ (by omega))) (cwV 2 C.1.2.2.2.2 (hr_gV kM_X3_41 kI_X3_isUp kS_X3_isUp kN_X3 kC_X3_isUp) rfl rfl rfl (by decide +kernel) ⟨Nat.le_of_ble_eq_true rfl, Nat.le_of_ble_eq_true rfl⟩) (by decide) rfl rfl rfl (Nat.le_of_ble_eq_true rfl) dX3_link_8 ⟨Nat.le_of_ble_eq_true rfl, Nat.le_of_ble_eq_true rfl⟩ (fun r4 S5 h6 => ?_) rfl
  refine hr_tp h6.1 ?_
  refine hr_st (S1 := S) h6.2 ?_
  refine hr_iload_n C dX3_link_11 rfl 3 rfl ?_
  refine hr_icmp_ne C 17 dX3_link_12 (by decide) (fun c12 => ?_) (fun c12 => ?_)
  · skip
    refine hr_aload_n C dX3_link_17 rfl 0 rfl ?_
    refine hr_get (k := 0) (i := 0) (fld := 0) C (by decide) rfl rfl (by decide) kU_X3 kF_X3_9 rfl rfl dX3_link_18 ?_
    refine hr_iload_n C dX3_link_21 rfl 1 rfl ?_
    refine hr_tp (y := nI (un a)) fA.1 ?_
    refine hr_bipush (v := 8) C dX3_link_22 (by decide) ?_
    refine hr_imul (v := nI ((un a) * 8)) C dX3_link_24 (pk_mul (un a) 8) ?_
    refine hr_iload_n C dX3_link_25 rfl 2 rfl ?_
    refine hr_tp (y := nI (un b)) fB.1 ?_
    refine hr_iadd (v := nI (((un a) * 8) + (un b))) C dX3_link_26 (nI_add ((un a) * 8) (un b)) ?_
    refine hr_iload_n C dX3_link_27 rfl 3 rfl ?_
    refine hr_zast (k := 1) (i := 0) (((un a) * 8) + (un b)) C (by decide) rfl rfl (show ((un a) * 8) + (un b) < 64 by omega) (by decide) (by simp [hr_cell, hr_wA]) rfl dX3_link_28 ?_
    refine hr_aload_n C dX3_link_29 rfl 0 rfl ?_
    refine hr_get (k := 0) (i := 0) (fld := 0) C (by decide) rfl rfl (by decide) kU_X3 kF_X3_9 rfl rfl dX3_link_30 ?_
    refine hr_iload_n C dX3_link_33 rfl 2 rfl ?_
    refine hr_tp (y := nI (un b)) fB.1 ?_
    refine hr_bipush (v := 8) C dX3_link_34 (by decide) ?_
    refine hr_imul (v := nI ((un b) * 8)) C dX3_link_36 (pk_mul (un b) 8) ?_
    refine hr_iload_n C dX3_link_37 rfl 1 rfl ?_
    refine hr_tp (y := nI (un a)) fA.1 ?_
    refine hr_iadd (v := nI (((un b) * 8) + (un a))) C dX3_link_38 (nI_add ((un b) * 8) (un a)) ?_
    refine hr_iload_n C dX3_link_39 rfl 3 rfl ?_
    refine hr_zast (k := 1) (i := 0) (((un b) * 8) + (un a)) C (by decide) rfl rfl (show ((un b) * 8) + (un a) < 64 by omega) (by decide) (by simp [hr_cell, hr_wA]) rfl dX3_link_40 ?_
    refine hr_aload_n C dX3_link_41 rfl 0 rfl ?_
    refine hr_dup C dX3_link_42 rfl ?_
    refine hr_get (k := 0) (i := 0) (fld := 6) C (by decide) rfl rfl (by decide) kU_X3 kF_X3_45 rfl rfl dX3_link_43 ?_
    refine hr_tp (y := S 0 0 6) rfl ?_
    refine hr_iload_n C dX3_link_46 rfl 3 rfl ?_
    refine hr_if_eq C 54 dX3_link_47 (by decide) (fun c47 => ?_) (fun c47 => ?_)
    · skip
      refine hr_iconst (v := (-1)) C dX3_link_54 (by decide) ?_
      refine hr_iadd C dX3_link_55 rfl ?_
      refine hr_put (k := 0) (i := 0) (fld := 6) C (by decide) rfl rfl (by decide) kU_X3 kF_X3_45 rfl tyX3 tyX3_ok nmX3 rfl (by decide +kernel) (Nat.le_of_ble_eq_true rfl) (by simp [hr_cell, hr_w, hr_wA, upd]) rfl dX3_link_56 ?_
      refine hr_iconst (v := 1) C dX3_link_59 (by decide) ?_
      refine hr_xr ?_ (Nat.le_of_ble_eq_true rfl) (Nat.le_of_ble_eq_true rfl)
      exact hr_zret C hr rfl dX3_link_60 ⟨⟨by rw [if_neg (show ¬ cl_lv S (un a) (un b) = up from c12)], by rw [if_neg (show ¬ cl_lv S (un a) (un b) = up from c12)]; unfold cl_link cl_lk0; rw [if_pos c47]; rfl⟩, fA, fB, fN⟩
    · skip
      refine hr_iconst (v := 1) C dX3_link_50 (by decide) ?_
      refine hr_goto C 55 dX3_link_51 (by decide) ?_
      refine hr_iadd C dX3_link_55 rfl ?_
      refine hr_put (k := 0) (i := 0) (fld := 6) C (by decide) rfl rfl (by decide) kU_X3 kF_X3_45 rfl tyX3 tyX3_ok nmX3 rfl (by decide +kernel) (Nat.le_of_ble_eq_true rfl) (by simp [hr_cell, hr_w, hr_wA, upd]) rfl dX3_link_56 ?_
      refine hr_iconst (v := 1) C dX3_link_59 (by decide) ?_
      refine hr_xr ?_ (Nat.le_of_ble_eq_true rfl) (Nat.le_of_ble_eq_true rfl)
      exact hr_zret C hr rfl dX3_link_60 ⟨⟨by rw [if_neg (show ¬ cl_lv S (un a) (un b) = up from c12)], by rw [if_neg (show ¬ cl_lv S (un a) (un b) = up from c12)]; unfold cl_link cl_lk0; rw [if_neg c47]; rfl⟩, fA, fB, fN⟩
  · skip
    refine hr_iconst (v := 0) C dX3_link_15 (by decide) ?_
    refine hr_xr ?_ (Nat.le_of_ble_eq_true rfl) (Nat.le_of_ble_eq_true rfl)
    exact hr_zret C hr rfl dX3_link_16 ⟨⟨by rw [if_pos (show cl_lv S (un a) (un b) = up from c12)], by rw [if_pos (show cl_lv S (un a) (un b) = up from c12)]⟩, fA, fB, fN⟩
set_option maxHeartbeats 4000000 in
set_option maxRecDepth 100000 in
theorem ct_X3_sees (l : Launch) (htr : l.stackTraces = false) (E : hr_E) (S : hr_S) (o : Int64) (a b : Int32) (hI : hr_CI S) : hr_Xi l E yX3_sees (Cond.code yX3_sees cX3_sees 3 (some .int) :: hr_W) ({ frames := 8, cells := 4, slots := 24, locals := 131 } : Room) [.ref (hr_ad E 0 0), .int a, .int b] S o (fun r u => (r = nI (tb_lose S (un a) (nI (un b)) 8).2 ∧ u = (tb_lose S (un a) (nI (un b)) 8).1) ∧ (nb a 8 ∧ nb b 8 ∧ ¬ a = b) ∧ S 1 0 (un a * 8 + un b) = 0) (fun X => ((X = "java/lang/IndexOutOfBoundsException" ∧ ¬ (nb a 8 ∧ nb b 8)) ∨ (X = "java/lang/IllegalArgumentException" ∧ (nb a 8 ∧ nb b 8) ∧ a = b)) ∨ (X = "java/lang/IllegalStateException" ∧ (nb a 8 ∧ nb b 8 ∧ ¬ a = b) ∧ ¬ S 1 0 (un a * 8 + un b) = 0)) 4 24 := by
  refine hr_ofX (by decide) (Nat.le_of_ble_eq_true rfl) (fun p e s m below meth c C hr htab => ?_)
  refine hr_iload_n C dX3_sees_0 rfl 1 rfl ?_
  refine hr_iload_n C dX3_sees_1 rfl 2 rfl ?_
  refine hr_xSv C htab (ct_X3_checkPair l htr E S o a b) (cwS 2 C.1.2.2.2.2 (hr_gS kM_X3_37 kT_X3_checkPair kN_X3 kC_X3_checkPair) rfl rfl rfl (by decide +kernel) ⟨Nat.le_of_ble_eq_true rfl, Nat.le_of_ble_eq_true rfl⟩) rfl (Nat.le_of_ble_eq_true rfl) dX3_sees_2 ⟨Nat.le_of_ble_eq_true rfl, Nat.le_of_ble_eq_true rfl⟩ ⟨Nat.le_of_ble_eq_true rfl, Nat.le_of_ble_eq_true rfl⟩ (fun X h => Or.inl h) (fun S2 h3 => ?_) rfl
  obtain ⟨h3, ⟨fA, fB, fN⟩⟩ := h3
  refine hr_st (S1 := S) h3 ?_
  have hA := fA.2
  have hB := fB.2
  refine hr_aload_n C dX3_sees_5 rfl 0 rfl ?_
  refine hr_iload_n C dX3_sees_6 rfl 1 rfl ?_
  refine hr_tp (y := nI (un a)) fA.1 ?_
  refine hr_iload_n C dX3_sees_7 rfl 2 rfl ?_
  refine hr_tp (y := nI (un b)) fB.1 ?_
  refine hr_cVi C (ct_X3_isUp l E S o (un a) (un b) (by omega) (by omega) (hI.2.2.2.2.2 _ (by omega))) (cwV 2 C.1.2.2.2.2 (hr_gV kM_X3_41 kI_X3_isUp kS_X3_isUp kN_X3 kC_X3_isUp) rfl rfl rfl (by decide +kernel) ⟨Nat.le_of_ble_eq_true rfl, Nat.le_of_ble_eq_true rfl⟩) (by decide) rfl rfl rfl (Nat.le_of_ble_eq_true rfl) dX3_sees_8 ⟨Nat.le_of_ble_eq_true rfl, Nat.le_of_ble_eq_true rfl⟩ (fun r4 S5 h6 => ?_) rfl
  refine hr_tp h6.1 ?_
  refine hr_st (S1 := S) h6.2 ?_
  refine hr_if_eq C 24 dX3_sees_11 (by decide) (fun c11 => ?_) (fun c11 => ?_)
  · skip
    have c11 := hr_bz.mp c11
    have c11 : ¬ (¬ S 1 0 ((un a) * 8 + (un b)) = 0) := c11
    refine hr_aload_n C dX3_sees_24 rfl 0 rfl ?_
    refine hr_get (k := 0) (i := 0) (fld := 1) C (by decide) rfl rfl (by decide) kU_X3 kF_X3_15 rfl rfl dX3_sees_25 ?_
    refine hr_iload_n C dX3_sees_28 rfl 1 rfl ?_
    refine hr_tp (y := nI (un a)) fA.1 ?_
    refine hr_aald (k := 2) (i := 0) (t0 := 4) (k2 := 8) (un a) C (by decide) rfl rfl rfl (show un a < 8 by omega) (by decide) dX3_sees_29 ?_
    refine hr_iload_n C dX3_sees_30 rfl 2 rfl ?_
    refine hr_tp (y := nI (un b)) fB.1 ?_
    refine hr_cVi C (ct_X2_loseNext l E S o (un a) (by omega) (nI (un b))) (cwV 1 C.1.2.2.2.2 (hr_gV kM_X3_56 kI_X2_loseNext kS_X2_loseNext kN_X2 kC_X2_loseNext) rfl rfl rfl (by decide +kernel) ⟨Nat.le_of_ble_eq_true rfl, Nat.le_of_ble_eq_true rfl⟩) (show un a < 8 by omega) rfl rfl rfl (Nat.le_of_ble_eq_true rfl) dX3_sees_31 ⟨Nat.le_of_ble_eq_true rfl, Nat.le_of_ble_eq_true rfl⟩ (fun r7 S8 h9 => ?_) rfl
    refine hr_tp (y := nI (tb_lose S (un a) (nI (un b)) 8).2) h9.1 ?_
    refine hr_st (S1 := ((tb_lose S (un a) (nI (un b)) 8).1)) h9.2 ?_
    refine hr_xr ?_ (Nat.le_of_ble_eq_true rfl) (Nat.le_of_ble_eq_true rfl)
    exact hr_iret C hr dX3_sees_34 ⟨⟨rfl, rfl⟩, ⟨fA, fB, fN⟩, Decidable.not_not.mp c11⟩
  · skip
    have c11 := hr_bn.mp c11
    have c11 : ¬ S 1 0 ((un a) * 8 + (un b)) = 0 := c11
    exact hr_throw (text := "the link is up") C htr htab (by decide) (Or.inr ⟨rfl, ⟨fA, fB, fN⟩, c11⟩) kL_X3_49 kN_IllegalStateException (by decide) (hr_at_53 C) hr_good_53 dX3_sees_14 dX3_sees_17 dX3_sees_18 dX3_sees_20 dX3_sees_23 (Nat.le_of_ble_eq_true rfl) (Nat.le_of_ble_eq_true rfl) (Nat.le_of_ble_eq_true rfl) (Nat.le_of_ble_eq_true rfl) (Nat.le_of_ble_eq_true rfl) (Nat.le_of_ble_eq_true rfl) rfl
set_option maxHeartbeats 4000000 in
set_option maxRecDepth 100000 in
theorem ct_X3_restart (l : Launch) (htr : l.stackTraces = false) (E : hr_E) (S : hr_S) (o : Int64) (a : Int32) (hI : hr_CI S) : hr_Xi l E yX3_restart (Cond.code yX3_restart cX3_restart 3 (some .int) :: hr_W) ({ frames := 7, cells := 1, slots := 6, locals := 110 } : Room) [.ref (hr_ad E 0 0), .int a] S o (fun r u => (r = (cl_rsL (tb_fall S (un a) 8) (un a) 8) 3 0 2 ∧ u = (cl_rsL (tb_fall S (un a) 8) (un a) 8)) ∧ nb a 8) (fun X => X = "java/lang/IndexOutOfBoundsException" ∧ ¬ nb a 8) 1 6 := by
  refine hr_ofX (by decide) (Nat.le_of_ble_eq_true rfl) (fun p e s m below meth c C hr htab => ?_)
  refine hr_iload_n C dX3_restart_0 rfl 1 rfl ?_
  refine hr_xSv C htab (ct_X3_checkRouter l htr E S o a) (cwS 1 C.1.2.2.2.2 (hr_gS kM_X3_60 kT_X3_checkRouter kN_X3 kC_X3_checkRouter) rfl rfl rfl (by decide +kernel) ⟨Nat.le_of_ble_eq_true rfl, Nat.le_of_ble_eq_true rfl⟩) rfl (Nat.le_of_ble_eq_true rfl) dX3_restart_1 ⟨Nat.le_of_ble_eq_true rfl, Nat.le_of_ble_eq_true rfl⟩ ⟨Nat.le_of_ble_eq_true rfl, Nat.le_of_ble_eq_true rfl⟩ (fun _ h => h) (fun S2 h3 => ?_) rfl
  obtain ⟨h3, fA⟩ := h3
  refine hr_st (S1 := S) h3 ?_
  have hA := fA.2
  refine hr_aload_n C dX3_restart_4 rfl 0 rfl ?_
  refine hr_get (k := 0) (i := 0) (fld := 1) C (by decide) rfl rfl (by decide) kU_X3 kF_X3_15 rfl rfl dX3_restart_5 ?_
  refine hr_iload_n C dX3_restart_8 rfl 1 rfl ?_
  refine hr_tp (y := nI (un a)) fA.1 ?_
  refine hr_aald (k := 2) (i := 0) (t0 := 4) (k2 := 8) (un a) C (by decide) rfl rfl rfl (show un a < 8 by omega) (by decide) dX3_restart_9 ?_
  refine hr_cVv C (ct_X2_forgetAll l E S o (un a) (by omega)) (cwV 0 C.1.2.2.2.2 (hr_gV kM_X3_64 kI_X2_forgetAll kS_X2_forgetAll kN_X2 kC_X2_forgetAll) rfl rfl rfl (by decide +kernel) ⟨Nat.le_of_ble_eq_true rfl, Nat.le_of_ble_eq_true rfl⟩) (show un a < 8 by omega) rfl rfl rfl (Nat.le_of_ble_eq_true rfl) dX3_restart_10 ⟨Nat.le_of_ble_eq_true rfl, Nat.le_of_ble_eq_true rfl⟩ (fun S5 h6 => ?_) rfl
  refine hr_st (S1 := (tb_fall S (un a) 8)) h6 ?_
  refine hr_iconst (v := 0) C dX3_restart_13 (by decide) ?_
  refine hr_istore_n C [(2, .int 0), (0, .ref (hr_ad E 0 0)), (1, .int a)] dX3_restart_14 rfl (by decide) rfl ?_
  have LP15 : ∀ (n x9 : Nat) , x9 ≤ 8 → 8 + 1 ≤ x9 + n → hr_G p l e ({ frames := 7, cells := 1, slots := 6, locals := 110 } : Room) s m #[.ref (hr_ad E 0 0), .int a] below meth c (vx_MQ below (va_Qi (fun r u => (r = (cl_rsL (tb_fall S (un a) 8) (un a) 8) 3 0 2 ∧ u = (cl_rsL (tb_fall S (un a) 8) (un a) 8)) ∧ nb a 8) (fun u t => hr_P E u o t.heap) (hr_A E)) (vx_X (fun _ : Unit => True) (fun X _ t => (fun X => X = "java/lang/IndexOutOfBoundsException" ∧ ¬ nb a 8) X ∧ hr_P E S o t.heap) (hr_A E)) #[.ref (hr_ad E 0 0), .int a] s 1 6 (hr_A E)) E 3 1 6 (cl_rsL (tb_fall S (un a) 8) (un a) x9) o [(0, .ref (hr_ad E 0 0)), (1, .int a), (2, .int (nI x9))] 15 [] := by
    intro n
    induction n with
    | zero => intro x9  h1 h2; omega
    | succ n ih =>
      intro x9  hv1 hv2
      refine hr_iload_n C dX3_restart_15 rfl 2 rfl ?_
      refine hr_bipush (v := 8) C dX3_restart_16 (by decide) ?_
      refine hr_icmp_ge C 69 dX3_restart_18 (by decide) (fun c18 => ?_) (fun c18 => ?_)
      · skip
        have c18 : 8 ≤ x9 := (nI_leI (a := 8) (b := x9) (by omega) (by omega)).mp c18
        have c18n : ¬ x9 < 8 := Nat.not_lt.mpr c18
        refine hr_aload_n C dX3_restart_69 rfl 0 rfl ?_
        refine hr_get (k := 0) (i := 0) (fld := 2) C (by decide) rfl rfl (by decide) kU_X3 kF_X3_22 rfl rfl dX3_restart_70 ?_
        refine hr_get (k := 3) (i := 0) (fld := 2) C (by decide) rfl rfl (by decide) kU_X0 kF_X3_79 rfl rfl dX3_restart_73 ?_
        refine hr_xr ?_ (Nat.le_of_ble_eq_true rfl) (Nat.le_of_ble_eq_true rfl)
        exact hr_iret C hr dX3_restart_76 ⟨⟨by rw [show x9 = 8 by omega], by rw [show x9 = 8 by omega]⟩, fA⟩
      · skip
        have c18 : ¬ 8 ≤ x9 := fun h => c18 ((nI_leI (a := 8) (b := x9) (by omega) (by omega)).mpr h)
        have c18n : x9 < 8 := Nat.not_le.mp c18
        refine hr_aload_n C dX3_restart_21 rfl 0 rfl ?_
        refine hr_iload_n C dX3_restart_22 rfl 1 rfl ?_
        refine hr_tp (y := nI (un a)) fA.1 ?_
        refine hr_iload_n C dX3_restart_23 rfl 2 rfl ?_
        refine hr_cVi C (ct_X3_isUp l E (cl_rsL (tb_fall S (un a) 8) (un a) x9) o (un a) x9 (by omega) (by omega) ((CI_rsL (CI_fall hI 8) hA x9 (by omega)).2.2.2.2.2 _ (by omega))) (cwV 2 C.1.2.2.2.2 (hr_gV kM_X3_41 kI_X3_isUp kS_X3_isUp kN_X3 kC_X3_isUp) rfl rfl rfl (by decide +kernel) ⟨Nat.le_of_ble_eq_true rfl, Nat.le_of_ble_eq_true rfl⟩) (by decide) rfl rfl rfl (Nat.le_of_ble_eq_true rfl) dX3_restart_24 ⟨Nat.le_of_ble_eq_true rfl, Nat.le_of_ble_eq_true rfl⟩ (fun r7 S8 h9 => ?_) rfl
        refine hr_tp h9.1 ?_
        refine hr_st (S1 := (cl_rsL (tb_fall S (un a) 8) (un a) x9)) h9.2 ?_
        refine hr_if_eq C 63 dX3_restart_27 (by decide) (fun c27 => ?_) (fun c27 => ?_)
        · skip
          have c27 := hr_bz.mp c27
          have c27 : ¬ (¬ (cl_rsL (tb_fall S (un a) 8) (un a) x9) 1 0 ((un a) * 8 + x9) = 0) := c27
          refine hr_iinc (v := nI (x9 + 1)) C [(2, .int (nI (x9 + 1))), (0, .ref (hr_ad E 0 0)), (1, .int a)] dX3_restart_63 2 rfl (nI_add x9 1) (by decide) rfl ?_
          refine hr_goto C 15 dX3_restart_66 (by decide) ?_
          refine hr_sub [1, 2, 0] rfl ?_
          refine hr_st (S1 := cl_rsL (tb_fall S (un a) 8) (un a) (x9 + 1)) (by rw [cl_rsL, if_neg c27]) ?_
          exact ih (x9 + 1)  (by omega) (by omega)
        · skip
          have c27 := hr_bn.mp c27
          have c27 : ¬ (cl_rsL (tb_fall S (un a) 8) (un a) x9) 1 0 ((un a) * 8 + x9) = 0 := c27
          refine hr_aload_n C dX3_restart_30 rfl 0 rfl ?_
          refine hr_get (k := 0) (i := 0) (fld := 3) C (by decide) rfl rfl (by decide) kU_X3 kF_X3_29 rfl rfl dX3_restart_31 ?_
          refine hr_iload_n C dX3_restart_34 rfl 1 rfl ?_
          refine hr_tp (y := nI (un a)) fA.1 ?_
          refine hr_iload_n C dX3_restart_35 rfl 2 rfl ?_
          refine hr_ldc (v := 16908288) C dX3_restart_36 kK_X3_67 ?_
          refine hr_cVv C (ct_X1_begin l E (cl_rsL (tb_fall S (un a) 8) (un a) x9) o 200 (by omega) (nI (un a)) (nI x9) 16908288) (cwV 3 C.1.2.2.2.2 (hr_gV kM_X3_68 kI_X1_begin kS_X1_begin kN_X1 kC_X1_begin) rfl rfl rfl (by decide +kernel) ⟨Nat.le_of_ble_eq_true rfl, Nat.le_of_ble_eq_true rfl⟩) (by decide) rfl rfl rfl (Nat.le_of_ble_eq_true rfl) dX3_restart_38 ⟨Nat.le_of_ble_eq_true rfl, Nat.le_of_ble_eq_true rfl⟩ (fun S11 h12 => ?_) rfl
          refine hr_st (S1 := (pk_begin (cl_rsL (tb_fall S (un a) 8) (un a) x9) 200 (nI (un a)) (nI x9) 16908288)) h12 ?_
          refine hr_aload_n C dX3_restart_41 rfl 0 rfl ?_
          refine hr_get (k := 0) (i := 0) (fld := 3) C (by decide) rfl rfl (by decide) kU_X3 kF_X3_29 rfl rfl dX3_restart_42 ?_
          refine hr_iconst (v := 0) C dX3_restart_45 (by decide) ?_
          refine hr_iconst (v := 0) C dX3_restart_46 (by decide) ?_
          refine hr_bipush (v := 16) C dX3_restart_47 (by decide) ?_
          refine hr_cVv C (ct_X1_addEntry l E (pk_begin (cl_rsL (tb_fall S (un a) 8) (un a) x9) 200 (nI (un a)) (nI x9) 16908288) o 200 (by omega) (((CI_begin (CI_rsL (CI_fall hI 8) hA x9 (by omega)) (nb_nI hA (by decide)) (nb_nI (show x9 < 8 by omega) (by decide))).2.2.2.1 200 (by decide)).2.2) (by rw [len_begin]; omega) 0 0 16) (cwV 3 C.1.2.2.2.2 (hr_gV kM_X3_72 kI_X1_addEntry kS_X1_addEntry kN_X1 kC_X1_addEntry) rfl rfl rfl (by decide +kernel) ⟨Nat.le_of_ble_eq_true rfl, Nat.le_of_ble_eq_true rfl⟩) (by decide) rfl rfl rfl (Nat.le_of_ble_eq_true rfl) dX3_restart_49 ⟨Nat.le_of_ble_eq_true rfl, Nat.le_of_ble_eq_true rfl⟩ (fun S14 h15 => ?_) rfl
          refine hr_st (S1 := (pk_addE (pk_begin (cl_rsL (tb_fall S (un a) 8) (un a) x9) 200 (nI (un a)) (nI x9) 16908288) 200 0 0 16)) h15 ?_
          refine hr_aload_n C dX3_restart_52 rfl 0 rfl ?_
          refine hr_get (k := 0) (i := 0) (fld := 2) C (by decide) rfl rfl (by decide) kU_X3 kF_X3_22 rfl rfl dX3_restart_53 ?_
          refine hr_aload_n C dX3_restart_56 rfl 0 rfl ?_
          refine hr_get (k := 0) (i := 0) (fld := 3) C (by decide) rfl rfl (by decide) kU_X3 kF_X3_29 rfl rfl dX3_restart_57 ?_
          refine hr_cVv C (ct_X0_launch l E (pk_addE (pk_begin (cl_rsL (tb_fall S (un a) 8) (un a) x9) 200 (nI (un a)) (nI x9) 16908288) 200 0 0 16) o 200 (by omega) (CI_addE (CI_begin (CI_rsL (CI_fall hI 8) hA x9 (by omega)) (nb_nI hA (by decide)) (nb_nI (show x9 < 8 by omega) (by decide)))) (ai_ne (CI_addE (CI_begin (CI_rsL (CI_fall hI 8) hA x9 (by omega)) (nb_nI hA (by decide)) (nb_nI (show x9 < 8 by omega) (by decide)))) (by omega))) (cwV 1 C.1.2.2.2.2 (hr_gV kM_X3_75 kI_X0_launch kS_X0_launch kN_X0 kC_X0_launch) rfl rfl rfl (by decide +kernel) ⟨Nat.le_of_ble_eq_true rfl, Nat.le_of_ble_eq_true rfl⟩) (by decide) rfl rfl rfl (Nat.le_of_ble_eq_true rfl) dX3_restart_60 ⟨Nat.le_of_ble_eq_true rfl, Nat.le_of_ble_eq_true rfl⟩ (fun S17 h18 => ?_) rfl
          refine hr_st (S1 := (ai_launch (pk_addE (pk_begin (cl_rsL (tb_fall S (un a) 8) (un a) x9) 200 (nI (un a)) (nI x9) 16908288) 200 0 0 16) 200)) h18 ?_
          refine hr_iinc (v := nI (x9 + 1)) C [(2, .int (nI (x9 + 1))), (0, .ref (hr_ad E 0 0)), (1, .int a)] dX3_restart_63 2 rfl (nI_add x9 1) (by decide) rfl ?_
          refine hr_goto C 15 dX3_restart_66 (by decide) ?_
          refine hr_sub [1, 2, 0] rfl ?_
          refine hr_st (S1 := cl_rsL (tb_fall S (un a) 8) (un a) (x9 + 1)) (by rw [cl_rsL, if_pos c27]; rfl) ?_
          exact ih (x9 + 1)  (by omega) (by omega)
  refine hr_sub [1, 2, 0] rfl ?_
  refine hr_st (S1 := cl_rsL (tb_fall S (un a) 8) (un a) 0) rfl ?_
  exact LP15 (8 + 1) 0  (by omega) (by omega)
