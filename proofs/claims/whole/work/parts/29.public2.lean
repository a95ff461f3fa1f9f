set_option maxHeartbeats 4000000 in
set_option maxRecDepth 100000 in
theorem ct_X3_ask (l : Launch) (htr : l.stackTraces = false) (E : hr_E) (S : hr_S) (o : Int64) (a b ds : Int32) (hI : hr_CI S) : hr_Xi l E yX3_ask (Cond.code yX3_ask cX3_ask 5 (some .int) :: hr_W) ({ frames := 8, cells := 4, slots := 24, locals := 131 } : Room) [.ref (hr_ad E 0 0), .int a, .int b, .int ds] S o (fun r u => (r = (ai_launch (cl_askL S (un a) (un b) ds 8) 200) 3 0 2 ∧ u = (ai_launch (cl_askL S (un a) (un b) ds 8) 200)) ∧ (nb a 8 ∧ nb b 8 ∧ ¬ a = b) ∧ (¬ ds < 1 ∧ ds ≤ 255) ∧ ¬ S 1 0 (un a * 8 + un b) = 0) (fun X => ((X = "java/lang/IndexOutOfBoundsException" ∧ ¬ (nb a 8 ∧ nb b 8)) ∨ (X = "java/lang/IllegalArgumentException" ∧ (nb a 8 ∧ nb b 8) ∧ a = b)) ∨ (X = "java/lang/IllegalArgumentException" ∧ (nb a 8 ∧ nb b 8 ∧ ¬ a = b) ∧ ¬ (¬ ds < 1 ∧ ds ≤ 255)) ∨ (X = "java/lang/IllegalStateException" ∧ (nb a 8 ∧ nb b 8 ∧ ¬ a = b) ∧ (¬ ds < 1 ∧ ds ≤ 255) ∧ S 1 0 (un a * 8 + un b) = 0)) 4 24 := by
  refine hr_ofX (by decide) (Nat.le_of_ble_eq_true rfl) (fun p e s m below meth c C hr htab => ?_)
  refine hr_iload_n C dX3_ask_0 rfl 1 rfl ?_
  refine hr_iload_n C dX3_ask_1 rfl 2 rfl ?_
  refine hr_xSv C htab (ct_X3_checkPair l htr E S o a b) (cwS 2 C.1.2.2.2.2 (hr_gS kM_X3_37 kT_X3_checkPair kN_X3 kC_X3_checkPair) rfl rfl rfl (by decide +kernel) ⟨Nat.le_of_ble_eq_true rfl, Nat.le_of_ble_eq_true rfl⟩) rfl (Nat.le_of_ble_eq_true rfl) dX3_ask_2 ⟨Nat.le_of_ble_eq_true rfl, Nat.le_of_ble_eq_true rfl⟩ ⟨Nat.le_of_ble_eq_true rfl, Nat.le_of_ble_eq_true rfl⟩ (fun X h => Or.inl h) (fun S2 h3 => ?_) rfl
  obtain ⟨h3, ⟨fA, fB, fN⟩⟩ := h3
  refine hr_st (S1 := S) h3 ?_
  have hA := fA.2
  have hB := fB.2
  refine hr_iload_n C dX3_ask_5 rfl 3 rfl ?_
  refine hr_iconst (v := 1) C dX3_ask_6 (by decide) ?_
  refine hr_icmp_lt C 17 dX3_ask_7 (by decide) (fun c7 => ?_) (fun c7 => ?_)
  · skip
    have c7n : ¬ 1 ≤ ds := Int32.not_le.mpr c7
    exact hr_throw (text := "destinations are not 1 .. 255") C htr htab (by decide) (Or.inr (Or.inl ⟨rfl, ⟨fA, fB, fN⟩, fun h => h.1 c7⟩)) kL_X3_82 kN_IllegalArgumentException (by decide) (hr_at_86 C) hr_good_86 dX3_ask_17 dX3_ask_20 dX3_ask_21 dX3_ask_23 dX3_ask_26 (Nat.le_of_ble_eq_true rfl) (Nat.le_of_ble_eq_true rfl) (Nat.le_of_ble_eq_true rfl) (Nat.le_of_ble_eq_true rfl) (Nat.le_of_ble_eq_true rfl) (Nat.le_of_ble_eq_true rfl) rfl
  · skip
    have c7n : 1 ≤ ds := Int32.not_lt.mp c7
    refine hr_iload_n C dX3_ask_10 rfl 3 rfl ?_
    refine hr_sipush (v := 255) C dX3_ask_11 (by decide) ?_
    refine hr_icmp_le C 27 dX3_ask_14 (by decide) (fun c14 => ?_) (fun c14 => ?_)
    · skip
      have c14n : ¬ 255 < ds := Int32.not_lt.mpr c14
      refine hr_aload_n C dX3_ask_27 rfl 0 rfl ?_
      refine hr_iload_n C dX3_ask_28 rfl 1 rfl ?_
      refine hr_tp (y := nI (un a)) fA.1 ?_
      refine hr_iload_n C dX3_ask_29 rfl 2 rfl ?_
      refine hr_tp (y := nI (un b)) fB.1 ?_
      refine hr_cVi C (ct_X3_isUp l E S o (un a) (un b) (by omega) (by omega) (hI.2.2.2.2.2 _ (by omega))) (cwV 2 C.1.2.2.2.2 (hr_gV kM_X3_41 kI_X3_isUp kS_X3_isUp kN_X3 kC_X3_isUp) rfl rfl rfl (by decide +kernel) ⟨Nat.le_of_ble_eq_true rfl, Nat.le_of_ble_eq_true rfl⟩) (by decide) rfl rfl rfl (Nat.le_of_ble_eq_true rfl) dX3_ask_30 ⟨Nat.le_of_ble_eq_true rfl, Nat.le_of_ble_eq_true rfl⟩ (fun r4 S5 h6 => ?_) rfl
      refine hr_tp h6.1 ?_
      refine hr_st (S1 := S) h6.2 ?_
      refine hr_if_ne C 46 dX3_ask_33 (by decide) (fun c33 => ?_) (fun c33 => ?_)
      · skip
        have c33 := hr_bn.mp c33
        have c33 : ¬ S 1 0 ((un a) * 8 + (un b)) = 0 := c33
        refine hr_aload_n C dX3_ask_46 rfl 0 rfl ?_
        refine hr_get (k := 0) (i := 0) (fld := 3) C (by decide) rfl rfl (by decide) kU_X3 kF_X3_29 rfl rfl dX3_ask_47 ?_
        refine hr_iload_n C dX3_ask_50 rfl 1 rfl ?_
        refine hr_tp (y := nI (un a)) fA.1 ?_
        refine hr_iload_n C dX3_ask_51 rfl 2 rfl ?_
        refine hr_tp (y := nI (un b)) fB.1 ?_
        refine hr_ldc (v := 16908288) C dX3_ask_52 kK_X3_67 ?_
        refine hr_cVv C (ct_X1_begin l E S o 200 (by omega) (nI (un a)) (nI (un b)) 16908288) (cwV 3 C.1.2.2.2.2 (hr_gV kM_X3_68 kI_X1_begin kS_X1_begin kN_X1 kC_X1_begin) rfl rfl rfl (by decide +kernel) ⟨Nat.le_of_ble_eq_true rfl, Nat.le_of_ble_eq_true rfl⟩) (by decide) rfl rfl rfl (Nat.le_of_ble_eq_true rfl) dX3_ask_54 ⟨Nat.le_of_ble_eq_true rfl, Nat.le_of_ble_eq_true rfl⟩ (fun S8 h9 => ?_) rfl
        refine hr_st (S1 := (pk_begin S 200 (nI (un a)) (nI (un b)) 16908288)) h9 ?_
        refine hr_iconst (v := 0) C dX3_ask_57 (by decide) ?_
        refine hr_istore C [(4, .int 0), (0, .ref (hr_ad E 0 0)), (1, .int a), (2, .int b), (3, .int ds)] dX3_ask_58 (by decide) rfl ?_
        have LP60 : ∀ (n d : Nat) , d ≤ 8 → 8 + 1 ≤ d + n → hr_G p l e ({ frames := 8, cells := 4, slots := 24, locals := 131 } : Room) s m #[.ref (hr_ad E 0 0), .int a, .int b, .int ds] below meth c (vx_MQ below (va_Qi (fun r u => (r = (ai_launch (cl_askL S (un a) (un b) ds 8) 200) 3 0 2 ∧ u = (ai_launch (cl_askL S (un a) (un b) ds 8) 200)) ∧ (nb a 8 ∧ nb b 8 ∧ ¬ a = b) ∧ (¬ ds < 1 ∧ ds ≤ 255) ∧ ¬ S 1 0 (un a * 8 + un b) = 0) (fun u t => hr_P E u o t.heap) (hr_A E)) (vx_X (fun _ : Unit => True) (fun X _ t => (fun X => ((X = "java/lang/IndexOutOfBoundsException" ∧ ¬ (nb a 8 ∧ nb b 8)) ∨ (X = "java/lang/IllegalArgumentException" ∧ (nb a 8 ∧ nb b 8) ∧ a = b)) ∨ (X = "java/lang/IllegalArgumentException" ∧ (nb a 8 ∧ nb b 8 ∧ ¬ a = b) ∧ ¬ (¬ ds < 1 ∧ ds ≤ 255)) ∨ (X = "java/lang/IllegalStateException" ∧ (nb a 8 ∧ nb b 8 ∧ ¬ a = b) ∧ (¬ ds < 1 ∧ ds ≤ 255) ∧ S 1 0 (un a * 8 + un b) = 0)) X ∧ hr_P E S o t.heap) (hr_A E)) #[.ref (hr_ad E 0 0), .int a, .int b, .int ds] s 4 24 (hr_A E)) E 5 3 18 (cl_askL S (un a) (un b) ds d) o [(0, .ref (hr_ad E 0 0)), (1, .int a), (2, .int b), (3, .int ds), (4, .int (nI d))] 60 [] := by
          intro n
          induction n with
          | zero => intro d  h1 h2; omega
          | succ n ih =>
            intro d  hv1 hv2
            refine hr_iload C dX3_ask_60 4 rfl ?_
            refine hr_bipush (v := 8) C dX3_ask_62 (by decide) ?_
            refine hr_icmp_ge C 95 dX3_ask_64 (by decide) (fun c64 => ?_) (fun c64 => ?_)
            · skip
              have c64 : 8 ≤ d := (nI_leI (a := 8) (b := d) (by omega) (by omega)).mp c64
              have c64n : ¬ d < 8 := Nat.not_lt.mpr c64
              refine hr_aload_n C dX3_ask_95 rfl 0 rfl ?_
              refine hr_get (k := 0) (i := 0) (fld := 2) C (by decide) rfl rfl (by decide) kU_X3 kF_X3_22 rfl rfl dX3_ask_96 ?_
              refine hr_aload_n C dX3_ask_99 rfl 0 rfl ?_
              refine hr_get (k := 0) (i := 0) (fld := 3) C (by decide) rfl rfl (by decide) kU_X3 kF_X3_29 rfl rfl dX3_ask_100 ?_
              refine hr_cVv C (ct_X0_launch l E (cl_askL S (un a) (un b) ds d) o 200 (by omega) (CI_askL (ds := ds) hI hA hB d) (ai_ne (CI_askL (ds := ds) hI hA hB d) (by omega))) (cwV 1 C.1.2.2.2.2 (hr_gV kM_X3_75 kI_X0_launch kS_X0_launch kN_X0 kC_X0_launch) rfl rfl rfl (by decide +kernel) ⟨Nat.le_of_ble_eq_true rfl, Nat.le_of_ble_eq_true rfl⟩) (by decide) rfl rfl rfl (Nat.le_of_ble_eq_true rfl) dX3_ask_103 ⟨Nat.le_of_ble_eq_true rfl, Nat.le_of_ble_eq_true rfl⟩ (fun S11 h12 => ?_) rfl
              refine hr_st (S1 := (ai_launch (cl_askL S (un a) (un b) ds d) 200)) h12 ?_
              refine hr_aload_n C dX3_ask_106 rfl 0 rfl ?_
              refine hr_get (k := 0) (i := 0) (fld := 2) C (by decide) rfl rfl (by decide) kU_X3 kF_X3_22 rfl rfl dX3_ask_107 ?_
              refine hr_get (k := 3) (i := 0) (fld := 2) C (by decide) rfl rfl (by decide) kU_X0 kF_X3_79 rfl rfl dX3_ask_110 ?_
              refine hr_xr ?_ (Nat.le_of_ble_eq_true rfl) (Nat.le_of_ble_eq_true rfl)
              exact hr_iret C hr dX3_ask_113 ⟨⟨by rw [show d = 8 by omega], by rw [show d = 8 by omega]⟩, ⟨fA, fB, fN⟩, ⟨c7, c14⟩, c33⟩
            · skip
              have c64 : ¬ 8 ≤ d := fun h => c64 ((nI_leI (a := 8) (b := d) (by omega) (by omega)).mpr h)
              have c64n : d < 8 := Nat.not_le.mp c64
              refine hr_iload_n C dX3_ask_67 rfl 3 rfl ?_
              refine hr_iload C dX3_ask_68 4 rfl ?_
              refine hr_ishr C dX3_ask_70 rfl ?_
              refine hr_iconst (v := 1) C dX3_ask_71 (by decide) ?_
              refine hr_iand C dX3_ask_72 rfl ?_
              refine hr_iconst (v := 1) C dX3_ask_73 (by decide) ?_
              refine hr_icmp_ne C 89 dX3_ask_74 (by decide) (fun c74 => ?_) (fun c74 => ?_)
              · skip
                refine hr_iinc (v := nI (d + 1)) C [(4, .int (nI (d + 1))), (0, .ref (hr_ad E 0 0)), (1, .int a), (2, .int b), (3, .int ds)] dX3_ask_89 4 rfl (nI_add d 1) (by decide) rfl ?_
                refine hr_goto C 60 dX3_ask_92 (by decide) ?_
                refine hr_sub [1, 2, 3, 4, 0] rfl ?_
                refine hr_st (S1 := cl_askL S (un a) (un b) ds (d + 1)) (by rw [cl_askL, if_neg c74]) ?_
                exact ih (d + 1)  (by omega) (by omega)
              · skip
                refine hr_aload_n C dX3_ask_77 rfl 0 rfl ?_
                refine hr_get (k := 0) (i := 0) (fld := 3) C (by decide) rfl rfl (by decide) kU_X3 kF_X3_29 rfl rfl dX3_ask_78 ?_
                refine hr_iconst (v := 2) C dX3_ask_81 (by decide) ?_
                refine hr_iload C dX3_ask_82 4 rfl ?_
                refine hr_bipush (v := 16) C dX3_ask_84 (by decide) ?_
                refine hr_cVv C (ct_X1_addEntry l E (cl_askL S (un a) (un b) ds d) o 200 (by omega) (((CI_askL (ds := ds) hI hA hB d).2.2.2.1 200 (by decide)).2.2) (len_askL S (un a) (un b) ds d) 2 (nI d) 16) (cwV 3 C.1.2.2.2.2 (hr_gV kM_X3_72 kI_X1_addEntry kS_X1_addEntry kN_X1 kC_X1_addEntry) rfl rfl rfl (by decide +kernel) ⟨Nat.le_of_ble_eq_true rfl, Nat.le_of_ble_eq_true rfl⟩) (by decide) rfl rfl rfl (Nat.le_of_ble_eq_true rfl) dX3_ask_86 ⟨Nat.le_of_ble_eq_true rfl, Nat.le_of_ble_eq_true rfl⟩ (fun S14 h15 => ?_) rfl
                refine hr_st (S1 := (pk_addE (cl_askL S (un a) (un b) ds d) 200 2 (nI d) 16)) h15 ?_
                refine hr_iinc (v := nI (d + 1)) C [(4, .int (nI (d + 1))), (0, .ref (hr_ad E 0 0)), (1, .int a), (2, .int b), (3, .int ds)] dX3_ask_89 4 rfl (nI_add d 1) (by decide) rfl ?_
                refine hr_goto C 60 dX3_ask_92 (by decide) ?_
                refine hr_sub [1, 2, 3, 4, 0] rfl ?_
                refine hr_st (S1 := cl_askL S (un a) (un b) ds (d + 1)) (by rw [cl_askL, if_pos c74]) ?_
                exact ih (d + 1)  (by omega) (by omega)
        refine hr_sub [1, 2, 3, 4, 0] rfl ?_
        refine hr_st (S1 := cl_askL S (un a) (un b) ds 0) rfl ?_
        exact LP60 (8 + 1) 0  (by omega) (by omega)
      · skip
        have c33 := hr_bz.mp c33
        have c33 : ¬ (¬ S 1 0 ((un a) * 8 + (un b)) = 0) := c33
        exact hr_throw (text := "the link is down") C htr htab (by decide) (Or.inr (Or.inr ⟨rfl, ⟨fA, fB, fN⟩, ⟨c7, c14⟩, Decidable.not_not.mp c33⟩)) kL_X3_49 kN_IllegalStateException (by decide) (hr_at_53 C) hr_good_53 dX3_ask_36 dX3_ask_39 dX3_ask_40 dX3_ask_42 dX3_ask_45 (Nat.le_of_ble_eq_true rfl) (Nat.le_of_ble_eq_true rfl) (Nat.le_of_ble_eq_true rfl) (Nat.le_of_ble_eq_true rfl) (Nat.le_of_ble_eq_true rfl) (Nat.le_of_ble_eq_true rfl) rfl
    · skip
      have c14n : 255 < ds := Int32.not_le.mp c14
      exact hr_throw (text := "destinations are not 1 .. 255") C htr htab (by decide) (Or.inr (Or.inl ⟨rfl, ⟨fA, fB, fN⟩, fun h => c14 h.2⟩)) kL_X3_82 kN_IllegalArgumentException (by decide) (hr_at_86 C) hr_good_86 dX3_ask_17 dX3_ask_20 dX3_ask_21 dX3_ask_23 dX3_ask_26 (Nat.le_of_ble_eq_true rfl) (Nat.le_of_ble_eq_true rfl) (Nat.le_of_ble_eq_true rfl) (Nat.le_of_ble_eq_true rfl) (Nat.le_of_ble_eq_true rfl) (Nat.le_of_ble_eq_true rfl) rfl
set_option maxHeartbeats 4000000 in
set_option maxRecDepth 100000 in
theorem ct_X3_tick (l : Launch) (htr : l.stackTraces = false) (E : hr_E) (S : hr_S) (o : Int64) (n9 al : Int32) (hI : hr_CI S) : hr_Xi l E yX3_tick (Cond.code yX3_tick cX3_tick 5 (some .int) :: hr_W) ({ frames := 6, cells := 1, slots := 6, locals := 152 } : Room) [.ref (hr_ad E 0 0), .int n9, .int al] S o (fun r u => (r = (cl_tick S al (un n9)) 3 0 2 ∧ u = (cl_tick S al (un n9))) ∧ nb n9 1001) (fun X => X = "java/lang/IllegalArgumentException" ∧ ¬ nb n9 1001) 1 6 := by
  refine hr_ofX (by decide) (Nat.le_of_ble_eq_true rfl) (fun p e s m below meth c C hr htab => ?_)
  refine hr_iload_n C dX3_tick_0 rfl 1 rfl ?_
  refine hr_if_lt C 11 dX3_tick_1 (by decide) (fun c1 => ?_) (fun c1 => ?_)
  · skip
    have c1n : ¬ 0 ≤ n9 := Int32.not_le.mpr c1
    exact hr_throw (text := "n is not 0 .. 1000") C htr htab (by decide) ⟨rfl, nb_lt0 c1 (by decide)⟩ kL_X3_82 kN_IllegalArgumentException (by decide) (hr_at_86 C) hr_good_86 dX3_tick_11 dX3_tick_14 dX3_tick_15 dX3_tick_17 dX3_tick_20 (Nat.le_of_ble_eq_true rfl) (Nat.le_of_ble_eq_true rfl) (Nat.le_of_ble_eq_true rfl) (Nat.le_of_ble_eq_true rfl) (Nat.le_of_ble_eq_true rfl) (Nat.le_of_ble_eq_true rfl) rfl
  · skip
    have c1n : 0 ≤ n9 := Int32.not_lt.mp c1
    refine hr_iload_n C dX3_tick_4 rfl 1 rfl ?_
    refine hr_sipush (v := 1000) C dX3_tick_5 (by decide) ?_
    refine hr_icmp_le C 21 dX3_tick_8 (by decide) (fun c8 => ?_) (fun c8 => ?_)
    · skip
      have c8n : ¬ 1000 < n9 := Int32.not_lt.mpr c8
      have fN : nb n9 1001 := nb_le (N := 1000) c1 c8 rfl (by decide)
      have hN := fN.2
      refine hr_iconst (v := 0) C dX3_tick_21 (by decide) ?_
      refine hr_istore_n C [(3, .int 0), (0, .ref (hr_ad E 0 0)), (1, .int n9), (2, .int al)] dX3_tick_22 rfl (by decide) rfl ?_
      have LP23 : ∀ (n i9 : Nat) , i9 ≤ (un n9) → (un n9) + 1 ≤ i9 + n → hr_G p l e ({ frames := 6, cells := 1, slots := 6, locals := 152 } : Room) s m #[.ref (hr_ad E 0 0), .int n9, .int al] below meth c (vx_MQ below (va_Qi (fun r u => (r = (cl_tick S al (un n9)) 3 0 2 ∧ u = (cl_tick S al (un n9))) ∧ nb n9 1001) (fun u t => hr_P E u o t.heap) (hr_A E)) (vx_X (fun _ : Unit => True) (fun X _ t => (fun X => X = "java/lang/IllegalArgumentException" ∧ ¬ nb n9 1001) X ∧ hr_P E S o t.heap) (hr_A E)) #[.ref (hr_ad E 0 0), .int n9, .int al] s 1 6 (hr_A E)) E 5 0 0 (cl_tick S al i9) o [(0, .ref (hr_ad E 0 0)), (1, .int n9), (2, .int al), (3, .int (nI i9))] 23 [] := by
        intro n
        induction n with
        | zero => intro i9  h1 h2; omega
        | succ n ih =>
          intro i9  hv1 hv2
          refine hr_iload_n C dX3_tick_23 rfl 3 rfl ?_
          refine hr_iload_n C dX3_tick_24 rfl 1 rfl ?_
          refine hr_tp (y := nI (un n9)) fN.1 ?_
          refine hr_icmp_ge C 75 dX3_tick_25 (by decide) (fun c25 => ?_) (fun c25 => ?_)
          · skip
            have c25 : (un n9) ≤ i9 := (nI_leI (a := (un n9)) (b := i9) (by omega) (by omega)).mp c25
            have c25n : ¬ i9 < (un n9) := Nat.not_lt.mpr c25
            refine hr_aload_n C dX3_tick_75 rfl 0 rfl ?_
            refine hr_get (k := 0) (i := 0) (fld := 2) C (by decide) rfl rfl (by decide) kU_X3 kF_X3_22 rfl rfl dX3_tick_76 ?_
            refine hr_get (k := 3) (i := 0) (fld := 2) C (by decide) rfl rfl (by decide) kU_X0 kF_X3_79 rfl rfl dX3_tick_79 ?_
            refine hr_xr ?_ (Nat.le_of_ble_eq_true rfl) (Nat.le_of_ble_eq_true rfl)
            exact hr_iret C hr dX3_tick_82 ⟨⟨by rw [show i9 = un n9 by omega], by rw [show i9 = un n9 by omega]⟩, fN⟩
          · skip
            have c25 : ¬ (un n9) ≤ i9 := fun h => c25 ((nI_leI (a := (un n9)) (b := i9) (by omega) (by omega)).mpr h)
            have c25n : i9 < (un n9) := Nat.not_le.mp c25
            refine hr_aload_n C dX3_tick_28 rfl 0 rfl ?_
            refine hr_cVv C (ct_X3_passTime l E (cl_tick S al i9) o (CI_tick hI i9)) (cwV 0 C.1.2.2.2.2 (hr_gV kM_X3_91 kI_X3_passTime kS_X3_passTime kN_X3 kC_X3_passTime) rfl rfl rfl (by decide +kernel) ⟨Nat.le_of_ble_eq_true rfl, Nat.le_of_ble_eq_true rfl⟩) (by decide) rfl rfl rfl (Nat.le_of_ble_eq_true rfl) dX3_tick_29 ⟨Nat.le_of_ble_eq_true rfl, Nat.le_of_ble_eq_true rfl⟩ (fun S2 h3 => ?_) rfl
            refine hr_st (S1 := (cl_pass (cl_tick S al i9))) h3 ?_
            refine hr_iconst (v := 0) C dX3_tick_32 (by decide) ?_
            refine hr_istore C [(4, .int 0), (0, .ref (hr_ad E 0 0)), (1, .int n9), (2, .int al), (3, .int (nI i9))] dX3_tick_33 (by decide) rfl ?_
            have LPI : ∀ (n2 came : Nat) (S1 : hr_S), came ≤ 1000 → 1001 ≤ came + n2 → hr_CI S1 → (if al = 0 then S1 else cl_dr (1000 - came) S1) = cl_tk1 (cl_tick S al i9) al → hr_G p l e ({ frames := 6, cells := 1, slots := 6, locals := 152 } : Room) s m #[.ref (hr_ad E 0 0), .int n9, .int al] below meth c (vx_MQ below (va_Qi (fun r u => (r = (cl_tick S al (un n9)) 3 0 2 ∧ u = (cl_tick S al (un n9))) ∧ nb n9 1001) (fun u t => hr_P E u o t.heap) (hr_A E)) (vx_X (fun _ : Unit => True) (fun X _ t => (fun X => X = "java/lang/IllegalArgumentException" ∧ ¬ nb n9 1001) X ∧ hr_P E S o t.heap) (hr_A E)) #[.ref (hr_ad E 0 0), .int n9, .int al] s 1 6 (hr_A E)) E 5 0 0 S1 o [(0, .ref (hr_ad E 0 0)), (1, .int n9), (2, .int al), (3, .int (nI i9)), (4, .int (nI came))] 35 [] := by
              intro n2
              induction n2 with
              | zero => intro came S1 h1 h2; omega
              | succ n2 ih2 =>
                intro came S1 h6 h7 h8 h9
                have h8b := h8.1.2
                refine hr_iload_n C dX3_tick_35 rfl 2 rfl ?_
                refine hr_if_eq C 69 dX3_tick_36 (by decide) (fun c36 => ?_) (fun c36 => ?_)
                · skip
                  rw [if_pos c36] at h9
                  refine hr_st (S1 := cl_tick S al (i9 + 1)) (show S1 = _ from h9) ?_
                  refine hr_iinc (v := nI (i9 + 1)) C [(3, .int (nI (i9 + 1))), (0, .ref (hr_ad E 0 0)), (1, .int n9), (2, .int al), (4, .int (nI came))] dX3_tick_69 3 rfl (nI_add i9 1) (by decide) rfl ?_
                  refine hr_goto C 23 dX3_tick_72 (by decide) ?_
                  refine hr_sub [1, 2, 3, 0] rfl ?_
                  refine hr_st (S1 := cl_tick S al (i9 + 1)) rfl ?_
                  exact ih (i9 + 1)  (by omega) (by omega)
                · skip
                  rw [if_neg c36] at h9
                  refine hr_iload C dX3_tick_39 4 rfl ?_
                  refine hr_sipush (v := 1000) C dX3_tick_41 (by decide) ?_
                  refine hr_icmp_ge C 69 dX3_tick_44 (by decide) (fun c44 => ?_) (fun c44 => ?_)
                  · skip
                    have c44 : 1000 ≤ came := (nI_leI (a := 1000) (b := came) (by omega) (by omega)).mp c44
                    have c44n : ¬ came < 1000 := Nat.not_lt.mpr c44
                    rw [show 1000 - came = 0 by omega] at h9
                    have h9 : S1 = cl_tk1 (cl_tick S al i9) al := h9
                    refine hr_st (S1 := cl_tick S al (i9 + 1)) (show S1 = _ from h9) ?_
                    refine hr_iinc (v := nI (i9 + 1)) C [(3, .int (nI (i9 + 1))), (0, .ref (hr_ad E 0 0)), (1, .int n9), (2, .int al), (4, .int (nI came))] dX3_tick_69 3 rfl (nI_add i9 1) (by decide) rfl ?_
                    refine hr_goto C 23 dX3_tick_72 (by decide) ?_
                    refine hr_sub [1, 2, 3, 0] rfl ?_
                    refine hr_st (S1 := cl_tick S al (i9 + 1)) rfl ?_
                    exact ih (i9 + 1)  (by omega) (by omega)
                  · skip
                    have c44 : ¬ 1000 ≤ came := fun h => c44 ((nI_leI (a := 1000) (b := came) (by omega) (by omega)).mpr h)
                    have c44n : came < 1000 := Nat.not_le.mp c44
                    refine hr_aload_n C dX3_tick_47 rfl 0 rfl ?_
                    refine hr_get (k := 0) (i := 0) (fld := 2) C (by decide) rfl rfl (by decide) kU_X3 kF_X3_22 rfl rfl dX3_tick_48 ?_
                    refine hr_get (k := 3) (i := 0) (fld := 2) C (by decide) rfl rfl (by decide) kU_X0 kF_X3_79 rfl rfl dX3_tick_51 ?_
                    refine hr_tp (y := nI (un (S1 3 0 2))) h8.1.1 ?_
                    refine hr_if_le C 69 dX3_tick_54 (by decide) (fun c54 => ?_) (fun c54 => ?_)
                    · skip
                      have c54 : (un (S1 3 0 2)) ≤ 0 := (nI_leI (a := (un (S1 3 0 2))) (b := 0) (by omega) (by omega)).mp c54
                      have c54n : ¬ 0 < (un (S1 3 0 2)) := Nat.not_lt.mpr c54
                      have h9 : S1 = cl_tk1 (cl_tick S al i9) al := by rw [← h9, show 1000 - came = (1000 - (came + 1)) + 1 by omega, cl_dr, if_neg (by show ¬ 0 < un (S1 3 0 2); omega)]
                      refine hr_st (S1 := cl_tick S al (i9 + 1)) (show S1 = _ from h9) ?_
                      refine hr_iinc (v := nI (i9 + 1)) C [(3, .int (nI (i9 + 1))), (0, .ref (hr_ad E 0 0)), (1, .int n9), (2, .int al), (4, .int (nI came))] dX3_tick_69 3 rfl (nI_add i9 1) (by decide) rfl ?_
                      refine hr_goto C 23 dX3_tick_72 (by decide) ?_
                      refine hr_sub [1, 2, 3, 0] rfl ?_
                      refine hr_st (S1 := cl_tick S al (i9 + 1)) rfl ?_
                      exact ih (i9 + 1)  (by omega) (by omega)
                    · skip
                      have c54 : ¬ (un (S1 3 0 2)) ≤ 0 := fun h => c54 ((nI_leI (a := (un (S1 3 0 2))) (b := 0) (by omega) (by omega)).mpr h)
                      have c54n : 0 < (un (S1 3 0 2)) := Nat.not_le.mp c54
                      have hpos : 0 < ai_n S1 := by show 0 < un (S1 3 0 2); omega
                      refine hr_aload_n C dX3_tick_57 rfl 0 rfl ?_
                      refine hr_iconst (v := 0) C dX3_tick_58 (by decide) ?_
                      refine hr_cVi C (ct_X3_bring l E S1 o 0 hpos h8) (cwV 1 C.1.2.2.2.2 (hr_gV kM_X3_94 kI_X3_bring kS_X3_bring kN_X3 kC_X3_bring) rfl rfl rfl (by decide +kernel) ⟨Nat.le_of_ble_eq_true rfl, Nat.le_of_ble_eq_true rfl⟩) (by decide) rfl rfl rfl (Nat.le_of_ble_eq_true rfl) dX3_tick_59 ⟨Nat.le_of_ble_eq_true rfl, Nat.le_of_ble_eq_true rfl⟩ (fun r4 S5 h6 => ?_) rfl
                      refine hr_tp h6.1 ?_
                      refine hr_st (S1 := (cl_bring S1 0)) h6.2 ?_
                      refine hr_pop C dX3_tick_62 rfl ?_
                      refine hr_iinc (v := nI (came + 1)) C [(4, .int (nI (came + 1))), (0, .ref (hr_ad E 0 0)), (1, .int n9), (2, .int al), (3, .int (nI i9))] dX3_tick_63 4 rfl (nI_add came 1) (by decide) rfl ?_
                      refine hr_goto C 35 dX3_tick_66 (by decide) ?_
                      refine hr_sub [1, 2, 3, 4, 0] rfl ?_
                      refine ih2 (came + 1) _ (by omega) (by omega) (CI_bring h8 hpos) ?_
                      rw [if_neg c36, ← h9, show 1000 - came = (1000 - (came + 1)) + 1 by omega, cl_dr, if_pos hpos]
            refine hr_sub [1, 2, 3, 4, 0] rfl ?_
            exact LPI 1001 0 _ (by omega) (by omega) (CI_pass (CI_tick hI i9)) rfl
      refine hr_sub [1, 2, 3, 0] rfl ?_
      refine hr_st (S1 := cl_tick S al 0) rfl ?_
      exact LP23 ((un n9) + 1) 0  (by omega) (by omega)
    · skip
      have c8n : 1000 < n9 := Int32.not_le.mp c8
      exact hr_throw (text := "n is not 0 .. 1000") C htr htab (by decide) ⟨rfl, nb_nle (N := 1000) c8 rfl (by decide)⟩ kL_X3_82 kN_IllegalArgumentException (by decide) (hr_at_86 C) hr_good_86 dX3_tick_11 dX3_tick_14 dX3_tick_15 dX3_tick_17 dX3_tick_20 (Nat.le_of_ble_eq_true rfl) (Nat.le_of_ble_eq_true rfl) (Nat.le_of_ble_eq_true rfl) (Nat.le_of_ble_eq_true rfl) (Nat.le_of_ble_eq_true rfl) (Nat.le_of_ble_eq_true rfl) rfl
set_option maxHeartbeats 4000000 in
set_option maxRecDepth 100000 in
theorem ct_X3_deliver (l : Launch) (htr : l.stackTraces = false) (E : hr_E) (S : hr_S) (o : Int64) (k : Int32) (hI : hr_CI S) : hr_Xi l E yX3_deliver (Cond.code yX3_deliver cX3_deliver 2 (some .boolean) :: hr_W) ({ frames := 7, cells := 1, slots := 6, locals := 152 } : Room) [.ref (hr_ad E 0 0), .int k] S o (fun r u => (r = (if ¬ (cl_take S (un k)) 1 0 (un ((cl_take S (un k)) 6 201 0) * 8 + un ((cl_take S (un k)) 6 201 1)) = 0 then 1 else 0) ∧ u = cl_bring S (un k)) ∧ nb k (ai_n S)) (fun X => X = "java/lang/IndexOutOfBoundsException" ∧ ¬ nb k (ai_n S)) 1 6 := by
  refine hr_ofX (by decide) (Nat.le_of_ble_eq_true rfl) (fun p e s m below meth c C hr htab => ?_)
  refine hr_aload_n C dX3_deliver_0 rfl 0 rfl ?_
  refine hr_iload_n C dX3_deliver_1 rfl 1 rfl ?_
  refine hr_xVv C htab (ct_X3_checkPacket l htr E S o k hI) (cwV 1 C.1.2.2.2.2 (hr_gV kM_X3_98 kI_X3_checkPacket kS_X3_checkPacket kN_X3 kC_X3_checkPacket) rfl rfl rfl (by decide +kernel) ⟨Nat.le_of_ble_eq_true rfl, Nat.le_of_ble_eq_true rfl⟩) (by decide) rfl rfl rfl (Nat.le_of_ble_eq_true rfl) dX3_deliver_2 ⟨Nat.le_of_ble_eq_true rfl, Nat.le_of_ble_eq_true rfl⟩ ⟨Nat.le_of_ble_eq_true rfl, Nat.le_of_ble_eq_true rfl⟩ (fun _ h => h) (fun S2 h3 => ?_) rfl
  obtain ⟨h3, fK⟩ := h3
  refine hr_st (S1 := S) h3 ?_
  have hn2 : ai_n S < 201 := hI.1.2
  have hK := fK.2
  have hj2 := (hI.2.1 (un k) (by omega)).2
  refine hr_aload_n C dX3_deliver_5 rfl 0 rfl ?_
  refine hr_iload_n C dX3_deliver_6 rfl 1 rfl ?_
  refine hr_tp (y := nI (un k)) fK.1 ?_
  refine hr_cVi C (ct_X3_bring l E S o (un k) hK hI) (cwV 1 C.1.2.2.2.2 (hr_gV kM_X3_94 kI_X3_bring kS_X3_bring kN_X3 kC_X3_bring) rfl rfl rfl (by decide +kernel) ⟨Nat.le_of_ble_eq_true rfl, Nat.le_of_ble_eq_true rfl⟩) (by decide) rfl rfl rfl (Nat.le_of_ble_eq_true rfl) dX3_deliver_7 ⟨Nat.le_of_ble_eq_true rfl, Nat.le_of_ble_eq_true rfl⟩ (fun r4 S5 h6 => ?_) rfl
  refine hr_tp h6.1 ?_
  refine hr_st (S1 := (cl_bring S (un k))) h6.2 ?_
  refine hr_xr ?_ (Nat.le_of_ble_eq_true rfl) (Nat.le_of_ble_eq_true rfl)
  exact hr_zret C hr (by split <;> rfl) dX3_deliver_10 ⟨⟨rfl, rfl⟩, fK⟩
set_option maxHeartbeats 4000000 in
set_option maxRecDepth 100000 in
theorem ct_X3_lose (l : Launch) (htr : l.stackTraces = false) (E : hr_E) (S : hr_S) (o : Int64) (k : Int32) (hI : hr_CI S) : hr_Xi l E yX3_lose (Cond.code yX3_lose cX3_lose 2 (some .int) :: hr_W) ({ frames := 7, cells := 1, slots := 6, locals := 111 } : Room) [.ref (hr_ad E 0 0), .int k] S o (fun r u => (r = (ai_remove S (un k)) 3 0 2 ∧ u = ai_remove S (un k)) ∧ nb k (ai_n S)) (fun X => X = "java/lang/IndexOutOfBoundsException" ∧ ¬ nb k (ai_n S)) 1 6 := by
  refine hr_ofX (by decide) (Nat.le_of_ble_eq_true rfl) (fun p e s m below meth c C hr htab => ?_)
  refine hr_aload_n C dX3_lose_0 rfl 0 rfl ?_
  refine hr_iload_n C dX3_lose_1 rfl 1 rfl ?_
  refine hr_xVv C htab (ct_X3_checkPacket l htr E S o k hI) (cwV 1 C.1.2.2.2.2 (hr_gV kM_X3_98 kI_X3_checkPacket kS_X3_checkPacket kN_X3 kC_X3_checkPacket) rfl rfl rfl (by decide +kernel) ⟨Nat.le_of_ble_eq_true rfl, Nat.le_of_ble_eq_true rfl⟩) (by decide) rfl rfl rfl (Nat.le_of_ble_eq_true rfl) dX3_lose_2 ⟨Nat.le_of_ble_eq_true rfl, Nat.le_of_ble_eq_true rfl⟩ ⟨Nat.le_of_ble_eq_true rfl, Nat.le_of_ble_eq_true rfl⟩ (fun _ h => h) (fun S2 h3 => ?_) rfl
  obtain ⟨h3, fK⟩ := h3
  refine hr_st (S1 := S) h3 ?_
  have hn2 : ai_n S < 201 := hI.1.2
  have hK := fK.2
  have hj2 := (hI.2.1 (un k) (by omega)).2
  refine hr_aload_n C dX3_lose_5 rfl 0 rfl ?_
  refine hr_get (k := 0) (i := 0) (fld := 2) C (by decide) rfl rfl (by decide) kU_X3 kF_X3_22 rfl rfl dX3_lose_6 ?_
  refine hr_iload_n C dX3_lose_9 rfl 1 rfl ?_
  refine hr_tp (y := nI (un k)) fK.1 ?_
  refine hr_cVv C (ct_X0_remove l E S o (un k) hK hI) (cwV 1 C.1.2.2.2.2 (hr_gV kM_X3_101 kI_X0_remove kS_X0_remove kN_X0 kC_X0_remove) rfl rfl rfl (by decide +kernel) ⟨Nat.le_of_ble_eq_true rfl, Nat.le_of_ble_eq_true rfl⟩) (by decide) rfl rfl rfl (Nat.le_of_ble_eq_true rfl) dX3_lose_10 ⟨Nat.le_of_ble_eq_true rfl, Nat.le_of_ble_eq_true rfl⟩ (fun S5 h6 => ?_) rfl
  refine hr_st (S1 := (ai_remove S (un k))) h6 ?_
  refine hr_aload_n C dX3_lose_13 rfl 0 rfl ?_
  refine hr_get (k := 0) (i := 0) (fld := 2) C (by decide) rfl rfl (by decide) kU_X3 kF_X3_22 rfl rfl dX3_lose_14 ?_
  refine hr_get (k := 3) (i := 0) (fld := 2) C (by decide) rfl rfl (by decide) kU_X0 kF_X3_79 rfl rfl dX3_lose_17 ?_
  refine hr_xr ?_ (Nat.le_of_ble_eq_true rfl) (Nat.le_of_ble_eq_true rfl)
  exact hr_iret C hr dX3_lose_20 ⟨⟨rfl, rfl⟩, fK⟩
set_option maxHeartbeats 4000000 in
set_option maxRecDepth 100000 in
theorem ct_X3_twice (l : Launch) (htr : l.stackTraces = false) (E : hr_E) (S : hr_S) (o : Int64) (k : Int32) (hI : hr_CI S) : hr_Xi l E yX3_twice (Cond.code yX3_twice cX3_twice 2 (some .int) :: hr_W) ({ frames := 7, cells := 1, slots := 6, locals := 111 } : Room) [.ref (hr_ad E 0 0), .int k] S o (fun r u => (r = (ai_launch S (ai_o S (un k))) 3 0 2 ∧ u = ai_launch S (ai_o S (un k))) ∧ nb k (ai_n S)) (fun X => X = "java/lang/IndexOutOfBoundsException" ∧ ¬ nb k (ai_n S)) 1 6 := by
  refine hr_ofX (by decide) (Nat.le_of_ble_eq_true rfl) (fun p e s m below meth c C hr htab => ?_)
  refine hr_aload_n C dX3_twice_0 rfl 0 rfl ?_
  refine hr_iload_n C dX3_twice_1 rfl 1 rfl ?_
  refine hr_xVv C htab (ct_X3_checkPacket l htr E S o k hI) (cwV 1 C.1.2.2.2.2 (hr_gV kM_X3_98 kI_X3_checkPacket kS_X3_checkPacket kN_X3 kC_X3_checkPacket) rfl rfl rfl (by decide +kernel) ⟨Nat.le_of_ble_eq_true rfl, Nat.le_of_ble_eq_true rfl⟩) (by decide) rfl rfl rfl (Nat.le_of_ble_eq_true rfl) dX3_twice_2 ⟨Nat.le_of_ble_eq_true rfl, Nat.le_of_ble_eq_true rfl⟩ ⟨Nat.le_of_ble_eq_true rfl, Nat.le_of_ble_eq_true rfl⟩ (fun _ h => h) (fun S2 h3 => ?_) rfl
  obtain ⟨h3, fK⟩ := h3
  refine hr_st (S1 := S) h3 ?_
  have hn2 : ai_n S < 201 := hI.1.2
  have hK := fK.2
  have hj2 := (hI.2.1 (un k) (by omega)).2
  refine hr_aload_n C dX3_twice_5 rfl 0 rfl ?_
  refine hr_get (k := 0) (i := 0) (fld := 2) C (by decide) rfl rfl (by decide) kU_X3 kF_X3_22 rfl rfl dX3_twice_6 ?_
  refine hr_aload_n C dX3_twice_9 rfl 0 rfl ?_
  refine hr_get (k := 0) (i := 0) (fld := 2) C (by decide) rfl rfl (by decide) kU_X3 kF_X3_22 rfl rfl dX3_twice_10 ?_
  refine hr_iload_n C dX3_twice_13 rfl 1 rfl ?_
  refine hr_tp (y := nI (un k)) fK.1 ?_
  refine hr_cVr C (ct_X0_at l E S o (un k) (by omega) (hI.2.1 (un k) (by omega))) (cwV 1 C.1.2.2.2.2 (hr_gV kM_X3_104 kI_X0_at kS_X0_at kN_X0 kC_X0_at) rfl rfl rfl (by decide +kernel) ⟨Nat.le_of_ble_eq_true rfl, Nat.le_of_ble_eq_true rfl⟩) (by decide) rfl rfl rfl (Nat.le_of_ble_eq_true rfl) dX3_twice_14 ⟨Nat.le_of_ble_eq_true rfl, Nat.le_of_ble_eq_true rfl⟩ (fun S5 h6 => ?_) rfl
  refine hr_st (S1 := S) h6 ?_
  refine hr_cVv C (ct_X0_launch l E S o (un (S 5 0 (un k))) (by omega) hI (ai_twne hI hK)) (cwV 1 C.1.2.2.2.2 (hr_gV kM_X3_75 kI_X0_launch kS_X0_launch kN_X0 kC_X0_launch) rfl rfl rfl (by decide +kernel) ⟨Nat.le_of_ble_eq_true rfl, Nat.le_of_ble_eq_true rfl⟩) (by decide) rfl rfl rfl (Nat.le_of_ble_eq_true rfl) dX3_twice_17 ⟨Nat.le_of_ble_eq_true rfl, Nat.le_of_ble_eq_true rfl⟩ (fun S8 h9 => ?_) rfl
  refine hr_st (S1 := (ai_launch S (un (S 5 0 (un k))))) h9 ?_
  refine hr_aload_n C dX3_twice_20 rfl 0 rfl ?_
  refine hr_get (k := 0) (i := 0) (fld := 2) C (by decide) rfl rfl (by decide) kU_X3 kF_X3_22 rfl rfl dX3_twice_21 ?_
  refine hr_get (k := 3) (i := 0) (fld := 2) C (by decide) rfl rfl (by decide) kU_X0 kF_X3_79 rfl rfl dX3_twice_24 ?_
  refine hr_xr ?_ (Nat.le_of_ble_eq_true rfl) (Nat.le_of_ble_eq_true rfl)
  exact hr_iret C hr dX3_twice_27 ⟨⟨rfl, rfl⟩, fK⟩
set_option maxHeartbeats 4000000 in
set_option maxRecDepth 100000 in
theorem ct_X3_poke (l : Launch) (htr : l.stackTraces = false) (E : hr_E) (S : hr_S) (o : Int64) (k j v : Int32) (hI : hr_CI S) : hr_Xi l E yX3_poke (Cond.code yX3_poke cX3_poke 6 (some .int) :: hr_W) ({ frames := 7, cells := 3, slots := 18, locals := 111 } : Room) [.ref (hr_ad E 0 0), .int k, .int j, .int v] S o (fun r u => (r = hr_by (S 7 (un (S 5 0 (un k)))) (un j) ∧ u = hr_w S 7 (un (S 5 0 (un k))) (un j / 4) (hr_sb (S 7 (un (S 5 0 (un k))) (un j / 4)) (un j) v)) ∧ nb k (ai_n S) ∧ nb j (un (S 6 (un (S 5 0 (un k))) 2)) ∧ (¬ v < 0 ∧ v ≤ 255)) (fun X => (X = "java/lang/IndexOutOfBoundsException" ∧ ¬ nb k (ai_n S)) ∨ (X = "java/lang/IndexOutOfBoundsException" ∧ nb k (ai_n S) ∧ ¬ nb j (un (S 6 (un (S 5 0 (un k))) 2))) ∨ (X = "java/lang/IllegalArgumentException" ∧ nb k (ai_n S) ∧ nb j (un (S 6 (un (S 5 0 (un k))) 2)) ∧ ¬ (¬ v < 0 ∧ v ≤ 255))) 3 18 := by
  refine hr_ofX (by decide) (Nat.le_of_ble_eq_true rfl) (fun p e s m below meth c C hr htab => ?_)
  refine hr_aload_n C dX3_poke_0 rfl 0 rfl ?_
  refine hr_iload_n C dX3_poke_1 rfl 1 rfl ?_
  refine hr_xVv C htab (ct_X3_checkPacket l htr E S o k hI) (cwV 1 C.1.2.2.2.2 (hr_gV kM_X3_98 kI_X3_checkPacket kS_X3_checkPacket kN_X3 kC_X3_checkPacket) rfl rfl rfl (by decide +kernel) ⟨Nat.le_of_ble_eq_true rfl, Nat.le_of_ble_eq_true rfl⟩) (by decide) rfl rfl rfl (Nat.le_of_ble_eq_true rfl) dX3_poke_2 ⟨Nat.le_of_ble_eq_true rfl, Nat.le_of_ble_eq_true rfl⟩ ⟨Nat.le_of_ble_eq_true rfl, Nat.le_of_ble_eq_true rfl⟩ (fun X h => Or.inl h) (fun S2 h3 => ?_) rfl
  obtain ⟨h3, fK⟩ := h3
  refine hr_st (S1 := S) h3 ?_
  have hn2 : ai_n S < 201 := hI.1.2
  have hK := fK.2
  have hj2 := (hI.2.1 (un k) (by omega)).2
  have hlen := (hI.2.2.2.1 (un (S 5 0 (un k))) (by omega)).2.2.2
  refine hr_aload_n C dX3_poke_5 rfl 0 rfl ?_
  refine hr_get (k := 0) (i := 0) (fld := 2) C (by decide) rfl rfl (by decide) kU_X3 kF_X3_22 rfl rfl dX3_poke_6 ?_
  refine hr_iload_n C dX3_poke_9 rfl 1 rfl ?_
  refine hr_tp (y := nI (un k)) fK.1 ?_
  refine hr_cVr C (ct_X0_at l E S o (un k) (by omega) (hI.2.1 (un k) (by omega))) (cwV 1 C.1.2.2.2.2 (hr_gV kM_X3_104 kI_X0_at kS_X0_at kN_X0 kC_X0_at) rfl rfl rfl (by decide +kernel) ⟨Nat.le_of_ble_eq_true rfl, Nat.le_of_ble_eq_true rfl⟩) (by decide) rfl rfl rfl (Nat.le_of_ble_eq_true rfl) dX3_poke_10 ⟨Nat.le_of_ble_eq_true rfl, Nat.le_of_ble_eq_true rfl⟩ (fun S5 h6 => ?_) rfl
  refine hr_st (S1 := S) h6 ?_
  refine hr_astore C [(4, .ref (hr_ad E 6 (un (S 5 0 (un k))))), (0, .ref (hr_ad E 0 0)), (1, .int k), (2, .int j), (3, .int v)] dX3_poke_13 (by decide) rfl ?_
  refine hr_aload C dX3_poke_15 0 rfl ?_
  refine hr_iload_n C dX3_poke_17 rfl 3 rfl ?_
  refine hr_xSv C htab (ct_X3_checkByte l htr E S o (un (S 5 0 (un k))) (by omega) j ((hI.2.2.2.1 (un (S 5 0 (un k))) (by omega)).2.2)) (cwS 2 C.1.2.2.2.2 (hr_gS kM_X3_108 kT_X3_checkByte kN_X3 kC_X3_checkByte) rfl rfl rfl (by decide +kernel) ⟨Nat.le_of_ble_eq_true rfl, Nat.le_of_ble_eq_true rfl⟩) rfl (Nat.le_of_ble_eq_true rfl) dX3_poke_18 ⟨Nat.le_of_ble_eq_true rfl, Nat.le_of_ble_eq_true rfl⟩ ⟨Nat.le_of_ble_eq_true rfl, Nat.le_of_ble_eq_true rfl⟩ (fun X h => Or.inr (Or.inl ⟨h.1, fK, h.2⟩)) (fun S8 h9 => ?_) rfl
  obtain ⟨h9, fJ⟩ := h9
  refine hr_st (S1 := S) h9 ?_
  have hJ := fJ.2
  refine hr_iload_n C dX3_poke_21 rfl 4 rfl ?_
  refine hr_if_lt C 32 dX3_poke_22 (by decide) (fun c22 => ?_) (fun c22 => ?_)
  · skip
    have c22n : ¬ 0 ≤ v := Int32.not_le.mpr c22
    exact hr_throw (text := "v is not 0 .. 255") C htr htab (by decide) (Or.inr (Or.inr ⟨rfl, fK, fJ, fun h => h.1 c22⟩)) kL_X3_82 kN_IllegalArgumentException (by decide) (hr_at_86 C) hr_good_86 dX3_poke_32 dX3_poke_35 dX3_poke_36 dX3_poke_38 dX3_poke_41 (Nat.le_of_ble_eq_true rfl) (Nat.le_of_ble_eq_true rfl) (Nat.le_of_ble_eq_true rfl) (Nat.le_of_ble_eq_true rfl) (Nat.le_of_ble_eq_true rfl) (Nat.le_of_ble_eq_true rfl) rfl
  · skip
    have c22n : 0 ≤ v := Int32.not_lt.mp c22
    refine hr_iload_n C dX3_poke_25 rfl 4 rfl ?_
    refine hr_sipush (v := 255) C dX3_poke_26 (by decide) ?_
    refine hr_icmp_le C 42 dX3_poke_29 (by decide) (fun c29 => ?_) (fun c29 => ?_)
    · skip
      have c29n : ¬ 255 < v := Int32.not_lt.mpr c29
      refine hr_aload C dX3_poke_42 0 rfl ?_
      refine hr_iload_n C dX3_poke_44 rfl 3 rfl ?_
      refine hr_tp (y := nI (un j)) fJ.1 ?_
      refine hr_cVi C (ct_X1_byteAt l E S o (un (S 5 0 (un k))) (by omega) (un j) (by omega)) (cwV 1 C.1.2.2.2.2 (hr_gV kM_X3_114 kI_X1_byteAt kS_X1_byteAt kN_X1 kC_X1_byteAt) rfl rfl rfl (by decide +kernel) ⟨Nat.le_of_ble_eq_true rfl, Nat.le_of_ble_eq_true rfl⟩) (show un (S 5 0 (un k)) < 202 by omega) rfl rfl rfl (Nat.le_of_ble_eq_true rfl) dX3_poke_45 ⟨Nat.le_of_ble_eq_true rfl, Nat.le_of_ble_eq_true rfl⟩ (fun r10 S11 h12 => ?_) rfl
      refine hr_tp (y := hr_by (S 7 (un (S 5 0 (un k)))) (un j)) h12.1 ?_
      refine hr_st (S1 := S) h12.2 ?_
      refine hr_istore C [(5, .int (hr_by (S 7 (un (S 5 0 (un k)))) (un j))), (4, .ref (hr_ad E 6 (un (S 5 0 (un k))))), (0, .ref (hr_ad E 0 0)), (1, .int k), (2, .int j), (3, .int v)] dX3_poke_48 (by decide) rfl ?_
      refine hr_aload C dX3_poke_50 1 rfl ?_
      refine hr_iload_n C dX3_poke_52 rfl 4 rfl ?_
      refine hr_tp (y := nI (un j)) fJ.1 ?_
      refine hr_iload_n C dX3_poke_53 rfl 5 rfl ?_
      refine hr_cVv C (ct_X1_setByte l E S o (un (S 5 0 (un k))) (by omega) (un j) (by omega) v) (cwV 2 C.1.2.2.2.2 (hr_gV kM_X3_117 kI_X1_setByte kS_X1_setByte kN_X1 kC_X1_setByte) rfl rfl rfl (by decide +kernel) ⟨Nat.le_of_ble_eq_true rfl, Nat.le_of_ble_eq_true rfl⟩) (show un (S 5 0 (un k)) < 202 by omega) rfl rfl rfl (Nat.le_of_ble_eq_true rfl) dX3_poke_54 ⟨Nat.le_of_ble_eq_true rfl, Nat.le_of_ble_eq_true rfl⟩ (fun S14 h15 => ?_) rfl
      refine hr_st (S1 := (hr_w S 7 (un (S 5 0 (un k))) ((un j) / 4) (hr_sb (S 7 (un (S 5 0 (un k))) ((un j) / 4)) (un j) v))) h15 ?_
      refine hr_iload C dX3_poke_57 0 rfl ?_
      refine hr_xr ?_ (Nat.le_of_ble_eq_true rfl) (Nat.le_of_ble_eq_true rfl)
      exact hr_iret C hr dX3_poke_59 ⟨⟨rfl, rfl⟩, fK, fJ, c22, c29⟩
    · skip
      have c29n : 255 < v := Int32.not_le.mp c29
      exact hr_throw (text := "v is not 0 .. 255") C htr htab (by decide) (Or.inr (Or.inr ⟨rfl, fK, fJ, fun h => c29 h.2⟩)) kL_X3_82 kN_IllegalArgumentException (by decide) (hr_at_86 C) hr_good_86 dX3_poke_32 dX3_poke_35 dX3_poke_36 dX3_poke_38 dX3_poke_41 (Nat.le_of_ble_eq_true rfl) (Nat.le_of_ble_eq_true rfl) (Nat.le_of_ble_eq_true rfl) (Nat.le_of_ble_eq_true rfl) (Nat.le_of_ble_eq_true rfl) (Nat.le_of_ble_eq_true rfl) rfl
set_option maxHeartbeats 4000000 in
set_option maxRecDepth 100000 in
theorem ct_X3_cut (l : Launch) (htr : l.stackTraces = false) (E : hr_E) (S : hr_S) (o : Int64) (k v : Int32) (hI : hr_CI S) : hr_Xv l E yX3_cut (Cond.code yX3_cut cX3_cut 4 none :: hr_W) ({ frames := 7, cells := 2, slots := 12, locals := 111 } : Room) [.ref (hr_ad E 0 0), .int k, .int v] S o (fun u => u = hr_w S 6 (un (S 5 0 (un k))) 2 v ∧ nb k (ai_n S) ∧ (¬ v < 0 ∧ v ≤ S 6 (un (S 5 0 (un k))) 2)) (fun X => (X = "java/lang/IndexOutOfBoundsException" ∧ ¬ nb k (ai_n S)) ∨ (X = "java/lang/IllegalArgumentException" ∧ nb k (ai_n S) ∧ ¬ (¬ v < 0 ∧ v ≤ S 6 (un (S 5 0 (un k))) 2))) 2 12 := by
  refine hr_ofX (by decide) (Nat.le_of_ble_eq_true rfl) (fun p e s m below meth c C hr htab => ?_)
  refine hr_aload_n C dX3_cut_0 rfl 0 rfl ?_
  refine hr_iload_n C dX3_cut_1 rfl 1 rfl ?_
  refine hr_xVv C htab (ct_X3_checkPacket l htr E S o k hI) (cwV 1 C.1.2.2.2.2 (hr_gV kM_X3_98 kI_X3_checkPacket kS_X3_checkPacket kN_X3 kC_X3_checkPacket) rfl rfl rfl (by decide +kernel) ⟨Nat.le_of_ble_eq_true rfl, Nat.le_of_ble_eq_true rfl⟩) (by decide) rfl rfl rfl (Nat.le_of_ble_eq_true rfl) dX3_cut_2 ⟨Nat.le_of_ble_eq_true rfl, Nat.le_of_ble_eq_true rfl⟩ ⟨Nat.le_of_ble_eq_true rfl, Nat.le_of_ble_eq_true rfl⟩ (fun X h => Or.inl h) (fun S2 h3 => ?_) rfl
  obtain ⟨h3, fK⟩ := h3
  refine hr_st (S1 := S) h3 ?_
  have hn2 : ai_n S < 201 := hI.1.2
  have hK := fK.2
  have hj2 := (hI.2.1 (un k) (by omega)).2
  have hlen := (hI.2.2.2.1 (un (S 5 0 (un k))) (by omega)).2.2.2
  refine hr_aload_n C dX3_cut_5 rfl 0 rfl ?_
  refine hr_get (k := 0) (i := 0) (fld := 2) C (by decide) rfl rfl (by decide) kU_X3 kF_X3_22 rfl rfl dX3_cut_6 ?_
  refine hr_iload_n C dX3_cut_9 rfl 1 rfl ?_
  refine hr_tp (y := nI (un k)) fK.1 ?_
  refine hr_cVr C (ct_X0_at l E S o (un k) (by omega) (hI.2.1 (un k) (by omega))) (cwV 1 C.1.2.2.2.2 (hr_gV kM_X3_104 kI_X0_at kS_X0_at kN_X0 kC_X0_at) rfl rfl rfl (by decide +kernel) ⟨Nat.le_of_ble_eq_true rfl, Nat.le_of_ble_eq_true rfl⟩) (by decide) rfl rfl rfl (Nat.le_of_ble_eq_true rfl) dX3_cut_10 ⟨Nat.le_of_ble_eq_true rfl, Nat.le_of_ble_eq_true rfl⟩ (fun S5 h6 => ?_) rfl
  refine hr_st (S1 := S) h6 ?_
  refine hr_astore_n C [(3, .ref (hr_ad E 6 (un (S 5 0 (un k))))), (0, .ref (hr_ad E 0 0)), (1, .int k), (2, .int v)] dX3_cut_13 rfl (by decide) rfl ?_
  refine hr_iload_n C dX3_cut_14 rfl 3 rfl ?_
  refine hr_if_lt C 26 dX3_cut_15 (by decide) (fun c15 => ?_) (fun c15 => ?_)
  · skip
    have c15n : ¬ 0 ≤ v := Int32.not_le.mpr c15
    exact hr_throw (text := "the packet has not so many bytes") C htr htab (by decide) (Or.inr ⟨rfl, fK, fun h => h.1 c15⟩) kL_X3_82 kN_IllegalArgumentException (by decide) (hr_at_86 C) hr_good_86 dX3_cut_26 dX3_cut_29 dX3_cut_30 dX3_cut_32 dX3_cut_35 (Nat.le_of_ble_eq_true rfl) (Nat.le_of_ble_eq_true rfl) (Nat.le_of_ble_eq_true rfl) (Nat.le_of_ble_eq_true rfl) (Nat.le_of_ble_eq_true rfl) (Nat.le_of_ble_eq_true rfl) rfl
  · skip
    have c15n : 0 ≤ v := Int32.not_lt.mp c15
    refine hr_iload_n C dX3_cut_18 rfl 3 rfl ?_
    refine hr_aload_n C dX3_cut_19 rfl 0 rfl ?_
    refine hr_get (k := 6) (i := un (S 5 0 (un k))) (fld := 2) C (show un (S 5 0 (un k)) < 202 by omega) rfl rfl (by decide) kU_X1 kF_X3_120 rfl rfl dX3_cut_20 ?_
    refine hr_icmp_le C 36 dX3_cut_23 (by decide) (fun c23 => ?_) (fun c23 => ?_)
    · skip
      have c23n : ¬ (S 6 (un (S 5 0 (un k))) 2) < v := Int32.not_lt.mpr c23
      refine hr_aload_n C dX3_cut_36 rfl 0 rfl ?_
      refine hr_iload_n C dX3_cut_37 rfl 3 rfl ?_
      refine hr_put (k := 6) (i := un (S 5 0 (un k))) (fld := 2) C (show un (S 5 0 (un k)) < 202 by omega) rfl rfl (by decide) kU_X1 kF_X3_120 rfl tyX1 tyX1_ok nmX1 rfl (by decide +kernel) (Nat.le_of_ble_eq_true rfl) (by simp [hr_cell, hr_w, hr_wA, upd]) rfl dX3_cut_38 ?_
      refine hr_xr ?_ (Nat.le_of_ble_eq_true rfl) (Nat.le_of_ble_eq_true rfl)
      exact hr_vret C hr dX3_cut_41 ⟨rfl, fK, c15, c23⟩
    · skip
      have c23n : (S 6 (un (S 5 0 (un k))) 2) < v := Int32.not_le.mp c23
      exact hr_throw (text := "the packet has not so many bytes") C htr htab (by decide) (Or.inr ⟨rfl, fK, fun h => c23 h.2⟩) kL_X3_82 kN_IllegalArgumentException (by decide) (hr_at_86 C) hr_good_86 dX3_cut_26 dX3_cut_29 dX3_cut_30 dX3_cut_32 dX3_cut_35 (Nat.le_of_ble_eq_true rfl) (Nat.le_of_ble_eq_true rfl) (Nat.le_of_ble_eq_true rfl) (Nat.le_of_ble_eq_true rfl) (Nat.le_of_ble_eq_true rfl) (Nat.le_of_ble_eq_true rfl) rfl
def cl_pkt (S : hr_S) (p9 : Nat) (j : Int32) : Int32 := if j = -3 then S 6 p9 0 else if j = -2 then S 6 p9 1 else if j = -1 then S 6 p9 2 else hr_by (S 7 p9) (un j)
set_option maxHeartbeats 4000000 in
set_option maxRecDepth 100000 in
theorem ct_X3_packet (l : Launch) (htr : l.stackTraces = false) (E : hr_E) (S : hr_S) (o : Int64) (k j : Int32) (hI : hr_CI S) : hr_Xi l E yX3_packet (Cond.code yX3_packet cX3_packet 4 (some .int) :: hr_W) ({ frames := 7, cells := 2, slots := 12, locals := 111 } : Room) [.ref (hr_ad E 0 0), .int k, .int j] S o (fun r u => (r = cl_pkt S (un (S 5 0 (un k))) j ∧ u = S) ∧ nb k (ai_n S) ∧ (¬ j = -3 → ¬ j = -2 → ¬ j = -1 → nb j (un (S 6 (un (S 5 0 (un k))) 2)))) (fun X => (X = "java/lang/IndexOutOfBoundsException" ∧ ¬ nb k (ai_n S)) ∨ (X = "java/lang/IndexOutOfBoundsException" ∧ nb k (ai_n S) ∧ ¬ j = -3 ∧ ¬ j = -2 ∧ ¬ j = -1 ∧ ¬ nb j (un (S 6 (un (S 5 0 (un k))) 2)))) 2 12 := by
  refine hr_ofX (by decide) (Nat.le_of_ble_eq_true rfl) (fun p e s m below meth c C hr htab => ?_)
  refine hr_aload_n C dX3_packet_0 rfl 0 rfl ?_
  refine hr_iload_n C dX3_packet_1 rfl 1 rfl ?_
  refine hr_xVv C htab (ct_X3_checkPacket l htr E S o k hI) (cwV 1 C.1.2.2.2.2 (hr_gV kM_X3_98 kI_X3_checkPacket kS_X3_checkPacket kN_X3 kC_X3_checkPacket) rfl rfl rfl (by decide +kernel) ⟨Nat.le_of_ble_eq_true rfl, Nat.le_of_ble_eq_true rfl⟩) (by decide) rfl rfl rfl (Nat.le_of_ble_eq_true rfl) dX3_packet_2 ⟨Nat.le_of_ble_eq_true rfl, Nat.le_of_ble_eq_true rfl⟩ ⟨Nat.le_of_ble_eq_true rfl, Nat.le_of_ble_eq_true rfl⟩ (fun X h => Or.inl h) (fun S2 h3 => ?_) rfl
  obtain ⟨h3, fK⟩ := h3
  refine hr_st (S1 := S) h3 ?_
  have hn2 : ai_n S < 201 := hI.1.2
  have hK := fK.2
  have hj2 := (hI.2.1 (un k) (by omega)).2
  have hlen := (hI.2.2.2.1 (un (S 5 0 (un k))) (by omega)).2.2.2
  refine hr_aload_n C dX3_packet_5 rfl 0 rfl ?_
  refine hr_get (k := 0) (i := 0) (fld := 2) C (by decide) rfl rfl (by decide) kU_X3 kF_X3_22 rfl rfl dX3_packet_6 ?_
  refine hr_iload_n C dX3_packet_9 rfl 1 rfl ?_
  refine hr_tp (y := nI (un k)) fK.1 ?_
  refine hr_cVr C (ct_X0_at l E S o (un k) (by omega) (hI.2.1 (un k) (by omega))) (cwV 1 C.1.2.2.2.2 (hr_gV kM_X3_104 kI_X0_at kS_X0_at kN_X0 kC_X0_at) rfl rfl rfl (by decide +kernel) ⟨Nat.le_of_ble_eq_true rfl, Nat.le_of_ble_eq_true rfl⟩) (by decide) rfl rfl rfl (Nat.le_of_ble_eq_true rfl) dX3_packet_10 ⟨Nat.le_of_ble_eq_true rfl, Nat.le_of_ble_eq_true rfl⟩ (fun S5 h6 => ?_) rfl
  refine hr_st (S1 := S) h6 ?_
  refine hr_astore_n C [(3, .ref (hr_ad E 6 (un (S 5 0 (un k))))), (0, .ref (hr_ad E 0 0)), (1, .int k), (2, .int j)] dX3_packet_13 rfl (by decide) rfl ?_
  refine hr_iload_n C dX3_packet_14 rfl 3 rfl ?_
  refine hr_bipush (v := (-3)) C dX3_packet_15 (by decide) ?_
  refine hr_icmp_ne C 25 dX3_packet_17 (by decide) (fun c17 => ?_) (fun c17 => ?_)
  · skip
    refine hr_iload_n C dX3_packet_25 rfl 3 rfl ?_
    refine hr_bipush (v := (-2)) C dX3_packet_26 (by decide) ?_
    refine hr_icmp_ne C 36 dX3_packet_28 (by decide) (fun c28 => ?_) (fun c28 => ?_)
    · skip
      refine hr_iload_n C dX3_packet_36 rfl 3 rfl ?_
      refine hr_iconst (v := (-1)) C dX3_packet_37 (by decide) ?_
      refine hr_icmp_ne C 46 dX3_packet_38 (by decide) (fun c38 => ?_) (fun c38 => ?_)
      · skip
        refine hr_aload_n C dX3_packet_46 rfl 0 rfl ?_
        refine hr_iload_n C dX3_packet_47 rfl 3 rfl ?_
        refine hr_xSv C htab (ct_X3_checkByte l htr E S o (un (S 5 0 (un k))) (by omega) j ((hI.2.2.2.1 (un (S 5 0 (un k))) (by omega)).2.2)) (cwS 2 C.1.2.2.2.2 (hr_gS kM_X3_108 kT_X3_checkByte kN_X3 kC_X3_checkByte) rfl rfl rfl (by decide +kernel) ⟨Nat.le_of_ble_eq_true rfl, Nat.le_of_ble_eq_true rfl⟩) rfl (Nat.le_of_ble_eq_true rfl) dX3_packet_48 ⟨Nat.le_of_ble_eq_true rfl, Nat.le_of_ble_eq_true rfl⟩ ⟨Nat.le_of_ble_eq_true rfl, Nat.le_of_ble_eq_true rfl⟩ (fun X h => Or.inr ⟨h.1, fK, c17, c28, c38, h.2⟩) (fun S8 h9 => ?_) rfl
        obtain ⟨h9, fJ⟩ := h9
        refine hr_st (S1 := S) h9 ?_
        have hJ := fJ.2
        refine hr_aload_n C dX3_packet_51 rfl 0 rfl ?_
        refine hr_iload_n C dX3_packet_52 rfl 3 rfl ?_
        refine hr_tp (y := nI (un j)) fJ.1 ?_
        refine hr_cVi C (ct_X1_byteAt l E S o (un (S 5 0 (un k))) (by omega) (un j) (by omega)) (cwV 1 C.1.2.2.2.2 (hr_gV kM_X3_114 kI_X1_byteAt kS_X1_byteAt kN_X1 kC_X1_byteAt) rfl rfl rfl (by decide +kernel) ⟨Nat.le_of_ble_eq_true rfl, Nat.le_of_ble_eq_true rfl⟩) (show un (S 5 0 (un k)) < 202 by omega) rfl rfl rfl (Nat.le_of_ble_eq_true rfl) dX3_packet_53 ⟨Nat.le_of_ble_eq_true rfl, Nat.le_of_ble_eq_true rfl⟩ (fun r10 S11 h12 => ?_) rfl
        refine hr_tp (y := hr_by (S 7 (un (S 5 0 (un k)))) (un j)) h12.1 ?_
        refine hr_st (S1 := S) h12.2 ?_
        refine hr_xr ?_ (Nat.le_of_ble_eq_true rfl) (Nat.le_of_ble_eq_true rfl)
        exact hr_iret C hr dX3_packet_56 ⟨⟨by unfold cl_pkt; rw [if_neg c17, if_neg c28, if_neg c38], rfl⟩, fK, fun _ _ _ => fJ⟩
      · skip
        refine hr_aload_n C dX3_packet_41 rfl 0 rfl ?_
        refine hr_get (k := 6) (i := un (S 5 0 (un k))) (fld := 2) C (show un (S 5 0 (un k)) < 202 by omega) rfl rfl (by decide) kU_X1 kF_X3_120 rfl rfl dX3_packet_42 ?_
        refine hr_xr ?_ (Nat.le_of_ble_eq_true rfl) (Nat.le_of_ble_eq_true rfl)
        exact hr_iret C hr dX3_packet_45 ⟨⟨by unfold cl_pkt; rw [if_neg c17, if_neg c28, if_pos c38], rfl⟩, fK, fun _ _ h => absurd c38 h⟩
    · skip
      refine hr_aload_n C dX3_packet_31 rfl 0 rfl ?_
      refine hr_get (k := 6) (i := un (S 5 0 (un k))) (fld := 1) C (show un (S 5 0 (un k)) < 202 by omega) rfl rfl (by decide) kU_X1 kF_X3_128 rfl rfl dX3_packet_32 ?_
      refine hr_xr ?_ (Nat.le_of_ble_eq_true rfl) (Nat.le_of_ble_eq_true rfl)
      exact hr_iret C hr dX3_packet_35 ⟨⟨by unfold cl_pkt; rw [if_neg c17, if_pos c28], rfl⟩, fK, fun _ h _ => absurd c28 h⟩
  · skip
    refine hr_aload_n C dX3_packet_20 rfl 0 rfl ?_
    refine hr_get (k := 6) (i := un (S 5 0 (un k))) (fld := 0) C (show un (S 5 0 (un k)) < 202 by omega) rfl rfl (by decide) kU_X1 kF_X3_125 rfl rfl dX3_packet_21 ?_
    refine hr_xr ?_ (Nat.le_of_ble_eq_true rfl) (Nat.le_of_ble_eq_true rfl)
    exact hr_iret C hr dX3_packet_24 ⟨⟨by unfold cl_pkt; rw [if_pos c17], rfl⟩, fK, fun h _ _ => absurd c17 h⟩
def cl_route (S : hr_S) (a b w : Int32) : Int32 := if a = b then (if un w = 0 then 0 else -1) else tb_read S (un a) (un b) (un w)
set_option maxHeartbeats 4000000 in
set_option maxRecDepth 100000 in
theorem ct_X3_route (l : Launch) (htr : l.stackTraces = false) (E : hr_E) (S : hr_S) (o : Int64) (a b w9 : Int32) (hI : hr_CI S) : hr_Xi l E yX3_route (Cond.code yX3_route cX3_route 4 (some .int) :: hr_W) ({ frames := 7, cells := 3, slots := 18, locals := 110 } : Room) [.ref (hr_ad E 0 0), .int a, .int b, .int w9] S o (fun r u => (r = cl_route S a b w9 ∧ u = S) ∧ nb a 8 ∧ nb b 8 ∧ nb w9 5) (fun X => X = "java/lang/IndexOutOfBoundsException" ∧ ¬ (nb a 8 ∧ nb b 8 ∧ nb w9 5)) 3 18 := by
  refine hr_ofX (by decide) (Nat.le_of_ble_eq_true rfl) (fun p e s m below meth c C hr htab => ?_)
  refine hr_iload_n C dX3_route_0 rfl 1 rfl ?_
  refine hr_xSv C htab (ct_X3_checkRouter l htr E S o a) (cwS 1 C.1.2.2.2.2 (hr_gS kM_X3_60 kT_X3_checkRouter kN_X3 kC_X3_checkRouter) rfl rfl rfl (by decide +kernel) ⟨Nat.le_of_ble_eq_true rfl, Nat.le_of_ble_eq_true rfl⟩) rfl (Nat.le_of_ble_eq_true rfl) dX3_route_1 ⟨Nat.le_of_ble_eq_true rfl, Nat.le_of_ble_eq_true rfl⟩ ⟨Nat.le_of_ble_eq_true rfl, Nat.le_of_ble_eq_true rfl⟩ (fun X h => ⟨h.1, fun z => h.2 z.1⟩) (fun S2 h3 => ?_) rfl
  obtain ⟨h3, fA⟩ := h3
  refine hr_st (S1 := S) h3 ?_
  refine hr_iload_n C dX3_route_4 rfl 2 rfl ?_
  refine hr_xSv C htab (ct_X3_checkRouter l htr E S o b) (cwS 1 C.1.2.2.2.2 (hr_gS kM_X3_60 kT_X3_checkRouter kN_X3 kC_X3_checkRouter) rfl rfl rfl (by decide +kernel) ⟨Nat.le_of_ble_eq_true rfl, Nat.le_of_ble_eq_true rfl⟩) rfl (Nat.le_of_ble_eq_true rfl) dX3_route_5 ⟨Nat.le_of_ble_eq_true rfl, Nat.le_of_ble_eq_true rfl⟩ ⟨Nat.le_of_ble_eq_true rfl, Nat.le_of_ble_eq_true rfl⟩ (fun X h => ⟨h.1, fun z => h.2 z.2.1⟩) (fun S5 h6 => ?_) rfl
  obtain ⟨h6, fB⟩ := h6
  refine hr_st (S1 := S) h6 ?_
  have hA := fA.2
  have hB := fB.2
  refine hr_iload_n C dX3_route_8 rfl 3 rfl ?_
  refine hr_if_lt C 17 dX3_route_9 (by decide) (fun c9 => ?_) (fun c9 => ?_)
  · skip
    have c9n : ¬ 0 ≤ w9 := Int32.not_le.mpr c9
    exact hr_throw (text := "no such what") C htr htab (by decide) ⟨rfl, fun h => nb_lt0 c9 (by decide) h.2.2⟩ kL_X3_131 kN_IndexOutOfBoundsException (by decide) (hr_at_135 C) hr_good_135 dX3_route_17 dX3_route_20 dX3_route_21 dX3_route_23 dX3_route_26 (Nat.le_of_ble_eq_true rfl) (Nat.le_of_ble_eq_true rfl) (Nat.le_of_ble_eq_true rfl) (Nat.le_of_ble_eq_true rfl) (Nat.le_of_ble_eq_true rfl) (Nat.le_of_ble_eq_true rfl) rfl
  · skip
    have c9n : 0 ≤ w9 := Int32.not_lt.mp c9
    refine hr_iload_n C dX3_route_12 rfl 3 rfl ?_
    refine hr_iconst (v := 4) C dX3_route_13 (by decide) ?_
    refine hr_icmp_le C 27 dX3_route_14 (by decide) (fun c14 => ?_) (fun c14 => ?_)
    · skip
      have c14n : ¬ 4 < w9 := Int32.not_lt.mpr c14
      have fW : nb w9 5 := nb_le (N := 4) c9 c14 rfl (by decide)
      have hW := fW.2
      refine hr_iload_n C dX3_route_27 rfl 1 rfl ?_
      refine hr_tp (y := nI (un a)) fA.1 ?_
      refine hr_iload_n C dX3_route_28 rfl 2 rfl ?_
      refine hr_tp (y := nI (un b)) fB.1 ?_
      refine hr_icmp_ne C 42 dX3_route_29 (by decide) (fun c29 => ?_) (fun c29 => ?_)
      · skip
        have c29 : ¬ (un a) = (un b) := fun h => c29 ((nI_eq (a := (un a)) (b := (un b)) (by omega) (by omega)).mpr h)
        refine hr_aload_n C dX3_route_42 rfl 0 rfl ?_
        refine hr_get (k := 0) (i := 0) (fld := 1) C (by decide) rfl rfl (by decide) kU_X3 kF_X3_15 rfl rfl dX3_route_43 ?_
        refine hr_iload_n C dX3_route_46 rfl 1 rfl ?_
        refine hr_tp (y := nI (un a)) fA.1 ?_
        refine hr_aald (k := 2) (i := 0) (t0 := 4) (k2 := 8) (un a) C (by decide) rfl rfl rfl (show un a < 8 by omega) (by decide) dX3_route_47 ?_
        refine hr_iload_n C dX3_route_48 rfl 2 rfl ?_
        refine hr_tp (y := nI (un b)) fB.1 ?_
        refine hr_iload_n C dX3_route_49 rfl 3 rfl ?_
        refine hr_tp (y := nI (un w9)) fW.1 ?_
        refine hr_cVi C (ct_X2_read l E S o (un a) (by omega) (un b) (by omega) (un w9) (by omega)) (cwV 2 C.1.2.2.2.2 (hr_gV kM_X3_136 kI_X2_read kS_X2_read kN_X2 kC_X2_read) rfl rfl rfl (by decide +kernel) ⟨Nat.le_of_ble_eq_true rfl, Nat.le_of_ble_eq_true rfl⟩) (show un a < 8 by omega) rfl rfl rfl (Nat.le_of_ble_eq_true rfl) dX3_route_50 ⟨Nat.le_of_ble_eq_true rfl, Nat.le_of_ble_eq_true rfl⟩ (fun r7 S8 h9 => ?_) rfl
        refine hr_tp (y := tb_read S (un a) (un b) (un w9)) h9.1 ?_
        refine hr_st (S1 := S) h9.2 ?_
        refine hr_xr ?_ (Nat.le_of_ble_eq_true rfl) (Nat.le_of_ble_eq_true rfl)
        exact hr_iret C hr dX3_route_53 ⟨⟨by unfold cl_route; rw [if_neg (fun h => c29 (by rw [h]))], rfl⟩, fA, fB, nb_le (N := 4) c9 c14 rfl (by decide)⟩
      · skip
        have c29 : (un a) = (un b) := (nI_eq (a := (un a)) (b := (un b)) (by omega) (by omega)).mp c29
        refine hr_iload_n C dX3_route_32 rfl 3 rfl ?_
        refine hr_tp (y := nI (un w9)) fW.1 ?_
        refine hr_if_ne C 40 dX3_route_33 (by decide) (fun c33 => ?_) (fun c33 => ?_)
        · skip
          have c33 : ¬ (un w9) = 0 := fun h => c33 ((nI_eq (a := (un w9)) (b := 0) (by omega) (by omega)).mpr h)
          refine hr_iconst (v := (-1)) C dX3_route_40 (by decide) ?_
          refine hr_xr ?_ (Nat.le_of_ble_eq_true rfl) (Nat.le_of_ble_eq_true rfl)
          exact hr_iret C hr dX3_route_41 ⟨⟨by unfold cl_route; rw [if_pos (un_inj fA fB c29)]; rw [if_neg c33], rfl⟩, fA, fB, nb_le (N := 4) c9 c14 rfl (by decide)⟩
        · skip
          have c33 : (un w9) = 0 := (nI_eq (a := (un w9)) (b := 0) (by omega) (by omega)).mp c33
          refine hr_iconst (v := 0) C dX3_route_36 (by decide) ?_
          refine hr_goto C 41 dX3_route_37 (by decide) ?_
          refine hr_xr ?_ (Nat.le_of_ble_eq_true rfl) (Nat.le_of_ble_eq_true rfl)
          exact hr_iret C hr dX3_route_41 ⟨⟨by unfold cl_route; rw [if_pos (un_inj fA fB c29)]; rw [if_pos c33], rfl⟩, fA, fB, nb_le (N := 4) c9 c14 rfl (by decide)⟩
    · skip
      have c14n : 4 < w9 := Int32.not_le.mp c14
      exact hr_throw (text := "no such what") C htr htab (by decide) ⟨rfl, fun h => nb_nle (N := 4) c14 rfl (by decide) h.2.2⟩ kL_X3_131 kN_IndexOutOfBoundsException (by decide) (hr_at_135 C) hr_good_135 dX3_route_17 dX3_route_20 dX3_route_21 dX3_route_23 dX3_route_26 (Nat.le_of_ble_eq_true rfl) (Nat.le_of_ble_eq_true rfl) (Nat.le_of_ble_eq_true rfl) (Nat.le_of_ble_eq_true rfl) (Nat.le_of_ble_eq_true rfl) (Nat.le_of_ble_eq_true rfl) rfl
