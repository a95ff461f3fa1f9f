set_option maxHeartbeats 4000000 in
set_option maxRecDepth 100000 in
theorem ct_X3_tell (l : Launch) (E : hr_E) (S : hr_S) (o : Int64) (r9 x9 : Nat) (hr9 : r9 < 8) (hx9 : x9 < 8) (ev : Int32) (hI : hr_CI S) : hr_Mv l E yX3_tell (Cond.code yX3_tell cX3_tell 6 none :: hr_W) ({ frames := 3, cells := 0, slots := 0, locals := 82 } : Room) [.ref (hr_ad E 0 0), .int (nI r9), .int (nI x9), .int ev] S o (fun u => u = cl_tell S r9 x9 ev) := by
  refine hr_of (by decide) (Nat.le_of_ble_eq_true rfl) (fun p e s m below meth c C hr => ?_)
  refine hr_aload_n C dX3_tell_0 rfl 0 rfl ?_
  refine hr_get (k := 0) (i := 0) (fld := 1) C (by decide) rfl rfl (by decide) kU_X3 kF_X3_15 rfl rfl dX3_tell_1 ?_
  refine hr_iload_n C dX3_tell_4 rfl 1 rfl ?_
  refine hr_aald (k := 2) (i := 0) (t0 := 4) (k2 := 8) r9 C (by decide) rfl rfl rfl (show r9 < 8 by omega) (by decide) dX3_tell_5 ?_
  refine hr_astore C [(4, .ref (hr_ad E 8 r9)), (0, .ref (hr_ad E 0 0)), (1, .int (nI r9)), (2, .int (nI x9)), (3, .int ev)] dX3_tell_6 (by decide) rfl ?_
  refine hr_aload_n C dX3_tell_8 rfl 1 rfl ?_
  refine hr_get (k := 0) (i := 0) (fld := 3) C (by decide) rfl rfl (by decide) kU_X3 kF_X3_29 rfl rfl dX3_tell_9 ?_
  refine hr_iload_n C dX3_tell_12 rfl 2 rfl ?_
  refine hr_iload_n C dX3_tell_13 rfl 3 rfl ?_
  refine hr_ldc (v := 33685504) C dX3_tell_14 kK_X3_184 ?_
  refine hr_cVv C (ct_X1_begin l E S o 200 (by omega) (nI r9) (nI x9) 33685504) (cwV 3 C.1.2.2.2.2 (hr_gV kM_X3_68 kI_X1_begin kS_X1_begin kN_X1 kC_X1_begin) rfl rfl rfl (by decide +kernel) ⟨Nat.le_of_ble_eq_true rfl, Nat.le_of_ble_eq_true rfl⟩) (by decide) rfl rfl rfl (Nat.le_of_ble_eq_true rfl) dX3_tell_16 ⟨Nat.le_of_ble_eq_true rfl, Nat.le_of_ble_eq_true rfl⟩ (fun S2 h3 => ?_) rfl
  refine hr_st (S1 := (pk_begin S 200 (nI r9) (nI x9) 33685504)) h3 ?_
  refine hr_iload_n C dX3_tell_19 rfl 4 rfl ?_
  refine hr_if_eq C 33 dX3_tell_20 (by decide) (fun c20 => ?_) (fun c20 => ?_)
  · skip
    refine hr_iconst (v := 0) C dX3_tell_33 (by decide) ?_
    refine hr_istore C [(5, .int 0), (4, .ref (hr_ad E 8 r9)), (0, .ref (hr_ad E 0 0)), (1, .int (nI r9)), (2, .int (nI x9)), (3, .int ev)] dX3_tell_34 (by decide) rfl ?_
    have LP36 : ∀ (n d : Nat) , d ≤ 8 → 8 + 1 ≤ d + n → hr_G p l e ({ frames := 3, cells := 0, slots := 0, locals := 82 } : Room) s m #[.ref (hr_ad E 0 0), .int (nI r9), .int (nI x9), .int ev] below meth c (MQ below (va_Qv (fun u => u = cl_tell S r9 x9 ev) (fun u t => hr_P E u o t.heap) (hr_A E)) #[.ref (hr_ad E 0 0), .int (nI r9), .int (nI x9), .int ev] s 0 0 (hr_A E)) E 6 0 0 (cl_tlL S r9 x9 ev d) o [(0, .ref (hr_ad E 0 0)), (1, .int (nI r9)), (2, .int (nI x9)), (3, .int ev), (4, .ref (hr_ad E 8 r9)), (5, .int (nI d))] 36 [] := by
      intro n
      induction n with
      | zero => intro d  h1 h2; omega
      | succ n ih =>
        intro d  hv1 hv2
        refine hr_iload C dX3_tell_36 5 rfl ?_
        refine hr_bipush (v := 8) C dX3_tell_38 (by decide) ?_
        refine hr_icmp_ge C 95 dX3_tell_40 (by decide) (fun c40 => ?_) (fun c40 => ?_)
        · skip
          have c40 : 8 ≤ d := (nI_leI (a := 8) (b := d) (by omega) (by omega)).mp c40
          have c40n : ¬ d < 8 := Nat.not_lt.mpr c40
          refine hr_aload_n C dX3_tell_95 rfl 0 rfl ?_
          refine hr_get (k := 0) (i := 0) (fld := 2) C (by decide) rfl rfl (by decide) kU_X3 kF_X3_22 rfl rfl dX3_tell_96 ?_
          refine hr_aload_n C dX3_tell_99 rfl 0 rfl ?_
          refine hr_get (k := 0) (i := 0) (fld := 3) C (by decide) rfl rfl (by decide) kU_X3 kF_X3_29 rfl rfl dX3_tell_100 ?_
          refine hr_cVv C (ct_X0_launch l E (cl_tlL S r9 x9 ev d) o 200 (by omega) (CI_tlL hI hr9 hx9 d) (ai_ne (CI_tlL hI hr9 hx9 d) (by omega))) (cwV 1 C.1.2.2.2.2 (hr_gV kM_X3_75 kI_X0_launch kS_X0_launch kN_X0 kC_X0_launch) rfl rfl rfl (by decide +kernel) ⟨Nat.le_of_ble_eq_true rfl, Nat.le_of_ble_eq_true rfl⟩) (by decide) rfl rfl rfl (Nat.le_of_ble_eq_true rfl) dX3_tell_103 ⟨Nat.le_of_ble_eq_true rfl, Nat.le_of_ble_eq_true rfl⟩ (fun S5 h6 => ?_) rfl
          refine hr_st (S1 := (ai_launch (cl_tlL S r9 x9 ev d) 200)) h6 ?_
          exact hr_vret C hr dX3_tell_106 (by rw [show d = 8 by omega]; rfl)
        · skip
          have c40 : ¬ 8 ≤ d := fun h => c40 ((nI_leI (a := 8) (b := d) (by omega) (by omega)).mpr h)
          have c40n : d < 8 := Nat.not_le.mp c40
          refine hr_iload_n C dX3_tell_43 rfl 3 rfl ?_
          refine hr_if_eq C 60 dX3_tell_44 (by decide) (fun c44 => ?_) (fun c44 => ?_)
          · skip
            refine hr_aload C dX3_tell_60 4 rfl ?_
            refine hr_get (k := 8) (i := r9) (fld := 4) C (show r9 < 8 by omega) rfl rfl (by decide) kU_X2 kF_X3_188 rfl rfl dX3_tell_62 ?_
            refine hr_iload C dX3_tell_65 5 rfl ?_
            refine hr_zald (k := 13) (i := r9) d C (show r9 < 8 by omega) rfl rfl (show d < 8 by omega) (by decide) dX3_tell_67 ?_
            refine hr_if_eq C 89 dX3_tell_68 (by decide) (fun c68 => ?_) (fun c68 => ?_)
            · skip
              refine hr_iinc (v := nI (d + 1)) C [(5, .int (nI (d + 1))), (0, .ref (hr_ad E 0 0)), (1, .int (nI r9)), (2, .int (nI x9)), (3, .int ev), (4, .ref (hr_ad E 8 r9))] dX3_tell_89 5 rfl (nI_add d 1) (by decide) rfl ?_
              refine hr_goto C 36 dX3_tell_92 (by decide) ?_
              refine hr_sub [1, 2, 3, 4, 5, 0] rfl ?_
              refine hr_st (S1 := cl_tlL S r9 x9 ev (d + 1)) (by rw [cl_tlL, if_neg (by unfold cl_tlc; rw [if_pos c44]; exact not_not_intro c68)]) ?_
              exact ih (d + 1)  (by omega) (by omega)
            · skip
              refine hr_aload_n C dX3_tell_71 rfl 0 rfl ?_
              refine hr_get (k := 0) (i := 0) (fld := 3) C (by decide) rfl rfl (by decide) kU_X3 kF_X3_29 rfl rfl dX3_tell_72 ?_
              refine hr_iconst (v := 2) C dX3_tell_75 (by decide) ?_
              refine hr_iload C dX3_tell_76 5 rfl ?_
              refine hr_aload C dX3_tell_78 4 rfl ?_
              refine hr_iload C dX3_tell_80 5 rfl ?_
              refine hr_iload_n C dX3_tell_82 rfl 2 rfl ?_
              refine hr_cVi C (ct_X2_metricTold l E (cl_tlL S r9 x9 ev d) o r9 (by omega) d (by omega) (nI x9)) (cwV 2 C.1.2.2.2.2 (hr_gV kM_X3_191 kI_X2_metricTold kS_X2_metricTold kN_X2 kC_X2_metricTold) rfl rfl rfl (by decide +kernel) ⟨Nat.le_of_ble_eq_true rfl, Nat.le_of_ble_eq_true rfl⟩) (show r9 < 8 by omega) rfl rfl rfl (Nat.le_of_ble_eq_true rfl) dX3_tell_83 ⟨Nat.le_of_ble_eq_true rfl, Nat.le_of_ble_eq_true rfl⟩ (fun r7 S8 h9 => ?_) rfl
              refine hr_tp (y := tb_told (cl_tlL S r9 x9 ev d) r9 d (nI x9)) h9.1 ?_
              refine hr_st (S1 := (cl_tlL S r9 x9 ev d)) h9.2 ?_
              refine hr_cVv C (ct_X1_addEntry l E (cl_tlL S r9 x9 ev d) o 200 (by omega) (((CI_tlL hI hr9 hx9 d).2.2.2.1 200 (by decide)).2.2) (len_tlL S r9 x9 ev d) 2 (nI d) (tb_told (cl_tlL S r9 x9 ev d) r9 d (nI x9))) (cwV 3 C.1.2.2.2.2 (hr_gV kM_X3_72 kI_X1_addEntry kS_X1_addEntry kN_X1 kC_X1_addEntry) rfl rfl rfl (by decide +kernel) ⟨Nat.le_of_ble_eq_true rfl, Nat.le_of_ble_eq_true rfl⟩) (by decide) rfl rfl rfl (Nat.le_of_ble_eq_true rfl) dX3_tell_86 ⟨Nat.le_of_ble_eq_true rfl, Nat.le_of_ble_eq_true rfl⟩ (fun S11 h12 => ?_) rfl
              refine hr_st (S1 := (pk_addE (cl_tlL S r9 x9 ev d) 200 2 (nI d) (tb_told (cl_tlL S r9 x9 ev d) r9 d (nI x9)))) h12 ?_
              refine hr_iinc (v := nI (d + 1)) C [(5, .int (nI (d + 1))), (0, .ref (hr_ad E 0 0)), (1, .int (nI r9)), (2, .int (nI x9)), (3, .int ev), (4, .ref (hr_ad E 8 r9))] dX3_tell_89 5 rfl (nI_add d 1) (by decide) rfl ?_
              refine hr_goto C 36 dX3_tell_92 (by decide) ?_
              refine hr_sub [1, 2, 3, 4, 5, 0] rfl ?_
              refine hr_st (S1 := cl_tlL S r9 x9 ev (d + 1)) (by rw [cl_tlL, if_pos (by unfold cl_tlc; rw [if_pos c44]; exact c68)]) ?_
              exact ih (d + 1)  (by omega) (by omega)
          · skip
            refine hr_aload C dX3_tell_47 4 rfl ?_
            refine hr_iload C dX3_tell_49 5 rfl ?_
            refine hr_cVi C (ct_X2_has l E (cl_tlL S r9 x9 ev d) o r9 (by omega) d (by omega)) (cwV 1 C.1.2.2.2.2 (hr_gV kM_X3_185 kI_X2_has kS_X2_has kN_X2 kC_X2_has) rfl rfl rfl (by decide +kernel) ⟨Nat.le_of_ble_eq_true rfl, Nat.le_of_ble_eq_true rfl⟩) (show r9 < 8 by omega) rfl rfl rfl (Nat.le_of_ble_eq_true rfl) dX3_tell_51 ⟨Nat.le_of_ble_eq_true rfl, Nat.le_of_ble_eq_true rfl⟩ (fun r13 S14 h15 => ?_) rfl
            refine hr_tp h15.1 ?_
            refine hr_st (S1 := (cl_tlL S r9 x9 ev d)) h15.2 ?_
            refine hr_if_eq C 89 dX3_tell_54 (by decide) (fun c54 => ?_) (fun c54 => ?_)
            · skip
              have c54 := hr_bz.mp c54
              have c54 : ¬ (¬ (cl_tlL S r9 x9 ev d) 9 r9 d = -1) := c54
              refine hr_iinc (v := nI (d + 1)) C [(5, .int (nI (d + 1))), (0, .ref (hr_ad E 0 0)), (1, .int (nI r9)), (2, .int (nI x9)), (3, .int ev), (4, .ref (hr_ad E 8 r9))] dX3_tell_89 5 rfl (nI_add d 1) (by decide) rfl ?_
              refine hr_goto C 36 dX3_tell_92 (by decide) ?_
              refine hr_sub [1, 2, 3, 4, 5, 0] rfl ?_
              refine hr_st (S1 := cl_tlL S r9 x9 ev (d + 1)) (by rw [cl_tlL, if_neg (by unfold cl_tlc; rw [if_neg c44]; exact c54)]) ?_
              exact ih (d + 1)  (by omega) (by omega)
            · skip
              have c54 := hr_bn.mp c54
              have c54 : ¬ (cl_tlL S r9 x9 ev d) 9 r9 d = -1 := c54
              refine hr_goto C 71 dX3_tell_57 (by decide) ?_
              refine hr_aload_n C dX3_tell_71 rfl 0 rfl ?_
              refine hr_get (k := 0) (i := 0) (fld := 3) C (by decide) rfl rfl (by decide) kU_X3 kF_X3_29 rfl rfl dX3_tell_72 ?_
              refine hr_iconst (v := 2) C dX3_tell_75 (by decide) ?_
              refine hr_iload C dX3_tell_76 5 rfl ?_
              refine hr_aload C dX3_tell_78 4 rfl ?_
              refine hr_iload C dX3_tell_80 5 rfl ?_
              refine hr_iload_n C dX3_tell_82 rfl 2 rfl ?_
              refine hr_cVi C (ct_X2_metricTold l E (cl_tlL S r9 x9 ev d) o r9 (by omega) d (by omega) (nI x9)) (cwV 2 C.1.2.2.2.2 (hr_gV kM_X3_191 kI_X2_metricTold kS_X2_metricTold kN_X2 kC_X2_metricTold) rfl rfl rfl (by decide +kernel) ⟨Nat.le_of_ble_eq_true rfl, Nat.le_of_ble_eq_true rfl⟩) (show r9 < 8 by omega) rfl rfl rfl (Nat.le_of_ble_eq_true rfl) dX3_tell_83 ⟨Nat.le_of_ble_eq_true rfl, Nat.le_of_ble_eq_true rfl⟩ (fun r16 S17 h18 => ?_) rfl
              refine hr_tp (y := tb_told (cl_tlL S r9 x9 ev d) r9 d (nI x9)) h18.1 ?_
              refine hr_st (S1 := (cl_tlL S r9 x9 ev d)) h18.2 ?_
              refine hr_cVv C (ct_X1_addEntry l E (cl_tlL S r9 x9 ev d) o 200 (by omega) (((CI_tlL hI hr9 hx9 d).2.2.2.1 200 (by decide)).2.2) (len_tlL S r9 x9 ev d) 2 (nI d) (tb_told (cl_tlL S r9 x9 ev d) r9 d (nI x9))) (cwV 3 C.1.2.2.2.2 (hr_gV kM_X3_72 kI_X1_addEntry kS_X1_addEntry kN_X1 kC_X1_addEntry) rfl rfl rfl (by decide +kernel) ⟨Nat.le_of_ble_eq_true rfl, Nat.le_of_ble_eq_true rfl⟩) (by decide) rfl rfl rfl (Nat.le_of_ble_eq_true rfl) dX3_tell_86 ⟨Nat.le_of_ble_eq_true rfl, Nat.le_of_ble_eq_true rfl⟩ (fun S20 h21 => ?_) rfl
              refine hr_st (S1 := (pk_addE (cl_tlL S r9 x9 ev d) 200 2 (nI d) (tb_told (cl_tlL S r9 x9 ev d) r9 d (nI x9)))) h21 ?_
              refine hr_iinc (v := nI (d + 1)) C [(5, .int (nI (d + 1))), (0, .ref (hr_ad E 0 0)), (1, .int (nI r9)), (2, .int (nI x9)), (3, .int ev), (4, .ref (hr_ad E 8 r9))] dX3_tell_89 5 rfl (nI_add d 1) (by decide) rfl ?_
              refine hr_goto C 36 dX3_tell_92 (by decide) ?_
              refine hr_sub [1, 2, 3, 4, 5, 0] rfl ?_
              refine hr_st (S1 := cl_tlL S r9 x9 ev (d + 1)) (by rw [cl_tlL, if_pos (by unfold cl_tlc; rw [if_neg c44]; exact c54)]) ?_
              exact ih (d + 1)  (by omega) (by omega)
    refine hr_sub [2, 3, 4, 5, 1, 0] rfl ?_
    refine hr_st (S1 := cl_tlL S r9 x9 ev 0) (by unfold cl_tlL cl_tl1; rw [if_pos c20]) ?_
    exact LP36 (8 + 1) 0  (by omega) (by omega)
  · skip
    refine hr_aload_n C dX3_tell_23 rfl 1 rfl ?_
    refine hr_get (k := 0) (i := 0) (fld := 3) C (by decide) rfl rfl (by decide) kU_X3 kF_X3_29 rfl rfl dX3_tell_24 ?_
    refine hr_iconst (v := 2) C dX3_tell_27 (by decide) ?_
    refine hr_iload_n C dX3_tell_28 rfl 2 rfl ?_
    refine hr_iconst (v := 1) C dX3_tell_29 (by decide) ?_
    refine hr_cVv C (ct_X1_addEntry l E (pk_begin S 200 (nI r9) (nI x9) 33685504) o 200 (by omega) (((CI_begin hI (nb_nI hr9 (by decide)) (nb_nI hx9 (by decide))).2.2.2.1 200 (by decide)).2.2) (by rw [len_begin]; omega) 2 (nI r9) 1) (cwV 3 C.1.2.2.2.2 (hr_gV kM_X3_72 kI_X1_addEntry kS_X1_addEntry kN_X1 kC_X1_addEntry) rfl rfl rfl (by decide +kernel) ⟨Nat.le_of_ble_eq_true rfl, Nat.le_of_ble_eq_true rfl⟩) (by decide) rfl rfl rfl (Nat.le_of_ble_eq_true rfl) dX3_tell_30 ⟨Nat.le_of_ble_eq_true rfl, Nat.le_of_ble_eq_true rfl⟩ (fun S23 h24 => ?_) rfl
    refine hr_st (S1 := (pk_addE (pk_begin S 200 (nI r9) (nI x9) 33685504) 200 2 (nI r9) 1)) h24 ?_
    refine hr_iconst (v := 0) C dX3_tell_33 (by decide) ?_
    refine hr_istore C [(5, .int 0), (4, .ref (hr_ad E 8 r9)), (0, .ref (hr_ad E 0 0)), (1, .int (nI r9)), (2, .int (nI x9)), (3, .int ev)] dX3_tell_34 (by decide) rfl ?_
    have LP36 : ∀ (n d : Nat) , d ≤ 8 → 8 + 1 ≤ d + n → hr_G p l e ({ frames := 3, cells := 0, slots := 0, locals := 82 } : Room) s m #[.ref (hr_ad E 0 0), .int (nI r9), .int (nI x9), .int ev] below meth c (MQ below (va_Qv (fun u => u = cl_tell S r9 x9 ev) (fun u t => hr_P E u o t.heap) (hr_A E)) #[.ref (hr_ad E 0 0), .int (nI r9), .int (nI x9), .int ev] s 0 0 (hr_A E)) E 6 0 0 (cl_tlL S r9 x9 ev d) o [(0, .ref (hr_ad E 0 0)), (1, .int (nI r9)), (2, .int (nI x9)), (3, .int ev), (4, .ref (hr_ad E 8 r9)), (5, .int (nI d))] 36 [] := by
      intro n
      induction n with
      | zero => intro d  h1 h2; omega
      | succ n ih =>
        intro d  hv1 hv2
        refine hr_iload C dX3_tell_36 5 rfl ?_
        refine hr_bipush (v := 8) C dX3_tell_38 (by decide) ?_
        refine hr_icmp_ge C 95 dX3_tell_40 (by decide) (fun c40 => ?_) (fun c40 => ?_)
        · skip
          have c40 : 8 ≤ d := (nI_leI (a := 8) (b := d) (by omega) (by omega)).mp c40
          have c40n : ¬ d < 8 := Nat.not_lt.mpr c40
          refine hr_aload_n C dX3_tell_95 rfl 0 rfl ?_
          refine hr_get (k := 0) (i := 0) (fld := 2) C (by decide) rfl rfl (by decide) kU_X3 kF_X3_22 rfl rfl dX3_tell_96 ?_
          refine hr_aload_n C dX3_tell_99 rfl 0 rfl ?_
          refine hr_get (k := 0) (i := 0) (fld := 3) C (by decide) rfl rfl (by decide) kU_X3 kF_X3_29 rfl rfl dX3_tell_100 ?_
          refine hr_cVv C (ct_X0_launch l E (cl_tlL S r9 x9 ev d) o 200 (by omega) (CI_tlL hI hr9 hx9 d) (ai_ne (CI_tlL hI hr9 hx9 d) (by omega))) (cwV 1 C.1.2.2.2.2 (hr_gV kM_X3_75 kI_X0_launch kS_X0_launch kN_X0 kC_X0_launch) rfl rfl rfl (by decide +kernel) ⟨Nat.le_of_ble_eq_true rfl, Nat.le_of_ble_eq_true rfl⟩) (by decide) rfl rfl rfl (Nat.le_of_ble_eq_true rfl) dX3_tell_103 ⟨Nat.le_of_ble_eq_true rfl, Nat.le_of_ble_eq_true rfl⟩ (fun S26 h27 => ?_) rfl
          refine hr_st (S1 := (ai_launch (cl_tlL S r9 x9 ev d) 200)) h27 ?_
          exact hr_vret C hr dX3_tell_106 (by rw [show d = 8 by omega]; rfl)
        · skip
          have c40 : ¬ 8 ≤ d := fun h => c40 ((nI_leI (a := 8) (b := d) (by omega) (by omega)).mpr h)
          have c40n : d < 8 := Nat.not_le.mp c40
          refine hr_iload_n C dX3_tell_43 rfl 3 rfl ?_
          refine hr_if_eq C 60 dX3_tell_44 (by decide) (fun c44 => ?_) (fun c44 => ?_)
          · skip
            refine hr_aload C dX3_tell_60 4 rfl ?_
            refine hr_get (k := 8) (i := r9) (fld := 4) C (show r9 < 8 by omega) rfl rfl (by decide) kU_X2 kF_X3_188 rfl rfl dX3_tell_62 ?_
            refine hr_iload C dX3_tell_65 5 rfl ?_
            refine hr_zald (k := 13) (i := r9) d C (show r9 < 8 by omega) rfl rfl (show d < 8 by omega) (by decide) dX3_tell_67 ?_
            refine hr_if_eq C 89 dX3_tell_68 (by decide) (fun c68 => ?_) (fun c68 => ?_)
            · skip
              refine hr_iinc (v := nI (d + 1)) C [(5, .int (nI (d + 1))), (0, .ref (hr_ad E 0 0)), (1, .int (nI r9)), (2, .int (nI x9)), (3, .int ev), (4, .ref (hr_ad E 8 r9))] dX3_tell_89 5 rfl (nI_add d 1) (by decide) rfl ?_
              refine hr_goto C 36 dX3_tell_92 (by decide) ?_
              refine hr_sub [1, 2, 3, 4, 5, 0] rfl ?_
              refine hr_st (S1 := cl_tlL S r9 x9 ev (d + 1)) (by rw [cl_tlL, if_neg (by unfold cl_tlc; rw [if_pos c44]; exact not_not_intro c68)]) ?_
              exact ih (d + 1)  (by omega) (by omega)
            · skip
              refine hr_aload_n C dX3_tell_71 rfl 0 rfl ?_
              refine hr_get (k := 0) (i := 0) (fld := 3) C (by decide) rfl rfl (by decide) kU_X3 kF_X3_29 rfl rfl dX3_tell_72 ?_
              refine hr_iconst (v := 2) C dX3_tell_75 (by decide) ?_
              refine hr_iload C dX3_tell_76 5 rfl ?_
              refine hr_aload C dX3_tell_78 4 rfl ?_
              refine hr_iload C dX3_tell_80 5 rfl ?_
              refine hr_iload_n C dX3_tell_82 rfl 2 rfl ?_
              refine hr_cVi C (ct_X2_metricTold l E (cl_tlL S r9 x9 ev d) o r9 (by omega) d (by omega) (nI x9)) (cwV 2 C.1.2.2.2.2 (hr_gV kM_X3_191 kI_X2_metricTold kS_X2_metricTold kN_X2 kC_X2_metricTold) rfl rfl rfl (by decide +kernel) ⟨Nat.le_of_ble_eq_true rfl, Nat.le_of_ble_eq_true rfl⟩) (show r9 < 8 by omega) rfl rfl rfl (Nat.le_of_ble_eq_true rfl) dX3_tell_83 ⟨Nat.le_of_ble_eq_true rfl, Nat.le_of_ble_eq_true rfl⟩ (fun r28 S29 h30 => ?_) rfl
              refine hr_tp (y := tb_told (cl_tlL S r9 x9 ev d) r9 d (nI x9)) h30.1 ?_
              refine hr_st (S1 := (cl_tlL S r9 x9 ev d)) h30.2 ?_
              refine hr_cVv C (ct_X1_addEntry l E (cl_tlL S r9 x9 ev d) o 200 (by omega) (((CI_tlL hI hr9 hx9 d).2.2.2.1 200 (by decide)).2.2) (len_tlL S r9 x9 ev d) 2 (nI d) (tb_told (cl_tlL S r9 x9 ev d) r9 d (nI x9))) (cwV 3 C.1.2.2.2.2 (hr_gV kM_X3_72 kI_X1_addEntry kS_X1_addEntry kN_X1 kC_X1_addEntry) rfl rfl rfl (by decide +kernel) ⟨Nat.le_of_ble_eq_true rfl, Nat.le_of_ble_eq_true rfl⟩) (by decide) rfl rfl rfl (Nat.le_of_ble_eq_true rfl) dX3_tell_86 ⟨Nat.le_of_ble_eq_true rfl, Nat.le_of_ble_eq_true rfl⟩ (fun S32 h33 => ?_) rfl
              refine hr_st (S1 := (pk_addE (cl_tlL S r9 x9 ev d) 200 2 (nI d) (tb_told (cl_tlL S r9 x9 ev d) r9 d (nI x9)))) h33 ?_
              refine hr_iinc (v := nI (d + 1)) C [(5, .int (nI (d + 1))), (0, .ref (hr_ad E 0 0)), (1, .int (nI r9)), (2, .int (nI x9)), (3, .int ev), (4, .ref (hr_ad E 8 r9))] dX3_tell_89 5 rfl (nI_add d 1) (by decide) rfl ?_
              refine hr_goto C 36 dX3_tell_92 (by decide) ?_
              refine hr_sub [1, 2, 3, 4, 5, 0] rfl ?_
              refine hr_st (S1 := cl_tlL S r9 x9 ev (d + 1)) (by rw [cl_tlL, if_pos (by unfold cl_tlc; rw [if_pos c44]; exact c68)]) ?_
              exact ih (d + 1)  (by omega) (by omega)
          · skip
            refine hr_aload C dX3_tell_47 4 rfl ?_
            refine hr_iload C dX3_tell_49 5 rfl ?_
            refine hr_cVi C (ct_X2_has l E (cl_tlL S r9 x9 ev d) o r9 (by omega) d (by omega)) (cwV 1 C.1.2.2.2.2 (hr_gV kM_X3_185 kI_X2_has kS_X2_has kN_X2 kC_X2_has) rfl rfl rfl (by decide +kernel) ⟨Nat.le_of_ble_eq_true rfl, Nat.le_of_ble_eq_true rfl⟩) (show r9 < 8 by omega) rfl rfl rfl (Nat.le_of_ble_eq_true rfl) dX3_tell_51 ⟨Nat.le_of_ble_eq_true rfl, Nat.le_of_ble_eq_true rfl⟩ (fun r34 S35 h36 => ?_) rfl
            refine hr_tp h36.1 ?_
            refine hr_st (S1 := (cl_tlL S r9 x9 ev d)) h36.2 ?_
            refine hr_if_eq C 89 dX3_tell_54 (by decide) (fun c54 => ?_) (fun c54 => ?_)
            · skip
              have c54 := hr_bz.mp c54
              have c54 : ¬ (¬ (cl_tlL S r9 x9 ev d) 9 r9 d = -1) := c54
              refine hr_iinc (v := nI (d + 1)) C [(5, .int (nI (d + 1))), (0, .ref (hr_ad E 0 0)), (1, .int (nI r9)), (2, .int (nI x9)), (3, .int ev), (4, .ref (hr_ad E 8 r9))] dX3_tell_89 5 rfl (nI_add d 1) (by decide) rfl ?_
              refine hr_goto C 36 dX3_tell_92 (by decide) ?_
              refine hr_sub [1, 2, 3, 4, 5, 0] rfl ?_
              refine hr_st (S1 := cl_tlL S r9 x9 ev (d + 1)) (by rw [cl_tlL, if_neg (by unfold cl_tlc; rw [if_neg c44]; exact c54)]) ?_
              exact ih (d + 1)  (by omega) (by omega)
            · skip
              have c54 := hr_bn.mp c54
              have c54 : ¬ (cl_tlL S r9 x9 ev d) 9 r9 d = -1 := c54
              refine hr_goto C 71 dX3_tell_57 (by decide) ?_
              refine hr_aload_n C dX3_tell_71 rfl 0 rfl ?_
              refine hr_get (k := 0) (i := 0) (fld := 3) C (by decide) rfl rfl (by decide) kU_X3 kF_X3_29 rfl rfl dX3_tell_72 ?_
              refine hr_iconst (v := 2) C dX3_tell_75 (by decide) ?_
              refine hr_iload C dX3_tell_76 5 rfl ?_
              refine hr_aload C dX3_tell_78 4 rfl ?_
              refine hr_iload C dX3_tell_80 5 rfl ?_
              refine hr_iload_n C dX3_tell_82 rfl 2 rfl ?_
              refine hr_cVi C (ct_X2_metricTold l E (cl_tlL S r9 x9 ev d) o r9 (by omega) d (by omega) (nI x9)) (cwV 2 C.1.2.2.2.2 (hr_gV kM_X3_191 kI_X2_metricTold kS_X2_metricTold kN_X2 kC_X2_metricTold) rfl rfl rfl (by decide +kernel) ⟨Nat.le_of_ble_eq_true rfl, Nat.le_of_ble_eq_true rfl⟩) (show r9 < 8 by omega) rfl rfl rfl (Nat.le_of_ble_eq_true rfl) dX3_tell_83 ⟨Nat.le_of_ble_eq_true rfl, Nat.le_of_ble_eq_true rfl⟩ (fun r37 S38 h39 => ?_) rfl
              refine hr_tp (y := tb_told (cl_tlL S r9 x9 ev d) r9 d (nI x9)) h39.1 ?_
              refine hr_st (S1 := (cl_tlL S r9 x9 ev d)) h39.2 ?_
              refine hr_cVv C (ct_X1_addEntry l E (cl_tlL S r9 x9 ev d) o 200 (by omega) (((CI_tlL hI hr9 hx9 d).2.2.2.1 200 (by decide)).2.2) (len_tlL S r9 x9 ev d) 2 (nI d) (tb_told (cl_tlL S r9 x9 ev d) r9 d (nI x9))) (cwV 3 C.1.2.2.2.2 (hr_gV kM_X3_72 kI_X1_addEntry kS_X1_addEntry kN_X1 kC_X1_addEntry) rfl rfl rfl (by decide +kernel) ⟨Nat.le_of_ble_eq_true rfl, Nat.le_of_ble_eq_true rfl⟩) (by decide) rfl rfl rfl (Nat.le_of_ble_eq_true rfl) dX3_tell_86 ⟨Nat.le_of_ble_eq_true rfl, Nat.le_of_ble_eq_true rfl⟩ (fun S41 h42 => ?_) rfl
              refine hr_st (S1 := (pk_addE (cl_tlL S r9 x9 ev d) 200 2 (nI d) (tb_told (cl_tlL S r9 x9 ev d) r9 d (nI x9)))) h42 ?_
              refine hr_iinc (v := nI (d + 1)) C [(5, .int (nI (d + 1))), (0, .ref (hr_ad E 0 0)), (1, .int (nI r9)), (2, .int (nI x9)), (3, .int ev), (4, .ref (hr_ad E 8 r9))] dX3_tell_89 5 rfl (nI_add d 1) (by decide) rfl ?_
              refine hr_goto C 36 dX3_tell_92 (by decide) ?_
              refine hr_sub [1, 2, 3, 4, 5, 0] rfl ?_
              refine hr_st (S1 := cl_tlL S r9 x9 ev (d + 1)) (by rw [cl_tlL, if_pos (by unfold cl_tlc; rw [if_neg c44]; exact c54)]) ?_
              exact ih (d + 1)  (by omega) (by omega)
    refine hr_sub [2, 3, 4, 5, 1, 0] rfl ?_
    refine hr_st (S1 := cl_tlL S r9 x9 ev 0) (by unfold cl_tlL cl_tl1; rw [if_neg c20]) ?_
    exact LP36 (8 + 1) 0  (by omega) (by omega)
set_option maxHeartbeats 4000000 in
set_option maxRecDepth 100000 in
theorem ct_X3_tellInTurn (l : Launch) (E : hr_E) (S : hr_S) (o : Int64) (r9 : Nat) (hr9 : r9 < 8) (hI : hr_CI S) : hr_Mv l E yX3_tellInTurn (Cond.code yX3_tellInTurn cX3_tellInTurn 5 none :: hr_W) ({ frames := 4, cells := 0, slots := 0, locals := 107 } : Room) [.ref (hr_ad E 0 0), .int (nI r9)] S o (fun u => u = cl_turn1 S r9) := by
  refine hr_of (by decide) (Nat.le_of_ble_eq_true rfl) (fun p e s m below meth c C hr => ?_)
  refine hr_aload_n C dX3_tellInTurn_0 rfl 0 rfl ?_
  refine hr_get (k := 0) (i := 0) (fld := 1) C (by decide) rfl rfl (by decide) kU_X3 kF_X3_15 rfl rfl dX3_tellInTurn_1 ?_
  refine hr_iload_n C dX3_tellInTurn_4 rfl 1 rfl ?_
  refine hr_aald (k := 2) (i := 0) (t0 := 4) (k2 := 8) r9 C (by decide) rfl rfl rfl (show r9 < 8 by omega) (by decide) dX3_tellInTurn_5 ?_
  refine hr_astore_n C [(2, .ref (hr_ad E 8 r9)), (0, .ref (hr_ad E 0 0)), (1, .int (nI r9))] dX3_tellInTurn_6 rfl (by decide) rfl ?_
  refine hr_aload_n C dX3_tellInTurn_7 rfl 1 rfl ?_
  refine hr_get (k := 0) (i := 0) (fld := 5) C (by decide) rfl rfl (by decide) kU_X3 kF_X3_153 rfl rfl dX3_tellInTurn_8 ?_
  refine hr_iload_n C dX3_tellInTurn_11 rfl 2 rfl ?_
  refine hr_iadd C dX3_tellInTurn_12 rfl ?_
  refine hr_bipush (v := 10) C dX3_tellInTurn_13 (by decide) ?_
  refine hr_irem C dX3_tellInTurn_15 (by decide) rfl ?_
  refine hr_if_ne C 23 dX3_tellInTurn_16 (by decide) (fun c16 => ?_) (fun c16 => ?_)
  · skip
    refine hr_iconst (v := 0) C dX3_tellInTurn_23 (by decide) ?_
    refine hr_istore_n C [(3, .int 0), (2, .ref (hr_ad E 8 r9)), (0, .ref (hr_ad E 0 0)), (1, .int (nI r9))] dX3_tellInTurn_24 rfl (by decide) rfl ?_
    refine hr_iload_n C dX3_tellInTurn_25 rfl 0 rfl ?_
    refine hr_if_ne C 37 dX3_tellInTurn_26 (by decide) (fun c26 => ?_) (fun c26 => ?_)
    · skip
      exact absurd c26 (by decide)
    · skip
      have c26 : 0 = 0 := (nI_eq (a := 0) (b := 0) (by omega) (by omega)).mp c26
      refine hr_aload_n C dX3_tellInTurn_29 rfl 1 rfl ?_
      refine hr_cVi C (ct_X2_hasChanges l E S o r9 (by omega)) (cwV 0 C.1.2.2.2.2 (hr_gV kM_X3_173 kI_X2_hasChanges kS_X2_hasChanges kN_X2 kC_X2_hasChanges) rfl rfl rfl (by decide +kernel) ⟨Nat.le_of_ble_eq_true rfl, Nat.le_of_ble_eq_true rfl⟩) (show r9 < 8 by omega) rfl rfl rfl (Nat.le_of_ble_eq_true rfl) dX3_tellInTurn_30 ⟨Nat.le_of_ble_eq_true rfl, Nat.le_of_ble_eq_true rfl⟩ (fun r1 S2 h3 => ?_) rfl
      refine hr_tp h3.1 ?_
      refine hr_st (S1 := S) h3.2 ?_
      refine hr_if_ne C 37 dX3_tellInTurn_33 (by decide) (fun c33 => ?_) (fun c33 => ?_)
      · skip
        have c33 := hr_bn.mp c33
        have c33 : tb_any S r9 8 = true := c33
        refine hr_iconst (v := 0) C dX3_tellInTurn_37 (by decide) ?_
        refine hr_istore C [(4, .int 0), (3, .int 0), (2, .ref (hr_ad E 8 r9)), (0, .ref (hr_ad E 0 0)), (1, .int (nI r9))] dX3_tellInTurn_38 (by decide) rfl ?_
        have LP40 : ∀ (n x9 : Nat) , x9 ≤ 8 → 8 + 1 ≤ x9 + n → hr_G p l e ({ frames := 4, cells := 0, slots := 0, locals := 107 } : Room) s m #[.ref (hr_ad E 0 0), .int (nI r9)] below meth c (MQ below (va_Qv (fun u => u = cl_turn1 S r9) (fun u t => hr_P E u o t.heap) (hr_A E)) #[.ref (hr_ad E 0 0), .int (nI r9)] s 0 0 (hr_A E)) E 5 0 0 (cl_tt S r9 0 x9) o [(0, .ref (hr_ad E 0 0)), (1, .int (nI r9)), (2, .ref (hr_ad E 8 r9)), (3, .int 0), (4, .int (nI x9))] 40 [] := by
          intro n
          induction n with
          | zero => intro x9  h1 h2; omega
          | succ n ih =>
            intro x9  hv1 hv2
            refine hr_iload C dX3_tellInTurn_40 4 rfl ?_
            refine hr_bipush (v := 8) C dX3_tellInTurn_42 (by decide) ?_
            refine hr_icmp_ge C 71 dX3_tellInTurn_44 (by decide) (fun c44 => ?_) (fun c44 => ?_)
            · skip
              have c44 : 8 ≤ x9 := (nI_leI (a := 8) (b := x9) (by omega) (by omega)).mp c44
              have c44n : ¬ x9 < 8 := Nat.not_lt.mpr c44
              refine hr_aload_n C dX3_tellInTurn_71 rfl 2 rfl ?_
              refine hr_cVv C (ct_X2_clearChanges l E (cl_tt S r9 0 x9) o r9 (by omega)) (cwV 0 C.1.2.2.2.2 (hr_gV kM_X3_181 kI_X2_clearChanges kS_X2_clearChanges kN_X2 kC_X2_clearChanges) rfl rfl rfl (by decide +kernel) ⟨Nat.le_of_ble_eq_true rfl, Nat.le_of_ble_eq_true rfl⟩) (show r9 < 8 by omega) rfl rfl rfl (Nat.le_of_ble_eq_true rfl) dX3_tellInTurn_72 ⟨Nat.le_of_ble_eq_true rfl, Nat.le_of_ble_eq_true rfl⟩ (fun S5 h6 => ?_) rfl
              refine hr_st (S1 := (tb_clr (cl_tt S r9 0 x9) r9 8)) h6 ?_
              exact hr_vret C hr dX3_tellInTurn_75 (by unfold cl_turn1; rw [if_neg (show ¬ cl_ten S r9 = 0 from c16), if_pos c33, show x9 = 8 by omega])
            · skip
              have c44 : ¬ 8 ≤ x9 := fun h => c44 ((nI_leI (a := 8) (b := x9) (by omega) (by omega)).mpr h)
              have c44n : x9 < 8 := Nat.not_le.mp c44
              refine hr_aload_n C dX3_tellInTurn_47 rfl 0 rfl ?_
              refine hr_iload_n C dX3_tellInTurn_48 rfl 1 rfl ?_
              refine hr_iload C dX3_tellInTurn_49 4 rfl ?_
              refine hr_cVi C (ct_X3_isUp l E (cl_tt S r9 0 x9) o r9 x9 (by omega) (by omega) ((CI_tt hI hr9 x9 (by omega)).2.2.2.2.2 _ (by omega))) (cwV 2 C.1.2.2.2.2 (hr_gV kM_X3_41 kI_X3_isUp kS_X3_isUp kN_X3 kC_X3_isUp) rfl rfl rfl (by decide +kernel) ⟨Nat.le_of_ble_eq_true rfl, Nat.le_of_ble_eq_true rfl⟩) (by decide) rfl rfl rfl (Nat.le_of_ble_eq_true rfl) dX3_tellInTurn_51 ⟨Nat.le_of_ble_eq_true rfl, Nat.le_of_ble_eq_true rfl⟩ (fun r7 S8 h9 => ?_) rfl
              refine hr_tp h9.1 ?_
              refine hr_st (S1 := (cl_tt S r9 0 x9)) h9.2 ?_
              refine hr_if_eq C 65 dX3_tellInTurn_54 (by decide) (fun c54 => ?_) (fun c54 => ?_)
              · skip
                have c54 := hr_bz.mp c54
                have c54 : ¬ (¬ (cl_tt S r9 0 x9) 1 0 (r9 * 8 + x9) = 0) := c54
                refine hr_iinc (v := nI (x9 + 1)) C [(4, .int (nI (x9 + 1))), (0, .ref (hr_ad E 0 0)), (1, .int (nI r9)), (2, .ref (hr_ad E 8 r9)), (3, .int 0)] dX3_tellInTurn_65 4 rfl (nI_add x9 1) (by decide) rfl ?_
                refine hr_goto C 40 dX3_tellInTurn_68 (by decide) ?_
                refine hr_sub [1, 2, 3, 4, 0] rfl ?_
                refine hr_st (S1 := cl_tt S r9 0 (x9 + 1)) (by rw [cl_tt, if_neg c54]) ?_
                exact ih (x9 + 1)  (by omega) (by omega)
              · skip
                have c54 := hr_bn.mp c54
                have c54 : ¬ (cl_tt S r9 0 x9) 1 0 (r9 * 8 + x9) = 0 := c54
                refine hr_aload_n C dX3_tellInTurn_57 rfl 0 rfl ?_
                refine hr_iload_n C dX3_tellInTurn_58 rfl 1 rfl ?_
                refine hr_iload C dX3_tellInTurn_59 4 rfl ?_
                refine hr_iload_n C dX3_tellInTurn_61 rfl 3 rfl ?_
                refine hr_cVv C (ct_X3_tell l E (cl_tt S r9 0 x9) o r9 x9 (by omega) (by omega) 0 (CI_tt hI hr9 x9 (by omega))) (cwV 3 C.1.2.2.2.2 (hr_gV kM_X3_177 kI_X3_tell kS_X3_tell kN_X3 kC_X3_tell) rfl rfl rfl (by decide +kernel) ⟨Nat.le_of_ble_eq_true rfl, Nat.le_of_ble_eq_true rfl⟩) (by decide) rfl rfl rfl (Nat.le_of_ble_eq_true rfl) dX3_tellInTurn_62 ⟨Nat.le_of_ble_eq_true rfl, Nat.le_of_ble_eq_true rfl⟩ (fun S11 h12 => ?_) rfl
                refine hr_st (S1 := (cl_tell (cl_tt S r9 0 x9) r9 x9 0)) h12 ?_
                refine hr_iinc (v := nI (x9 + 1)) C [(4, .int (nI (x9 + 1))), (0, .ref (hr_ad E 0 0)), (1, .int (nI r9)), (2, .ref (hr_ad E 8 r9)), (3, .int 0)] dX3_tellInTurn_65 4 rfl (nI_add x9 1) (by decide) rfl ?_
                refine hr_goto C 40 dX3_tellInTurn_68 (by decide) ?_
                refine hr_sub [1, 2, 3, 4, 0] rfl ?_
                refine hr_st (S1 := cl_tt S r9 0 (x9 + 1)) (by rw [cl_tt, if_pos c54]) ?_
                exact ih (x9 + 1)  (by omega) (by omega)
        refine hr_sub [3, 4, 2, 1, 0] rfl ?_
        refine hr_st (S1 := cl_tt S r9 0 0) rfl ?_
        exact LP40 (8 + 1) 0  (by omega) (by omega)
      · skip
        have c33 := hr_bz.mp c33
        have c33 : ¬ (tb_any S r9 8 = true) := c33
        exact hr_vret C hr dX3_tellInTurn_36 (by unfold cl_turn1; rw [if_neg (show ¬ cl_ten S r9 = 0 from c16), if_neg c33])
  · skip
    refine hr_iconst (v := 1) C dX3_tellInTurn_19 (by decide) ?_
    refine hr_goto C 24 dX3_tellInTurn_20 (by decide) ?_
    refine hr_istore_n C [(3, .int 1), (2, .ref (hr_ad E 8 r9)), (0, .ref (hr_ad E 0 0)), (1, .int (nI r9))] dX3_tellInTurn_24 rfl (by decide) rfl ?_
    refine hr_iload_n C dX3_tellInTurn_25 rfl 0 rfl ?_
    refine hr_if_ne C 37 dX3_tellInTurn_26 (by decide) (fun c26 => ?_) (fun c26 => ?_)
    · skip
      have c26 : ¬ 1 = 0 := fun h => c26 ((nI_eq (a := 1) (b := 0) (by omega) (by omega)).mpr h)
      refine hr_iconst (v := 0) C dX3_tellInTurn_37 (by decide) ?_
      refine hr_istore C [(4, .int 0), (3, .int 1), (2, .ref (hr_ad E 8 r9)), (0, .ref (hr_ad E 0 0)), (1, .int (nI r9))] dX3_tellInTurn_38 (by decide) rfl ?_
      have LP40 : ∀ (n x9 : Nat) , x9 ≤ 8 → 8 + 1 ≤ x9 + n → hr_G p l e ({ frames := 4, cells := 0, slots := 0, locals := 107 } : Room) s m #[.ref (hr_ad E 0 0), .int (nI r9)] below meth c (MQ below (va_Qv (fun u => u = cl_turn1 S r9) (fun u t => hr_P E u o t.heap) (hr_A E)) #[.ref (hr_ad E 0 0), .int (nI r9)] s 0 0 (hr_A E)) E 5 0 0 (cl_tt S r9 1 x9) o [(0, .ref (hr_ad E 0 0)), (1, .int (nI r9)), (2, .ref (hr_ad E 8 r9)), (3, .int 1), (4, .int (nI x9))] 40 [] := by
        intro n
        induction n with
        | zero => intro x9  h1 h2; omega
        | succ n ih =>
          intro x9  hv1 hv2
          refine hr_iload C dX3_tellInTurn_40 4 rfl ?_
          refine hr_bipush (v := 8) C dX3_tellInTurn_42 (by decide) ?_
          refine hr_icmp_ge C 71 dX3_tellInTurn_44 (by decide) (fun c44 => ?_) (fun c44 => ?_)
          · skip
            have c44 : 8 ≤ x9 := (nI_leI (a := 8) (b := x9) (by omega) (by omega)).mp c44
            have c44n : ¬ x9 < 8 := Nat.not_lt.mpr c44
            refine hr_aload_n C dX3_tellInTurn_71 rfl 2 rfl ?_
            refine hr_cVv C (ct_X2_clearChanges l E (cl_tt S r9 1 x9) o r9 (by omega)) (cwV 0 C.1.2.2.2.2 (hr_gV kM_X3_181 kI_X2_clearChanges kS_X2_clearChanges kN_X2 kC_X2_clearChanges) rfl rfl rfl (by decide +kernel) ⟨Nat.le_of_ble_eq_true rfl, Nat.le_of_ble_eq_true rfl⟩) (show r9 < 8 by omega) rfl rfl rfl (Nat.le_of_ble_eq_true rfl) dX3_tellInTurn_72 ⟨Nat.le_of_ble_eq_true rfl, Nat.le_of_ble_eq_true rfl⟩ (fun S14 h15 => ?_) rfl
            refine hr_st (S1 := (tb_clr (cl_tt S r9 1 x9) r9 8)) h15 ?_
            exact hr_vret C hr dX3_tellInTurn_75 (by unfold cl_turn1; rw [if_pos (show cl_ten S r9 = 0 from c16), show x9 = 8 by omega])
          · skip
            have c44 : ¬ 8 ≤ x9 := fun h => c44 ((nI_leI (a := 8) (b := x9) (by omega) (by omega)).mpr h)
            have c44n : x9 < 8 := Nat.not_le.mp c44
            refine hr_aload_n C dX3_tellInTurn_47 rfl 0 rfl ?_
            refine hr_iload_n C dX3_tellInTurn_48 rfl 1 rfl ?_
            refine hr_iload C dX3_tellInTurn_49 4 rfl ?_
            refine hr_cVi C (ct_X3_isUp l E (cl_tt S r9 1 x9) o r9 x9 (by omega) (by omega) ((CI_tt hI hr9 x9 (by omega)).2.2.2.2.2 _ (by omega))) (cwV 2 C.1.2.2.2.2 (hr_gV kM_X3_41 kI_X3_isUp kS_X3_isUp kN_X3 kC_X3_isUp) rfl rfl rfl (by decide +kernel) ⟨Nat.le_of_ble_eq_true rfl, Nat.le_of_ble_eq_true rfl⟩) (by decide) rfl rfl rfl (Nat.le_of_ble_eq_true rfl) dX3_tellInTurn_51 ⟨Nat.le_of_ble_eq_true rfl, Nat.le_of_ble_eq_true rfl⟩ (fun r16 S17 h18 => ?_) rfl
            refine hr_tp h18.1 ?_
            refine hr_st (S1 := (cl_tt S r9 1 x9)) h18.2 ?_
            refine hr_if_eq C 65 dX3_tellInTurn_54 (by decide) (fun c54 => ?_) (fun c54 => ?_)
            · skip
              have c54 := hr_bz.mp c54
              have c54 : ¬ (¬ (cl_tt S r9 1 x9) 1 0 (r9 * 8 + x9) = 0) := c54
              refine hr_iinc (v := nI (x9 + 1)) C [(4, .int (nI (x9 + 1))), (0, .ref (hr_ad E 0 0)), (1, .int (nI r9)), (2, .ref (hr_ad E 8 r9)), (3, .int 1)] dX3_tellInTurn_65 4 rfl (nI_add x9 1) (by decide) rfl ?_
              refine hr_goto C 40 dX3_tellInTurn_68 (by decide) ?_
              refine hr_sub [1, 2, 3, 4, 0] rfl ?_
              refine hr_st (S1 := cl_tt S r9 1 (x9 + 1)) (by rw [cl_tt, if_neg c54]) ?_
              exact ih (x9 + 1)  (by omega) (by omega)
            · skip
              have c54 := hr_bn.mp c54
              have c54 : ¬ (cl_tt S r9 1 x9) 1 0 (r9 * 8 + x9) = 0 := c54
              refine hr_aload_n C dX3_tellInTurn_57 rfl 0 rfl ?_
              refine hr_iload_n C dX3_tellInTurn_58 rfl 1 rfl ?_
              refine hr_iload C dX3_tellInTurn_59 4 rfl ?_
              refine hr_iload_n C dX3_tellInTurn_61 rfl 3 rfl ?_
              refine hr_cVv C (ct_X3_tell l E (cl_tt S r9 1 x9) o r9 x9 (by omega) (by omega) 1 (CI_tt hI hr9 x9 (by omega))) (cwV 3 C.1.2.2.2.2 (hr_gV kM_X3_177 kI_X3_tell kS_X3_tell kN_X3 kC_X3_tell) rfl rfl rfl (by decide +kernel) ⟨Nat.le_of_ble_eq_true rfl, Nat.le_of_ble_eq_true rfl⟩) (by decide) rfl rfl rfl (Nat.le_of_ble_eq_true rfl) dX3_tellInTurn_62 ⟨Nat.le_of_ble_eq_true rfl, Nat.le_of_ble_eq_true rfl⟩ (fun S20 h21 => ?_) rfl
              refine hr_st (S1 := (cl_tell (cl_tt S r9 1 x9) r9 x9 1)) h21 ?_
              refine hr_iinc (v := nI (x9 + 1)) C [(4, .int (nI (x9 + 1))), (0, .ref (hr_ad E 0 0)), (1, .int (nI r9)), (2, .ref (hr_ad E 8 r9)), (3, .int 1)] dX3_tellInTurn_65 4 rfl (nI_add x9 1) (by decide) rfl ?_
              refine hr_goto C 40 dX3_tellInTurn_68 (by decide) ?_
              refine hr_sub [1, 2, 3, 4, 0] rfl ?_
              refine hr_st (S1 := cl_tt S r9 1 (x9 + 1)) (by rw [cl_tt, if_pos c54]) ?_
              exact ih (x9 + 1)  (by omega) (by omega)
      refine hr_sub [3, 4, 2, 1, 0] rfl ?_
      refine hr_st (S1 := cl_tt S r9 1 0) rfl ?_
      exact LP40 (8 + 1) 0  (by omega) (by omega)
    · skip
      exact absurd c26 (by decide)
set_option maxHeartbeats 4000000 in
set_option maxRecDepth 100000 in
theorem ct_X3_passTime (l : Launch) (E : hr_E) (S : hr_S) (o : Int64) (hI : hr_CI S) : hr_Mv l E yX3_passTime (Cond.code yX3_passTime cX3_passTime 2 none :: hr_W) ({ frames := 5, cells := 0, slots := 0, locals := 131 } : Room) [.ref (hr_ad E 0 0)] S o (fun u => u = cl_pass S) := by
  refine hr_of (by decide) (Nat.le_of_ble_eq_true rfl) (fun p e s m below meth c C hr => ?_)
  refine hr_aload_n C dX3_passTime_0 rfl 0 rfl ?_
  refine hr_dup C dX3_passTime_1 rfl ?_
  refine hr_get (k := 0) (i := 0) (fld := 5) C (by decide) rfl rfl (by decide) kU_X3 kF_X3_153 rfl rfl dX3_passTime_2 ?_
  refine hr_iconst (v := 1) C dX3_passTime_5 (by decide) ?_
  refine hr_iadd C dX3_passTime_6 rfl ?_
  refine hr_put (k := 0) (i := 0) (fld := 5) C (by decide) rfl rfl (by decide) kU_X3 kF_X3_153 rfl tyX3 tyX3_ok nmX3 rfl (by decide +kernel) (Nat.le_of_ble_eq_true rfl) (by simp [hr_cell, hr_w, hr_wA, upd]) rfl dX3_passTime_7 ?_
  refine hr_iconst (v := 0) C dX3_passTime_10 (by decide) ?_
  refine hr_istore_n C [(1, .int 0), (0, .ref (hr_ad E 0 0))] dX3_passTime_11 rfl (by decide) rfl ?_
  have LP12 : ∀ (n r9 : Nat) , r9 ≤ 8 → 8 + 1 ≤ r9 + n → hr_G p l e ({ frames := 5, cells := 0, slots := 0, locals := 131 } : Room) s m #[.ref (hr_ad E 0 0)] below meth c (MQ below (va_Qv (fun u => u = cl_pass S) (fun u t => hr_P E u o t.heap) (hr_A E)) #[.ref (hr_ad E 0 0)] s 0 0 (hr_A E)) E 2 0 0 (cl_g (hr_w S 0 0 5 ((S 0 0 5) + 1)) r9) o [(0, .ref (hr_ad E 0 0)), (1, .int (nI r9))] 12 [] := by
    intro n
    induction n with
    | zero => intro r9  h1 h2; omega
    | succ n ih =>
      intro r9  hv1 hv2
      refine hr_iload_n C dX3_passTime_12 rfl 1 rfl ?_
      refine hr_bipush (v := 8) C dX3_passTime_13 (by decide) ?_
      refine hr_icmp_ge C 33 dX3_passTime_15 (by decide) (fun c15 => ?_) (fun c15 => ?_)
      · skip
        have c15 : 8 ≤ r9 := (nI_leI (a := 8) (b := r9) (by omega) (by omega)).mp c15
        have c15n : ¬ r9 < 8 := Nat.not_lt.mpr c15
        refine hr_iconst (v := 0) C dX3_passTime_33 (by decide) ?_
        refine hr_istore_n C [(1, .int 0), (0, .ref (hr_ad E 0 0))] dX3_passTime_34 rfl (by decide) rfl ?_
        have LP35 : ∀ (n r9 : Nat) , r9 ≤ 8 → 8 + 1 ≤ r9 + n → hr_G p l e ({ frames := 5, cells := 0, slots := 0, locals := 131 } : Room) s m #[.ref (hr_ad E 0 0)] below meth c (MQ below (va_Qv (fun u => u = cl_pass S) (fun u t => hr_P E u o t.heap) (hr_A E)) #[.ref (hr_ad E 0 0)] s 0 0 (hr_A E)) E 2 0 0 (cl_t (cl_g (hr_w S 0 0 5 ((S 0 0 5) + 1)) 8) r9) o [(0, .ref (hr_ad E 0 0)), (1, .int (nI r9))] 35 [] := by
          intro n
          induction n with
          | zero => intro r9  h1 h2; omega
          | succ n ih =>
            intro r9  hv1 hv2
            refine hr_iload_n C dX3_passTime_35 rfl 1 rfl ?_
            refine hr_bipush (v := 8) C dX3_passTime_36 (by decide) ?_
            refine hr_icmp_ge C 52 dX3_passTime_38 (by decide) (fun c38 => ?_) (fun c38 => ?_)
            · skip
              have c38 : 8 ≤ r9 := (nI_leI (a := 8) (b := r9) (by omega) (by omega)).mp c38
              have c38n : ¬ r9 < 8 := Nat.not_lt.mpr c38
              exact hr_vret C hr dX3_passTime_52 (by rw [show r9 = 8 by omega]; rfl)
            · skip
              have c38 : ¬ 8 ≤ r9 := fun h => c38 ((nI_leI (a := 8) (b := r9) (by omega) (by omega)).mpr h)
              have c38n : r9 < 8 := Nat.not_le.mp c38
              refine hr_aload_n C dX3_passTime_41 rfl 0 rfl ?_
              refine hr_iload_n C dX3_passTime_42 rfl 1 rfl ?_
              refine hr_cVv C (ct_X3_tellInTurn l E (cl_t (cl_g (hr_w S 0 0 5 ((S 0 0 5) + 1)) 8) r9) o r9 (by omega) (CI_t (CI_g (CI_tm hI) 8) r9 (by omega))) (cwV 1 C.1.2.2.2.2 (hr_gV kM_X3_170 kI_X3_tellInTurn kS_X3_tellInTurn kN_X3 kC_X3_tellInTurn) rfl rfl rfl (by decide +kernel) ⟨Nat.le_of_ble_eq_true rfl, Nat.le_of_ble_eq_true rfl⟩) (by decide) rfl rfl rfl (Nat.le_of_ble_eq_true rfl) dX3_passTime_43 ⟨Nat.le_of_ble_eq_true rfl, Nat.le_of_ble_eq_true rfl⟩ (fun S2 h3 => ?_) rfl
              refine hr_st (S1 := (cl_turn1 (cl_t (cl_g (hr_w S 0 0 5 ((S 0 0 5) + 1)) 8) r9) r9)) h3 ?_
              refine hr_iinc (v := nI (r9 + 1)) C [(1, .int (nI (r9 + 1))), (0, .ref (hr_ad E 0 0))] dX3_passTime_46 1 rfl (nI_add r9 1) (by decide) rfl ?_
              refine hr_goto C 35 dX3_passTime_49 (by decide) ?_
              refine hr_sub [1, 0] rfl ?_
              refine hr_st (S1 := cl_t (cl_g (hr_w S 0 0 5 ((S 0 0 5) + 1)) 8) (r9 + 1)) rfl ?_
              exact ih (r9 + 1)  (by omega) (by omega)
        refine hr_sub [1, 0] rfl ?_
        refine hr_st (S1 := cl_t (cl_g (hr_w S 0 0 5 ((S 0 0 5) + 1)) 8) 0) (by rw [show r9 = 8 by omega]; rfl) ?_
        exact LP35 (8 + 1) 0  (by omega) (by omega)
      · skip
        have c15 : ¬ 8 ≤ r9 := fun h => c15 ((nI_leI (a := 8) (b := r9) (by omega) (by omega)).mpr h)
        have c15n : r9 < 8 := Nat.not_le.mp c15
        refine hr_aload_n C dX3_passTime_18 rfl 0 rfl ?_
        refine hr_get (k := 0) (i := 0) (fld := 1) C (by decide) rfl rfl (by decide) kU_X3 kF_X3_15 rfl rfl dX3_passTime_19 ?_
        refine hr_iload_n C dX3_passTime_22 rfl 1 rfl ?_
        refine hr_aald (k := 2) (i := 0) (t0 := 4) (k2 := 8) r9 C (by decide) rfl rfl rfl (show r9 < 8 by omega) (by decide) dX3_passTime_23 ?_
        refine hr_cVv C (ct_X2_growOlder l E (cl_g (hr_w S 0 0 5 ((S 0 0 5) + 1)) r9) o r9 (by omega)) (cwV 0 C.1.2.2.2.2 (hr_gV kM_X3_167 kI_X2_growOlder kS_X2_growOlder kN_X2 kC_X2_growOlder) rfl rfl rfl (by decide +kernel) ⟨Nat.le_of_ble_eq_true rfl, Nat.le_of_ble_eq_true rfl⟩) (show r9 < 8 by omega) rfl rfl rfl (Nat.le_of_ble_eq_true rfl) dX3_passTime_24 ⟨Nat.le_of_ble_eq_true rfl, Nat.le_of_ble_eq_true rfl⟩ (fun S5 h6 => ?_) rfl
        refine hr_st (S1 := (tb_grow (cl_g (hr_w S 0 0 5 ((S 0 0 5) + 1)) r9) r9 8)) h6 ?_
        refine hr_iinc (v := nI (r9 + 1)) C [(1, .int (nI (r9 + 1))), (0, .ref (hr_ad E 0 0))] dX3_passTime_27 1 rfl (nI_add r9 1) (by decide) rfl ?_
        refine hr_goto C 12 dX3_passTime_30 (by decide) ?_
        refine hr_sub [1, 0] rfl ?_
        refine hr_st (S1 := cl_g (hr_w S 0 0 5 ((S 0 0 5) + 1)) (r9 + 1)) rfl ?_
        exact ih (r9 + 1)  (by omega) (by omega)
  refine hr_sub [1, 0] rfl ?_
  refine hr_st (S1 := cl_g (hr_w S 0 0 5 ((S 0 0 5) + 1)) 0) rfl ?_
  exact LP12 (8 + 1) 0  (by omega) (by omega)
set_option maxHeartbeats 4000000 in
set_option maxRecDepth 100000 in
theorem ct_X3_hearResponse (l : Launch) (E : hr_E) (S : hr_S) (o : Int64) (hI : hr_CI S) (hs : 24 ≤ un (S 6 201 2)) : hr_Mv l E yX3_hearResponse (Cond.code yX3_hearResponse cX3_hearResponse 5 none :: hr_W) ({ frames := 3, cells := 0, slots := 0, locals := 66 } : Room) [.ref (hr_ad E 0 0)] S o (fun u => u = cl_hr S) := by
  refine hr_of (by decide) (Nat.le_of_ble_eq_true rfl) (fun p e s m below meth c C hr => ?_)
  have hL5 := (hI.2.2.2.1 201 (by decide)).2.2.2
  have hr5 := (hI.2.2.2.1 201 (by decide)).2.1.2
  refine hr_aload_n C dX3_hearResponse_0 rfl 0 rfl ?_
  refine hr_get (k := 0) (i := 0) (fld := 1) C (by decide) rfl rfl (by decide) kU_X3 kF_X3_15 rfl rfl dX3_hearResponse_1 ?_
  refine hr_aload_n C dX3_hearResponse_4 rfl 0 rfl ?_
  refine hr_get (k := 0) (i := 0) (fld := 4) C (by decide) rfl rfl (by decide) kU_X3 kF_X3_33 rfl rfl dX3_hearResponse_5 ?_
  refine hr_get (k := 6) (i := 201) (fld := 1) C (by decide) rfl rfl (by decide) kU_X1 kF_X3_128 rfl rfl dX3_hearResponse_8 ?_
  refine hr_tp (y := nI (un (S 6 201 1))) (hI.2.2.2.1 201 (by decide)).2.1.1 ?_
  refine hr_aald (k := 2) (i := 0) (t0 := 4) (k2 := 8) (un (S 6 201 1)) C (by decide) rfl rfl rfl (hI.2.2.2.1 201 (by decide)).2.1.2 (by decide) dX3_hearResponse_11 ?_
  refine hr_astore_n C [(1, .ref (hr_ad E 8 (un (S 6 201 1)))), (0, .ref (hr_ad E 0 0))] dX3_hearResponse_12 rfl (by decide) rfl ?_
  refine hr_aload_n C dX3_hearResponse_13 rfl 1 rfl ?_
  refine hr_get (k := 0) (i := 0) (fld := 4) C (by decide) rfl rfl (by decide) kU_X3 kF_X3_33 rfl rfl dX3_hearResponse_14 ?_
  refine hr_cVi C (ct_X1_entries l E S o 201 (by omega) (un (S 6 201 2)) ((hI.2.2.2.1 201 (by decide)).2.2.1) (by omega) (by omega)) (cwV 0 C.1.2.2.2.2 (hr_gV kM_X3_209 kI_X1_entries kS_X1_entries kN_X1 kC_X1_entries) rfl rfl rfl (by decide +kernel) ⟨Nat.le_of_ble_eq_true rfl, Nat.le_of_ble_eq_true rfl⟩) (by decide) rfl rfl rfl (Nat.le_of_ble_eq_true rfl) dX3_hearResponse_17 ⟨Nat.le_of_ble_eq_true rfl, Nat.le_of_ble_eq_true rfl⟩ (fun r1 S2 h3 => ?_) rfl
  refine hr_tp (y := nI (((un (S 6 201 2)) - 4) / 20)) h3.1 ?_
  refine hr_st (S1 := S) h3.2 ?_
  refine hr_istore_n C [(2, .int (nI (((un (S 6 201 2)) - 4) / 20))), (1, .ref (hr_ad E 8 (un (S 6 201 1)))), (0, .ref (hr_ad E 0 0))] dX3_hearResponse_20 rfl (by decide) rfl ?_
  refine hr_iconst (v := 0) C dX3_hearResponse_21 (by decide) ?_
  refine hr_istore_n C [(3, .int 0), (2, .int (nI (((un (S 6 201 2)) - 4) / 20))), (1, .ref (hr_ad E 8 (un (S 6 201 1)))), (0, .ref (hr_ad E 0 0))] dX3_hearResponse_22 rfl (by decide) rfl ?_
  have LP23 : ∀ (n e9 : Nat) , e9 ≤ ((un (S 6 201 2) - 4) / 20) → ((un (S 6 201 2) - 4) / 20) + 1 ≤ e9 + n → hr_G p l e ({ frames := 3, cells := 0, slots := 0, locals := 66 } : Room) s m #[.ref (hr_ad E 0 0)] below meth c (MQ below (va_Qv (fun u => u = cl_hr S) (fun u t => hr_P E u o t.heap) (hr_A E)) #[.ref (hr_ad E 0 0)] s 0 0 (hr_A E)) E 5 0 0 (cl_hrL S (un (S 6 201 1)) e9) o [(0, .ref (hr_ad E 0 0)), (1, .ref (hr_ad E 8 (un (S 6 201 1)))), (2, .int (nI ((un (S 6 201 2) - 4) / 20))), (3, .int (nI e9))] 23 [] := by
    intro n
    induction n with
    | zero => intro e9  h1 h2; omega
    | succ n ih =>
      intro e9  hv1 hv2
      refine hr_iload_n C dX3_hearResponse_23 rfl 3 rfl ?_
      refine hr_iload_n C dX3_hearResponse_24 rfl 2 rfl ?_
      refine hr_icmp_ge C 88 dX3_hearResponse_25 (by decide) (fun c25 => ?_) (fun c25 => ?_)
      · skip
        have c25 : ((un (S 6 201 2) - 4) / 20) ≤ e9 := (nI_leI (a := ((un (S 6 201 2) - 4) / 20)) (b := e9) (by omega) (by omega)).mp c25
        have c25n : ¬ e9 < ((un (S 6 201 2) - 4) / 20) := Nat.not_lt.mpr c25
        exact hr_vret C hr dX3_hearResponse_88 (by rw [show e9 = (un (S 6 201 2) - 4) / 20 by omega]; rfl)
      · skip
        have c25 : ¬ ((un (S 6 201 2) - 4) / 20) ≤ e9 := fun h => c25 ((nI_leI (a := ((un (S 6 201 2) - 4) / 20)) (b := e9) (by omega) (by omega)).mpr h)
        have c25n : e9 < ((un (S 6 201 2) - 4) / 20) := Nat.not_le.mp c25
        refine hr_aload_n C dX3_hearResponse_28 rfl 0 rfl ?_
        refine hr_get (k := 0) (i := 0) (fld := 4) C (by decide) rfl rfl (by decide) kU_X3 kF_X3_33 rfl rfl dX3_hearResponse_29 ?_
        refine hr_iload_n C dX3_hearResponse_32 rfl 3 rfl ?_
        refine hr_cVi C (ct_X1_isSoundEntry l E (cl_hrL S (un (S 6 201 1)) e9) o 201 (by omega) e9 (by omega)) (cwV 1 C.1.2.2.2.2 (hr_gV kM_X3_213 kI_X1_isSoundEntry kS_X1_isSoundEntry kN_X1 kC_X1_isSoundEntry) rfl rfl rfl (by decide +kernel) ⟨Nat.le_of_ble_eq_true rfl, Nat.le_of_ble_eq_true rfl⟩) (by decide) rfl rfl rfl (Nat.le_of_ble_eq_true rfl) dX3_hearResponse_33 ⟨Nat.le_of_ble_eq_true rfl, Nat.le_of_ble_eq_true rfl⟩ (fun r4 S5 h6 => ?_) rfl
        refine hr_tp h6.1 ?_
        refine hr_st (S1 := (cl_hrL S (un (S 6 201 1)) e9)) h6.2 ?_
        refine hr_if_eq C 82 dX3_hearResponse_36 (by decide) (fun c36 => ?_) (fun c36 => ?_)
        · skip
          have c36 := hr_bz.mp c36
          have c36 : ¬ (pk_sE (cl_hrL S (un (S 6 201 1)) e9) 201 e9) := c36
          refine hr_iinc (v := nI (e9 + 1)) C [(3, .int (nI (e9 + 1))), (0, .ref (hr_ad E 0 0)), (1, .ref (hr_ad E 8 (un (S 6 201 1)))), (2, .int (nI ((un (S 6 201 2) - 4) / 20)))] dX3_hearResponse_82 3 rfl (nI_add e9 1) (by decide) rfl ?_
          refine hr_goto C 23 dX3_hearResponse_85 (by decide) ?_
          refine hr_sub [1, 2, 3, 0] rfl ?_
          refine hr_st (S1 := cl_hrL S (un (S 6 201 1)) (e9 + 1)) (by rw [cl_hrL, if_neg (fun h => c36 h.1)]) ?_
          exact ih (e9 + 1)  (by omega) (by omega)
        · skip
          have c36 := hr_bn.mp c36
          have c36 : pk_sE (cl_hrL S (un (S 6 201 1)) e9) 201 e9 := c36
          refine hr_aload_n C dX3_hearResponse_39 rfl 0 rfl ?_
          refine hr_get (k := 0) (i := 0) (fld := 4) C (by decide) rfl rfl (by decide) kU_X3 kF_X3_33 rfl rfl dX3_hearResponse_40 ?_
          refine hr_iload_n C dX3_hearResponse_43 rfl 3 rfl ?_
          refine hr_cVi C (ct_X1_destination l E (cl_hrL S (un (S 6 201 1)) e9) o 201 (by omega) e9 (by omega)) (cwV 1 C.1.2.2.2.2 (hr_gV kM_X3_216 kI_X1_destination kS_X1_destination kN_X1 kC_X1_destination) rfl rfl rfl (by decide +kernel) ⟨Nat.le_of_ble_eq_true rfl, Nat.le_of_ble_eq_true rfl⟩) (by decide) rfl rfl rfl (Nat.le_of_ble_eq_true rfl) dX3_hearResponse_44 ⟨Nat.le_of_ble_eq_true rfl, Nat.le_of_ble_eq_true rfl⟩ (fun r7 S8 h9 => ?_) rfl
          refine hr_tp (y := pk_dst (cl_hrL S (un (S 6 201 1)) e9) 201 e9) h9.1 ?_
          refine hr_st (S1 := (cl_hrL S (un (S 6 201 1)) e9)) h9.2 ?_
          refine hr_tp (y := nI (un (pk_dst (cl_hrL S (un (S 6 201 1)) e9) 201 e9))) (hr_dst _ c36.2.1.1).1 ?_
          refine hr_istore C [(4, .int (nI (un (pk_dst (cl_hrL S (un (S 6 201 1)) e9) 201 e9)))), (0, .ref (hr_ad E 0 0)), (1, .ref (hr_ad E 8 (un (S 6 201 1)))), (2, .int (nI ((un (S 6 201 2) - 4) / 20))), (3, .int (nI e9))] dX3_hearResponse_47 (by decide) rfl ?_
          refine hr_iload C dX3_hearResponse_49 0 rfl ?_
          refine hr_aload_n C dX3_hearResponse_51 rfl 1 rfl ?_
          refine hr_get (k := 0) (i := 0) (fld := 4) C (by decide) rfl rfl (by decide) kU_X3 kF_X3_33 rfl rfl dX3_hearResponse_52 ?_
          refine hr_get (k := 6) (i := 201) (fld := 1) C (by decide) rfl rfl (by decide) kU_X1 kF_X3_128 rfl rfl dX3_hearResponse_55 ?_
          refine hr_icmp_eq C 82 dX3_hearResponse_58 (by decide) (fun c58 => ?_) (fun c58 => ?_)
          · skip
            refine hr_iinc (v := nI (e9 + 1)) C [(3, .int (nI (e9 + 1))), (4, .int (nI (un (pk_dst (cl_hrL S (un (S 6 201 1)) e9) 201 e9)))), (0, .ref (hr_ad E 0 0)), (1, .ref (hr_ad E 8 (un (S 6 201 1)))), (2, .int (nI ((un (S 6 201 2) - 4) / 20)))] dX3_hearResponse_82 4 rfl (nI_add e9 1) (by decide) rfl ?_
            refine hr_goto C 23 dX3_hearResponse_85 (by decide) ?_
            refine hr_sub [2, 3, 4, 0] rfl ?_
            refine hr_st (S1 := cl_hrL S (un (S 6 201 1)) (e9 + 1)) (by rw [cl_hrL, if_neg (fun h => h.2 ((hr_dst _ c36.2.1.1).1.trans c58))]) ?_
            exact ih (e9 + 1)  (by omega) (by omega)
          · skip
            refine hr_aload_n C dX3_hearResponse_61 rfl 2 rfl ?_
            refine hr_iload C dX3_hearResponse_62 0 rfl ?_
            refine hr_aload_n C dX3_hearResponse_64 rfl 1 rfl ?_
            refine hr_get (k := 0) (i := 0) (fld := 4) C (by decide) rfl rfl (by decide) kU_X3 kF_X3_33 rfl rfl dX3_hearResponse_65 ?_
            refine hr_iload_n C dX3_hearResponse_68 rfl 4 rfl ?_
            refine hr_cVi C (ct_X1_metric l E (cl_hrL S (un (S 6 201 1)) e9) o 201 (by omega) e9 (by omega)) (cwV 1 C.1.2.2.2.2 (hr_gV kM_X3_219 kI_X1_metric kS_X1_metric kN_X1 kC_X1_metric) rfl rfl rfl (by decide +kernel) ⟨Nat.le_of_ble_eq_true rfl, Nat.le_of_ble_eq_true rfl⟩) (by decide) rfl rfl rfl (Nat.le_of_ble_eq_true rfl) dX3_hearResponse_69 ⟨Nat.le_of_ble_eq_true rfl, Nat.le_of_ble_eq_true rfl⟩ (fun r10 S11 h12 => ?_) rfl
            refine hr_tp (y := pk_met (cl_hrL S (un (S 6 201 1)) e9) 201 e9) h12.1 ?_
            refine hr_st (S1 := (cl_hrL S (un (S 6 201 1)) e9)) h12.2 ?_
            refine hr_aload_n C dX3_hearResponse_72 rfl 1 rfl ?_
            refine hr_get (k := 0) (i := 0) (fld := 4) C (by decide) rfl rfl (by decide) kU_X3 kF_X3_33 rfl rfl dX3_hearResponse_73 ?_
            refine hr_get (k := 6) (i := 201) (fld := 0) C (by decide) rfl rfl (by decide) kU_X1 kF_X3_125 rfl rfl dX3_hearResponse_76 ?_
            refine hr_cVv C (ct_X2_hear l E (cl_hrL S (un (S 6 201 1)) e9) o (un (S 6 201 1)) hr5 (un (pk_dst (cl_hrL S (un (S 6 201 1)) e9) 201 e9)) ((hr_dst _ c36.2.1.1).2) (pk_met (cl_hrL S (un (S 6 201 1)) e9) 201 e9) ((cl_hrL S (un (S 6 201 1)) e9) 6 201 0)) (cwV 3 C.1.2.2.2.2 (hr_gV kM_X3_222 kI_X2_hear kS_X2_hear kN_X2 kC_X2_hear) rfl rfl rfl (by decide +kernel) ⟨Nat.le_of_ble_eq_true rfl, Nat.le_of_ble_eq_true rfl⟩) (show _ < 8 from hr5) rfl rfl rfl (Nat.le_of_ble_eq_true rfl) dX3_hearResponse_79 ⟨Nat.le_of_ble_eq_true rfl, Nat.le_of_ble_eq_true rfl⟩ (fun S14 h15 => ?_) rfl
            refine hr_st (S1 := (tb_hear (cl_hrL S (un (S 6 201 1)) e9) (un (S 6 201 1)) (un (pk_dst (cl_hrL S (un (S 6 201 1)) e9) 201 e9)) (pk_met (cl_hrL S (un (S 6 201 1)) e9) 201 e9) ((cl_hrL S (un (S 6 201 1)) e9) 6 201 0))) h15 ?_
            refine hr_iinc (v := nI (e9 + 1)) C [(3, .int (nI (e9 + 1))), (4, .int (nI (un (pk_dst (cl_hrL S (un (S 6 201 1)) e9) 201 e9)))), (0, .ref (hr_ad E 0 0)), (1, .ref (hr_ad E 8 (un (S 6 201 1)))), (2, .int (nI ((un (S 6 201 2) - 4) / 20)))] dX3_hearResponse_82 4 rfl (nI_add e9 1) (by decide) rfl ?_
            refine hr_goto C 23 dX3_hearResponse_85 (by decide) ?_
            refine hr_sub [2, 3, 4, 0] rfl ?_
            refine hr_st (S1 := cl_hrL S (un (S 6 201 1)) (e9 + 1)) (by rw [cl_hrL, if_pos ⟨c36, fun h => c58 ((hr_dst _ c36.2.1.1).1.symm.trans h)⟩]; try rfl) ?_
            exact ih (e9 + 1)  (by omega) (by omega)
  refine hr_sub [3, 2, 1, 0] rfl ?_
  refine hr_st (S1 := cl_hrL S (un (S 6 201 1)) 0) rfl ?_
  exact LP23 (((un (S 6 201 2) - 4) / 20) + 1) 0  (by omega) (by omega)
