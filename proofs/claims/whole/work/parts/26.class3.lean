set_option maxHeartbeats 4000000 in
set_option maxRecDepth 100000 in
theorem ct_X3_answerRequest (l : Launch) (E : hr_E) (S : hr_S) (o : Int64) (hI : hr_CI S) (hs : 24 ≤ un (S 6 201 2)) : hr_Mv l E yX3_answerRequest (Cond.code yX3_answerRequest cX3_answerRequest 5 none :: hr_W) ({ frames := 4, cells := 0, slots := 0, locals := 107 } : Room) [.ref (hr_ad E 0 0)] S o (fun u => u = cl_ans S) := by
  refine hr_of (by decide) (Nat.le_of_ble_eq_true rfl) (fun p e s m below meth c C hr => ?_)
  have hL5 := (hI.2.2.2.1 201 (by decide)).2.2.2
  have hr5 := (hI.2.2.2.1 201 (by decide)).2.1.2
  have hx5 := (hI.2.2.2.1 201 (by decide)).1.2
  refine hr_aload_n C dX3_answerRequest_0 rfl 0 rfl ?_
  refine hr_get (k := 0) (i := 0) (fld := 4) C (by decide) rfl rfl (by decide) kU_X3 kF_X3_33 rfl rfl dX3_answerRequest_1 ?_
  refine hr_get (k := 6) (i := 201) (fld := 1) C (by decide) rfl rfl (by decide) kU_X1 kF_X3_128 rfl rfl dX3_answerRequest_4 ?_
  refine hr_tp (y := nI (un (S 6 201 1))) (hI.2.2.2.1 201 (by decide)).2.1.1 ?_
  refine hr_istore_n C [(1, .int (nI (un (S 6 201 1)))), (0, .ref (hr_ad E 0 0))] dX3_answerRequest_7 rfl (by decide) rfl ?_
  refine hr_aload_n C dX3_answerRequest_8 rfl 1 rfl ?_
  refine hr_get (k := 0) (i := 0) (fld := 4) C (by decide) rfl rfl (by decide) kU_X3 kF_X3_33 rfl rfl dX3_answerRequest_9 ?_
  refine hr_cVi C (ct_X1_asksForAll l E S o 201 (by omega) (un (S 6 201 2)) ((hI.2.2.2.1 201 (by decide)).2.2.1) (by omega) (by omega)) (cwV 0 C.1.2.2.2.2 (hr_gV kM_X3_225 kI_X1_asksForAll kS_X1_asksForAll kN_X1 kC_X1_asksForAll) rfl rfl rfl (by decide +kernel) ⟨Nat.le_of_ble_eq_true rfl, Nat.le_of_ble_eq_true rfl⟩) (by decide) rfl rfl rfl (Nat.le_of_ble_eq_true rfl) dX3_answerRequest_12 ⟨Nat.le_of_ble_eq_true rfl, Nat.le_of_ble_eq_true rfl⟩ (fun r1 S2 h3 => ?_) rfl
  refine hr_tp h3.1 ?_
  refine hr_st (S1 := S) h3.2 ?_
  refine hr_if_eq C 32 dX3_answerRequest_15 (by decide) (fun c15 => ?_) (fun c15 => ?_)
  · skip
    have c15 := hr_bz.mp c15
    have c15 : ¬ (pk_all S 201) := c15
    refine hr_aload_n C dX3_answerRequest_32 rfl 1 rfl ?_
    refine hr_get (k := 0) (i := 0) (fld := 3) C (by decide) rfl rfl (by decide) kU_X3 kF_X3_29 rfl rfl dX3_answerRequest_33 ?_
    refine hr_iload_n C dX3_answerRequest_36 rfl 0 rfl ?_
    refine hr_aload_n C dX3_answerRequest_37 rfl 1 rfl ?_
    refine hr_get (k := 0) (i := 0) (fld := 4) C (by decide) rfl rfl (by decide) kU_X3 kF_X3_33 rfl rfl dX3_answerRequest_38 ?_
    refine hr_get (k := 6) (i := 201) (fld := 0) C (by decide) rfl rfl (by decide) kU_X1 kF_X3_125 rfl rfl dX3_answerRequest_41 ?_
    refine hr_tp (y := nI (un (S 6 201 0))) (hI.2.2.2.1 201 (by decide)).1.1 ?_
    refine hr_ldc (v := 33685504) C dX3_answerRequest_44 kK_X3_184 ?_
    refine hr_cVv C (ct_X1_begin l E S o 200 (by omega) (nI (un (S 6 201 1))) (nI (un (S 6 201 0))) 33685504) (cwV 3 C.1.2.2.2.2 (hr_gV kM_X3_68 kI_X1_begin kS_X1_begin kN_X1 kC_X1_begin) rfl rfl rfl (by decide +kernel) ⟨Nat.le_of_ble_eq_true rfl, Nat.le_of_ble_eq_true rfl⟩) (by decide) rfl rfl rfl (Nat.le_of_ble_eq_true rfl) dX3_answerRequest_46 ⟨Nat.le_of_ble_eq_true rfl, Nat.le_of_ble_eq_true rfl⟩ (fun S5 h6 => ?_) rfl
    refine hr_st (S1 := (pk_begin S 200 (nI (un (S 6 201 1))) (nI (un (S 6 201 0))) 33685504)) h6 ?_
    refine hr_aload_n C dX3_answerRequest_49 rfl 1 rfl ?_
    refine hr_get (k := 0) (i := 0) (fld := 4) C (by decide) rfl rfl (by decide) kU_X3 kF_X3_33 rfl rfl dX3_answerRequest_50 ?_
    refine hr_cVi C (ct_X1_entries l E (pk_begin S 200 (nI (un (S 6 201 1))) (nI (un (S 6 201 0))) 33685504) o 201 (by omega) (un (S 6 201 2)) (show S 6 201 2 = _ from (hI.2.2.2.1 201 (by decide)).2.2.1) (by omega) (by omega)) (cwV 0 C.1.2.2.2.2 (hr_gV kM_X3_209 kI_X1_entries kS_X1_entries kN_X1 kC_X1_entries) rfl rfl rfl (by decide +kernel) ⟨Nat.le_of_ble_eq_true rfl, Nat.le_of_ble_eq_true rfl⟩) (by decide) rfl rfl rfl (Nat.le_of_ble_eq_true rfl) dX3_answerRequest_53 ⟨Nat.le_of_ble_eq_true rfl, Nat.le_of_ble_eq_true rfl⟩ (fun r7 S8 h9 => ?_) rfl
    refine hr_tp (y := nI (((un (S 6 201 2)) - 4) / 20)) h9.1 ?_
    refine hr_st (S1 := (pk_begin S 200 (nI (un (S 6 201 1))) (nI (un (S 6 201 0))) 33685504)) h9.2 ?_
    refine hr_istore_n C [(2, .int (nI (((un (S 6 201 2)) - 4) / 20))), (1, .int (nI (un (S 6 201 1)))), (0, .ref (hr_ad E 0 0))] dX3_answerRequest_56 rfl (by decide) rfl ?_
    refine hr_iconst (v := 0) C dX3_answerRequest_57 (by decide) ?_
    refine hr_istore_n C [(3, .int 0), (2, .int (nI (((un (S 6 201 2)) - 4) / 20))), (1, .int (nI (un (S 6 201 1)))), (0, .ref (hr_ad E 0 0))] dX3_answerRequest_58 rfl (by decide) rfl ?_
    have LP59 : ∀ (n e9 : Nat) , e9 ≤ ((un (S 6 201 2) - 4) / 20) → ((un (S 6 201 2) - 4) / 20) + 1 ≤ e9 + n → hr_G p l e ({ frames := 4, cells := 0, slots := 0, locals := 107 } : Room) s m #[.ref (hr_ad E 0 0)] below meth c (MQ below (va_Qv (fun u => u = cl_ans S) (fun u t => hr_P E u o t.heap) (hr_A E)) #[.ref (hr_ad E 0 0)] s 0 0 (hr_A E)) E 5 0 0 (cl_anL (pk_begin S 200 (nI (un (S 6 201 1))) (nI (un (S 6 201 0))) 33685504) (un (S 6 201 1)) e9) o [(0, .ref (hr_ad E 0 0)), (1, .int (nI (un (S 6 201 1)))), (2, .int (nI ((un (S 6 201 2) - 4) / 20))), (3, .int (nI e9))] 59 [] := by
      intro n
      induction n with
      | zero => intro e9  h1 h2; omega
      | succ n ih =>
        intro e9  hv1 hv2
        refine hr_iload_n C dX3_answerRequest_59 rfl 3 rfl ?_
        refine hr_iload_n C dX3_answerRequest_60 rfl 2 rfl ?_
        refine hr_icmp_ge C 108 dX3_answerRequest_61 (by decide) (fun c61 => ?_) (fun c61 => ?_)
        · skip
          have c61 : ((un (S 6 201 2) - 4) / 20) ≤ e9 := (nI_leI (a := ((un (S 6 201 2) - 4) / 20)) (b := e9) (by omega) (by omega)).mp c61
          have c61n : ¬ e9 < ((un (S 6 201 2) - 4) / 20) := Nat.not_lt.mpr c61
          have hX : hr_CI (cl_anL (pk_begin S 200 (nI (un (S 6 201 1))) (nI (un (S 6 201 0))) 33685504) (un (S 6 201 1)) e9) := (CI_anL (r := un (S 6 201 1)) (CI_begin hI (nb_nI hr5 (by decide)) (nb_nI hx5 (by decide))) e9)
          have hX2 := (hX.2.2.2.1 200 (by decide)).2.2.2
          refine hr_aload_n C dX3_answerRequest_108 rfl 0 rfl ?_
          refine hr_get (k := 0) (i := 0) (fld := 3) C (by decide) rfl rfl (by decide) kU_X3 kF_X3_29 rfl rfl dX3_answerRequest_109 ?_
          refine hr_cVi C (ct_X1_entries l E (cl_anL (pk_begin S 200 (nI (un (S 6 201 1))) (nI (un (S 6 201 0))) 33685504) (un (S 6 201 1)) e9) o 200 (by omega) (un ((cl_anL (pk_begin S 200 (nI (un (S 6 201 1))) (nI (un (S 6 201 0))) 33685504) (un (S 6 201 1)) e9) 6 200 2)) ((hX.2.2.2.1 200 (by decide)).2.2.1) (len_anL (by rw [len_begin]; omega) _ e9) (by omega)) (cwV 0 C.1.2.2.2.2 (hr_gV kM_X3_209 kI_X1_entries kS_X1_entries kN_X1 kC_X1_entries) rfl rfl rfl (by decide +kernel) ⟨Nat.le_of_ble_eq_true rfl, Nat.le_of_ble_eq_true rfl⟩) (by decide) rfl rfl rfl (Nat.le_of_ble_eq_true rfl) dX3_answerRequest_112 ⟨Nat.le_of_ble_eq_true rfl, Nat.le_of_ble_eq_true rfl⟩ (fun r10 S11 h12 => ?_) rfl
          refine hr_tp (y := nI (((un ((cl_anL (pk_begin S 200 (nI (un (S 6 201 1))) (nI (un (S 6 201 0))) 33685504) (un (S 6 201 1)) e9) 6 200 2)) - 4) / 20)) h12.1 ?_
          refine hr_st (S1 := (cl_anL (pk_begin S 200 (nI (un (S 6 201 1))) (nI (un (S 6 201 0))) 33685504) (un (S 6 201 1)) e9)) h12.2 ?_
          refine hr_if_le C 129 dX3_answerRequest_115 (by decide) (fun c115 => ?_) (fun c115 => ?_)
          · skip
            have c115 : (((un ((cl_anL (pk_begin S 200 (nI (un (S 6 201 1))) (nI (un (S 6 201 0))) 33685504) (un (S 6 201 1)) e9) 6 200 2)) - 4) / 20) ≤ 0 := (nI_leI (a := (((un ((cl_anL (pk_begin S 200 (nI (un (S 6 201 1))) (nI (un (S 6 201 0))) 33685504) (un (S 6 201 1)) e9) 6 200 2)) - 4) / 20)) (b := 0) (by omega) (by omega)).mp c115
            have c115n : ¬ 0 < (((un ((cl_anL (pk_begin S 200 (nI (un (S 6 201 1))) (nI (un (S 6 201 0))) 33685504) (un (S 6 201 1)) e9) 6 200 2)) - 4) / 20) := Nat.not_lt.mpr c115
            exact hr_vret C hr dX3_answerRequest_129 (by have he : cl_ans1 S = cl_anL (pk_begin S 200 (nI (un (S 6 201 1))) (nI (un (S 6 201 0))) 33685504) (un (S 6 201 1)) e9 := (by rw [show e9 = ((un (S 6 201 2) - 4) / 20) by omega]; rfl); unfold cl_ans; rw [if_neg c15, he, if_neg (by unfold pk_ent; omega)])
          · skip
            have c115 : ¬ (((un ((cl_anL (pk_begin S 200 (nI (un (S 6 201 1))) (nI (un (S 6 201 0))) 33685504) (un (S 6 201 1)) e9) 6 200 2)) - 4) / 20) ≤ 0 := fun h => c115 ((nI_leI (a := (((un ((cl_anL (pk_begin S 200 (nI (un (S 6 201 1))) (nI (un (S 6 201 0))) 33685504) (un (S 6 201 1)) e9) 6 200 2)) - 4) / 20)) (b := 0) (by omega) (by omega)).mpr h)
            have c115n : 0 < (((un ((cl_anL (pk_begin S 200 (nI (un (S 6 201 1))) (nI (un (S 6 201 0))) 33685504) (un (S 6 201 1)) e9) 6 200 2)) - 4) / 20) := Nat.not_le.mp c115
            refine hr_aload_n C dX3_answerRequest_118 rfl 0 rfl ?_
            refine hr_get (k := 0) (i := 0) (fld := 2) C (by decide) rfl rfl (by decide) kU_X3 kF_X3_22 rfl rfl dX3_answerRequest_119 ?_
            refine hr_aload_n C dX3_answerRequest_122 rfl 0 rfl ?_
            refine hr_get (k := 0) (i := 0) (fld := 3) C (by decide) rfl rfl (by decide) kU_X3 kF_X3_29 rfl rfl dX3_answerRequest_123 ?_
            refine hr_cVv C (ct_X0_launch l E (cl_anL (pk_begin S 200 (nI (un (S 6 201 1))) (nI (un (S 6 201 0))) 33685504) (un (S 6 201 1)) e9) o 200 (by omega) hX (ai_ne hX (by omega))) (cwV 1 C.1.2.2.2.2 (hr_gV kM_X3_75 kI_X0_launch kS_X0_launch kN_X0 kC_X0_launch) rfl rfl rfl (by decide +kernel) ⟨Nat.le_of_ble_eq_true rfl, Nat.le_of_ble_eq_true rfl⟩) (by decide) rfl rfl rfl (Nat.le_of_ble_eq_true rfl) dX3_answerRequest_126 ⟨Nat.le_of_ble_eq_true rfl, Nat.le_of_ble_eq_true rfl⟩ (fun S14 h15 => ?_) rfl
            refine hr_st (S1 := (ai_launch (cl_anL (pk_begin S 200 (nI (un (S 6 201 1))) (nI (un (S 6 201 0))) 33685504) (un (S 6 201 1)) e9) 200)) h15 ?_
            exact hr_vret C hr dX3_answerRequest_129 (by have he : cl_ans1 S = cl_anL (pk_begin S 200 (nI (un (S 6 201 1))) (nI (un (S 6 201 0))) 33685504) (un (S 6 201 1)) e9 := (by rw [show e9 = ((un (S 6 201 2) - 4) / 20) by omega]; rfl); unfold cl_ans; rw [if_neg c15, he, if_pos (by unfold pk_ent; omega)])
        · skip
          have c61 : ¬ ((un (S 6 201 2) - 4) / 20) ≤ e9 := fun h => c61 ((nI_leI (a := ((un (S 6 201 2) - 4) / 20)) (b := e9) (by omega) (by omega)).mpr h)
          have c61n : e9 < ((un (S 6 201 2) - 4) / 20) := Nat.not_le.mp c61
          refine hr_aload_n C dX3_answerRequest_64 rfl 0 rfl ?_
          refine hr_get (k := 0) (i := 0) (fld := 4) C (by decide) rfl rfl (by decide) kU_X3 kF_X3_33 rfl rfl dX3_answerRequest_65 ?_
          refine hr_iload_n C dX3_answerRequest_68 rfl 3 rfl ?_
          refine hr_cVi C (ct_X1_isSoundEntry l E (cl_anL (pk_begin S 200 (nI (un (S 6 201 1))) (nI (un (S 6 201 0))) 33685504) (un (S 6 201 1)) e9) o 201 (by omega) e9 (by omega)) (cwV 1 C.1.2.2.2.2 (hr_gV kM_X3_213 kI_X1_isSoundEntry kS_X1_isSoundEntry kN_X1 kC_X1_isSoundEntry) rfl rfl rfl (by decide +kernel) ⟨Nat.le_of_ble_eq_true rfl, Nat.le_of_ble_eq_true rfl⟩) (by decide) rfl rfl rfl (Nat.le_of_ble_eq_true rfl) dX3_answerRequest_69 ⟨Nat.le_of_ble_eq_true rfl, Nat.le_of_ble_eq_true rfl⟩ (fun r16 S17 h18 => ?_) rfl
          refine hr_tp h18.1 ?_
          refine hr_st (S1 := (cl_anL (pk_begin S 200 (nI (un (S 6 201 1))) (nI (un (S 6 201 0))) 33685504) (un (S 6 201 1)) e9)) h18.2 ?_
          refine hr_if_eq C 102 dX3_answerRequest_72 (by decide) (fun c72 => ?_) (fun c72 => ?_)
          · skip
            have c72 := hr_bz.mp c72
            have c72 : ¬ (pk_sE (cl_anL (pk_begin S 200 (nI (un (S 6 201 1))) (nI (un (S 6 201 0))) 33685504) (un (S 6 201 1)) e9) 201 e9) := c72
            refine hr_iinc (v := nI (e9 + 1)) C [(3, .int (nI (e9 + 1))), (0, .ref (hr_ad E 0 0)), (1, .int (nI (un (S 6 201 1)))), (2, .int (nI ((un (S 6 201 2) - 4) / 20)))] dX3_answerRequest_102 3 rfl (nI_add e9 1) (by decide) rfl ?_
            refine hr_goto C 59 dX3_answerRequest_105 (by decide) ?_
            refine hr_sub [1, 2, 3, 0] rfl ?_
            refine hr_st (S1 := cl_anL (pk_begin S 200 (nI (un (S 6 201 1))) (nI (un (S 6 201 0))) 33685504) (un (S 6 201 1)) (e9 + 1)) (by rw [cl_anL, if_neg c72]) ?_
            exact ih (e9 + 1)  (by omega) (by omega)
          · skip
            have c72 := hr_bn.mp c72
            have c72 : pk_sE (cl_anL (pk_begin S 200 (nI (un (S 6 201 1))) (nI (un (S 6 201 0))) 33685504) (un (S 6 201 1)) e9) 201 e9 := c72
            refine hr_aload_n C dX3_answerRequest_75 rfl 0 rfl ?_
            refine hr_get (k := 0) (i := 0) (fld := 4) C (by decide) rfl rfl (by decide) kU_X3 kF_X3_33 rfl rfl dX3_answerRequest_76 ?_
            refine hr_iload_n C dX3_answerRequest_79 rfl 3 rfl ?_
            refine hr_cVi C (ct_X1_destination l E (cl_anL (pk_begin S 200 (nI (un (S 6 201 1))) (nI (un (S 6 201 0))) 33685504) (un (S 6 201 1)) e9) o 201 (by omega) e9 (by omega)) (cwV 1 C.1.2.2.2.2 (hr_gV kM_X3_216 kI_X1_destination kS_X1_destination kN_X1 kC_X1_destination) rfl rfl rfl (by decide +kernel) ⟨Nat.le_of_ble_eq_true rfl, Nat.le_of_ble_eq_true rfl⟩) (by decide) rfl rfl rfl (Nat.le_of_ble_eq_true rfl) dX3_answerRequest_80 ⟨Nat.le_of_ble_eq_true rfl, Nat.le_of_ble_eq_true rfl⟩ (fun r19 S20 h21 => ?_) rfl
            refine hr_tp (y := pk_dst (cl_anL (pk_begin S 200 (nI (un (S 6 201 1))) (nI (un (S 6 201 0))) 33685504) (un (S 6 201 1)) e9) 201 e9) h21.1 ?_
            refine hr_st (S1 := (cl_anL (pk_begin S 200 (nI (un (S 6 201 1))) (nI (un (S 6 201 0))) 33685504) (un (S 6 201 1)) e9)) h21.2 ?_
            refine hr_tp (y := nI (un (pk_dst (cl_anL (pk_begin S 200 (nI (un (S 6 201 1))) (nI (un (S 6 201 0))) 33685504) (un (S 6 201 1)) e9) 201 e9))) (hr_dst _ c72.2.1.1).1 ?_
            refine hr_istore C [(4, .int (nI (un (pk_dst (cl_anL (pk_begin S 200 (nI (un (S 6 201 1))) (nI (un (S 6 201 0))) 33685504) (un (S 6 201 1)) e9) 201 e9)))), (0, .ref (hr_ad E 0 0)), (1, .int (nI (un (S 6 201 1)))), (2, .int (nI ((un (S 6 201 2) - 4) / 20))), (3, .int (nI e9))] dX3_answerRequest_83 (by decide) rfl ?_
            refine hr_aload_n C dX3_answerRequest_85 rfl 1 rfl ?_
            refine hr_get (k := 0) (i := 0) (fld := 3) C (by decide) rfl rfl (by decide) kU_X3 kF_X3_29 rfl rfl dX3_answerRequest_86 ?_
            refine hr_iconst (v := 2) C dX3_answerRequest_89 (by decide) ?_
            refine hr_iload C dX3_answerRequest_90 0 rfl ?_
            refine hr_aload_n C dX3_answerRequest_92 rfl 1 rfl ?_
            refine hr_iload_n C dX3_answerRequest_93 rfl 2 rfl ?_
            refine hr_iload C dX3_answerRequest_94 0 rfl ?_
            refine hr_cVi C (ct_X3_metricAnswered l E (cl_anL (pk_begin S 200 (nI (un (S 6 201 1))) (nI (un (S 6 201 0))) 33685504) (un (S 6 201 1)) e9) o (un (S 6 201 1)) (un (pk_dst (cl_anL (pk_begin S 200 (nI (un (S 6 201 1))) (nI (un (S 6 201 0))) 33685504) (un (S 6 201 1)) e9) 201 e9)) hr5 ((hr_dst _ c72.2.1.1).2)) (cwV 2 C.1.2.2.2.2 (hr_gV kM_X3_228 kI_X3_metricAnswered kS_X3_metricAnswered kN_X3 kC_X3_metricAnswered) rfl rfl rfl (by decide +kernel) ⟨Nat.le_of_ble_eq_true rfl, Nat.le_of_ble_eq_true rfl⟩) (by decide) rfl rfl rfl (Nat.le_of_ble_eq_true rfl) dX3_answerRequest_96 ⟨Nat.le_of_ble_eq_true rfl, Nat.le_of_ble_eq_true rfl⟩ (fun r22 S23 h24 => ?_) rfl
            refine hr_tp (y := cl_mans (cl_anL (pk_begin S 200 (nI (un (S 6 201 1))) (nI (un (S 6 201 0))) 33685504) (un (S 6 201 1)) e9) (un (S 6 201 1)) (un (pk_dst (cl_anL (pk_begin S 200 (nI (un (S 6 201 1))) (nI (un (S 6 201 0))) 33685504) (un (S 6 201 1)) e9) 201 e9))) h24.1 ?_
            refine hr_st (S1 := (cl_anL (pk_begin S 200 (nI (un (S 6 201 1))) (nI (un (S 6 201 0))) 33685504) (un (S 6 201 1)) e9)) h24.2 ?_
            refine hr_cVv C (ct_X1_addEntry l E (cl_anL (pk_begin S 200 (nI (un (S 6 201 1))) (nI (un (S 6 201 0))) 33685504) (un (S 6 201 1)) e9) o 200 (by omega) (((CI_anL (r := un (S 6 201 1)) (CI_begin hI (nb_nI hr5 (by decide)) (nb_nI hx5 (by decide))) e9).2.2.2.1 200 (by decide)).2.2) (len_anL (by rw [len_begin]; omega) _ e9) 2 (nI (un (pk_dst (cl_anL (pk_begin S 200 (nI (un (S 6 201 1))) (nI (un (S 6 201 0))) 33685504) (un (S 6 201 1)) e9) 201 e9))) (cl_mans (cl_anL (pk_begin S 200 (nI (un (S 6 201 1))) (nI (un (S 6 201 0))) 33685504) (un (S 6 201 1)) e9) (un (S 6 201 1)) (un (pk_dst (cl_anL (pk_begin S 200 (nI (un (S 6 201 1))) (nI (un (S 6 201 0))) 33685504) (un (S 6 201 1)) e9) 201 e9)))) (cwV 3 C.1.2.2.2.2 (hr_gV kM_X3_72 kI_X1_addEntry kS_X1_addEntry kN_X1 kC_X1_addEntry) rfl rfl rfl (by decide +kernel) ⟨Nat.le_of_ble_eq_true rfl, Nat.le_of_ble_eq_true rfl⟩) (by decide) rfl rfl rfl (Nat.le_of_ble_eq_true rfl) dX3_answerRequest_99 ⟨Nat.le_of_ble_eq_true rfl, Nat.le_of_ble_eq_true rfl⟩ (fun S26 h27 => ?_) rfl
            refine hr_st (S1 := (pk_addE (cl_anL (pk_begin S 200 (nI (un (S 6 201 1))) (nI (un (S 6 201 0))) 33685504) (un (S 6 201 1)) e9) 200 2 (nI (un (pk_dst (cl_anL (pk_begin S 200 (nI (un (S 6 201 1))) (nI (un (S 6 201 0))) 33685504) (un (S 6 201 1)) e9) 201 e9))) (cl_mans (cl_anL (pk_begin S 200 (nI (un (S 6 201 1))) (nI (un (S 6 201 0))) 33685504) (un (S 6 201 1)) e9) (un (S 6 201 1)) (un (pk_dst (cl_anL (pk_begin S 200 (nI (un (S 6 201 1))) (nI (un (S 6 201 0))) 33685504) (un (S 6 201 1)) e9) 201 e9))))) h27 ?_
            refine hr_iinc (v := nI (e9 + 1)) C [(3, .int (nI (e9 + 1))), (4, .int (nI (un (pk_dst (cl_anL (pk_begin S 200 (nI (un (S 6 201 1))) (nI (un (S 6 201 0))) 33685504) (un (S 6 201 1)) e9) 201 e9)))), (0, .ref (hr_ad E 0 0)), (1, .int (nI (un (S 6 201 1)))), (2, .int (nI ((un (S 6 201 2) - 4) / 20)))] dX3_answerRequest_102 4 rfl (nI_add e9 1) (by decide) rfl ?_
            refine hr_goto C 59 dX3_answerRequest_105 (by decide) ?_
            refine hr_sub [2, 3, 4, 0] rfl ?_
            refine hr_st (S1 := cl_anL (pk_begin S 200 (nI (un (S 6 201 1))) (nI (un (S 6 201 0))) 33685504) (un (S 6 201 1)) (e9 + 1)) (by rw [cl_anL, if_pos c72]) ?_
            exact ih (e9 + 1)  (by omega) (by omega)
    refine hr_sub [3, 2, 1, 0] rfl ?_
    refine hr_st (S1 := cl_anL (pk_begin S 200 (nI (un (S 6 201 1))) (nI (un (S 6 201 0))) 33685504) (un (S 6 201 1)) 0) rfl ?_
    exact LP59 (((un (S 6 201 2) - 4) / 20) + 1) 0  (by omega) (by omega)
  · skip
    have c15 := hr_bn.mp c15
    have c15 : pk_all S 201 := c15
    refine hr_aload_n C dX3_answerRequest_18 rfl 1 rfl ?_
    refine hr_iload_n C dX3_answerRequest_19 rfl 0 rfl ?_
    refine hr_aload_n C dX3_answerRequest_20 rfl 1 rfl ?_
    refine hr_get (k := 0) (i := 0) (fld := 4) C (by decide) rfl rfl (by decide) kU_X3 kF_X3_33 rfl rfl dX3_answerRequest_21 ?_
    refine hr_get (k := 6) (i := 201) (fld := 0) C (by decide) rfl rfl (by decide) kU_X1 kF_X3_125 rfl rfl dX3_answerRequest_24 ?_
    refine hr_tp (y := nI (un (S 6 201 0))) (hI.2.2.2.1 201 (by decide)).1.1 ?_
    refine hr_iconst (v := 1) C dX3_answerRequest_27 (by decide) ?_
    refine hr_cVv C (ct_X3_tell l E S o (un (S 6 201 1)) (un (S 6 201 0)) hr5 hx5 1 hI) (cwV 3 C.1.2.2.2.2 (hr_gV kM_X3_177 kI_X3_tell kS_X3_tell kN_X3 kC_X3_tell) rfl rfl rfl (by decide +kernel) ⟨Nat.le_of_ble_eq_true rfl, Nat.le_of_ble_eq_true rfl⟩) (by decide) rfl rfl rfl (Nat.le_of_ble_eq_true rfl) dX3_answerRequest_28 ⟨Nat.le_of_ble_eq_true rfl, Nat.le_of_ble_eq_true rfl⟩ (fun S29 h30 => ?_) rfl
    refine hr_st (S1 := (cl_tell S (un (S 6 201 1)) (un (S 6 201 0)) 1)) h30 ?_
    exact hr_vret C hr dX3_answerRequest_31 (by unfold cl_ans; rw [if_pos c15])
set_option maxHeartbeats 4000000 in
set_option maxRecDepth 100000 in
theorem ct_X3_bring (l : Launch) (E : hr_E) (S : hr_S) (o : Int64) (k : Nat) (hk : k < ai_n S) (hI : hr_CI S) : hr_Mi l E yX3_bring (Cond.code yX3_bring cX3_bring 2 (some .boolean) :: hr_W) ({ frames := 5, cells := 0, slots := 0, locals := 131 } : Room) [.ref (hr_ad E 0 0), .int (nI k)] S o (fun r u => r = (if ¬ (cl_take S k) 1 0 (un ((cl_take S k) 6 201 0) * 8 + un ((cl_take S k) 6 201 1)) = 0 then 1 else 0) ∧ u = cl_bring S k) := by
  refine hr_of (by decide) (Nat.le_of_ble_eq_true rfl) (fun p e s m below meth c C hr => ?_)
  have hn2 : ai_n S < 201 := hI.1.2
  have hj2 := (hI.2.1 k (by omega)).2
  refine hr_aload_n C dX3_bring_0 rfl 0 rfl ?_
  refine hr_get (k := 0) (i := 0) (fld := 4) C (by decide) rfl rfl (by decide) kU_X3 kF_X3_33 rfl rfl dX3_bring_1 ?_
  refine hr_aload_n C dX3_bring_4 rfl 0 rfl ?_
  refine hr_get (k := 0) (i := 0) (fld := 2) C (by decide) rfl rfl (by decide) kU_X3 kF_X3_22 rfl rfl dX3_bring_5 ?_
  refine hr_iload_n C dX3_bring_8 rfl 1 rfl ?_
  refine hr_cVr C (ct_X0_at l E S o k (by omega) (hI.2.1 k (by omega))) (cwV 1 C.1.2.2.2.2 (hr_gV kM_X3_104 kI_X0_at kS_X0_at kN_X0 kC_X0_at) rfl rfl rfl (by decide +kernel) ⟨Nat.le_of_ble_eq_true rfl, Nat.le_of_ble_eq_true rfl⟩) (by decide) rfl rfl rfl (Nat.le_of_ble_eq_true rfl) dX3_bring_9 ⟨Nat.le_of_ble_eq_true rfl, Nat.le_of_ble_eq_true rfl⟩ (fun S2 h3 => ?_) rfl
  refine hr_st (S1 := S) h3 ?_
  refine hr_cVv C (ct_X1_become l E S o 201 (by omega) (un (S 5 0 k)) (by omega) (by omega)) (cwV 1 C.1.2.2.2.2 (hr_gV kM_X3_194 kI_X1_become kS_X1_become kN_X1 kC_X1_become) rfl rfl rfl (by decide +kernel) ⟨Nat.le_of_ble_eq_true rfl, Nat.le_of_ble_eq_true rfl⟩) (by decide) rfl rfl rfl (Nat.le_of_ble_eq_true rfl) dX3_bring_12 ⟨Nat.le_of_ble_eq_true rfl, Nat.le_of_ble_eq_true rfl⟩ (fun S5 h6 => ?_) rfl
  refine hr_st (S1 := (pk_become S 201 (un (S 5 0 k)))) h6 ?_
  refine hr_aload_n C dX3_bring_15 rfl 0 rfl ?_
  refine hr_get (k := 0) (i := 0) (fld := 2) C (by decide) rfl rfl (by decide) kU_X3 kF_X3_22 rfl rfl dX3_bring_16 ?_
  refine hr_iload_n C dX3_bring_19 rfl 1 rfl ?_
  refine hr_cVv C (ct_X0_remove l E (pk_become S 201 (un (S 5 0 k))) o k hk (CI_become hI (by omega))) (cwV 1 C.1.2.2.2.2 (hr_gV kM_X3_101 kI_X0_remove kS_X0_remove kN_X0 kC_X0_remove) rfl rfl rfl (by decide +kernel) ⟨Nat.le_of_ble_eq_true rfl, Nat.le_of_ble_eq_true rfl⟩) (by decide) rfl rfl rfl (Nat.le_of_ble_eq_true rfl) dX3_bring_20 ⟨Nat.le_of_ble_eq_true rfl, Nat.le_of_ble_eq_true rfl⟩ (fun S8 h9 => ?_) rfl
  refine hr_st (S1 := (ai_remove (pk_become S 201 (un (S 5 0 k))) k)) h9 ?_
  refine hr_st (S1 := cl_take S k) rfl ?_
  have hT := CI_take hI hk
  have hA := (hT.2.2.2.1 201 (by decide)).1.2
  have hB := (hT.2.2.2.1 201 (by decide)).2.1.2
  have hL9 := (hT.2.2.2.1 201 (by decide)).2.2.2
  refine hr_aload_n C dX3_bring_23 rfl 0 rfl ?_
  refine hr_aload_n C dX3_bring_24 rfl 0 rfl ?_
  refine hr_get (k := 0) (i := 0) (fld := 4) C (by decide) rfl rfl (by decide) kU_X3 kF_X3_33 rfl rfl dX3_bring_25 ?_
  refine hr_get (k := 6) (i := 201) (fld := 0) C (by decide) rfl rfl (by decide) kU_X1 kF_X3_125 rfl rfl dX3_bring_28 ?_
  refine hr_tp (y := nI (un ((cl_take S k) 6 201 0))) (hT.2.2.2.1 201 (by decide)).1.1 ?_
  refine hr_aload_n C dX3_bring_31 rfl 0 rfl ?_
  refine hr_get (k := 0) (i := 0) (fld := 4) C (by decide) rfl rfl (by decide) kU_X3 kF_X3_33 rfl rfl dX3_bring_32 ?_
  refine hr_get (k := 6) (i := 201) (fld := 1) C (by decide) rfl rfl (by decide) kU_X1 kF_X3_128 rfl rfl dX3_bring_35 ?_
  refine hr_tp (y := nI (un ((cl_take S k) 6 201 1))) (hT.2.2.2.1 201 (by decide)).2.1.1 ?_
  refine hr_cVi C (ct_X3_isUp l E (cl_take S k) o (un ((cl_take S k) 6 201 0)) (un ((cl_take S k) 6 201 1)) (by omega) (by omega) (hT.2.2.2.2.2 _ (by omega))) (cwV 2 C.1.2.2.2.2 (hr_gV kM_X3_41 kI_X3_isUp kS_X3_isUp kN_X3 kC_X3_isUp) rfl rfl rfl (by decide +kernel) ⟨Nat.le_of_ble_eq_true rfl, Nat.le_of_ble_eq_true rfl⟩) (by decide) rfl rfl rfl (Nat.le_of_ble_eq_true rfl) dX3_bring_38 ⟨Nat.le_of_ble_eq_true rfl, Nat.le_of_ble_eq_true rfl⟩ (fun r10 S11 h12 => ?_) rfl
  refine hr_tp h12.1 ?_
  refine hr_st (S1 := (cl_take S k)) h12.2 ?_
  refine hr_if_ne C 59 dX3_bring_41 (by decide) (fun c41 => ?_) (fun c41 => ?_)
  · skip
    have c41 := hr_bn.mp c41
    have c41 : ¬ (cl_take S k) 1 0 ((un ((cl_take S k) 6 201 0)) * 8 + (un ((cl_take S k) 6 201 1))) = 0 := c41
    refine hr_aload_n C dX3_bring_59 rfl 0 rfl ?_
    refine hr_get (k := 0) (i := 0) (fld := 4) C (by decide) rfl rfl (by decide) kU_X3 kF_X3_33 rfl rfl dX3_bring_60 ?_
    refine hr_cVi C (ct_X1_isSound l E (cl_take S k) o 201 (by omega) (un ((cl_take S k) 6 201 2)) ((hT.2.2.2.1 201 (by decide)).2.2.1) (by omega)) (cwV 0 C.1.2.2.2.2 (hr_gV kM_X3_197 kI_X1_isSound kS_X1_isSound kN_X1 kC_X1_isSound) rfl rfl rfl (by decide +kernel) ⟨Nat.le_of_ble_eq_true rfl, Nat.le_of_ble_eq_true rfl⟩) (by decide) rfl rfl rfl (Nat.le_of_ble_eq_true rfl) dX3_bring_63 ⟨Nat.le_of_ble_eq_true rfl, Nat.le_of_ble_eq_true rfl⟩ (fun r13 S14 h15 => ?_) rfl
    refine hr_tp h15.1 ?_
    refine hr_st (S1 := (cl_take S k)) h15.2 ?_
    refine hr_if_ne C 82 dX3_bring_66 (by decide) (fun c66 => ?_) (fun c66 => ?_)
    · skip
      have c66 := hr_bn.mp c66
      have c66 : pk_snd (cl_take S k) 201 := c66
      refine hr_aload_n C dX3_bring_82 rfl 0 rfl ?_
      refine hr_get (k := 0) (i := 0) (fld := 4) C (by decide) rfl rfl (by decide) kU_X3 kF_X3_33 rfl rfl dX3_bring_83 ?_
      refine hr_cVi C (ct_X1_isRequest l E (cl_take S k) o 201 (by omega)) (cwV 0 C.1.2.2.2.2 (hr_gV kM_X3_200 kI_X1_isRequest kS_X1_isRequest kN_X1 kC_X1_isRequest) rfl rfl rfl (by decide +kernel) ⟨Nat.le_of_ble_eq_true rfl, Nat.le_of_ble_eq_true rfl⟩) (by decide) rfl rfl rfl (Nat.le_of_ble_eq_true rfl) dX3_bring_86 ⟨Nat.le_of_ble_eq_true rfl, Nat.le_of_ble_eq_true rfl⟩ (fun r16 S17 h18 => ?_) rfl
      refine hr_tp h18.1 ?_
      refine hr_st (S1 := (cl_take S k)) h18.2 ?_
      refine hr_if_eq C 99 dX3_bring_89 (by decide) (fun c89 => ?_) (fun c89 => ?_)
      · skip
        have c89 := hr_bz.mp c89
        have c89 : ¬ ((cl_take S k) 7 201 0 = 16908288) := c89
        refine hr_aload_n C dX3_bring_99 rfl 0 rfl ?_
        refine hr_cVv C (ct_X3_hearResponse l E (cl_take S k) o hT c66.1) (cwV 0 C.1.2.2.2.2 (hr_gV kM_X3_206 kI_X3_hearResponse kS_X3_hearResponse kN_X3 kC_X3_hearResponse) rfl rfl rfl (by decide +kernel) ⟨Nat.le_of_ble_eq_true rfl, Nat.le_of_ble_eq_true rfl⟩) (by decide) rfl rfl rfl (Nat.le_of_ble_eq_true rfl) dX3_bring_100 ⟨Nat.le_of_ble_eq_true rfl, Nat.le_of_ble_eq_true rfl⟩ (fun S20 h21 => ?_) rfl
        refine hr_st (S1 := (cl_hr (cl_take S k))) h21 ?_
        refine hr_iconst (v := 1) C dX3_bring_103 (by decide) ?_
        exact hr_zret C hr rfl dX3_bring_104 ⟨by rw [if_pos c41], by unfold cl_bring cl_in; rw [if_pos (show cl_up (cl_take S k) from c41), if_pos c66, if_neg c89]⟩
      · skip
        have c89 := hr_bn.mp c89
        have c89 : (cl_take S k) 7 201 0 = 16908288 := c89
        refine hr_aload_n C dX3_bring_92 rfl 0 rfl ?_
        refine hr_cVv C (ct_X3_answerRequest l E (cl_take S k) o hT c66.1) (cwV 0 C.1.2.2.2.2 (hr_gV kM_X3_203 kI_X3_answerRequest kS_X3_answerRequest kN_X3 kC_X3_answerRequest) rfl rfl rfl (by decide +kernel) ⟨Nat.le_of_ble_eq_true rfl, Nat.le_of_ble_eq_true rfl⟩) (by decide) rfl rfl rfl (Nat.le_of_ble_eq_true rfl) dX3_bring_93 ⟨Nat.le_of_ble_eq_true rfl, Nat.le_of_ble_eq_true rfl⟩ (fun S23 h24 => ?_) rfl
        refine hr_st (S1 := (cl_ans (cl_take S k))) h24 ?_
        refine hr_goto C 103 dX3_bring_96 (by decide) ?_
        refine hr_iconst (v := 1) C dX3_bring_103 (by decide) ?_
        exact hr_zret C hr rfl dX3_bring_104 ⟨by rw [if_pos c41], by unfold cl_bring cl_in; rw [if_pos (show cl_up (cl_take S k) from c41), if_pos c66, if_pos c89]⟩
    · skip
      have c66 := hr_bz.mp c66
      have c66 : ¬ (pk_snd (cl_take S k) 201) := c66
      refine hr_aload_n C dX3_bring_69 rfl 0 rfl ?_
      refine hr_dup C dX3_bring_70 rfl ?_
      refine hr_get (k := 0) (i := 0) (fld := 7) C (by decide) rfl rfl (by decide) kU_X3 kF_X3_156 rfl rfl dX3_bring_71 ?_
      refine hr_iconst (v := 1) C dX3_bring_74 (by decide) ?_
      refine hr_iadd C dX3_bring_75 rfl ?_
      refine hr_put (k := 0) (i := 0) (fld := 7) C (by decide) rfl rfl (by decide) kU_X3 kF_X3_156 rfl tyX3 tyX3_ok nmX3 rfl (by decide +kernel) (Nat.le_of_ble_eq_true rfl) (by simp [hr_cell, hr_w, hr_wA, upd]) rfl dX3_bring_76 ?_
      refine hr_goto C 103 dX3_bring_79 (by decide) ?_
      refine hr_iconst (v := 1) C dX3_bring_103 (by decide) ?_
      exact hr_zret C hr rfl dX3_bring_104 ⟨by rw [if_pos c41], by unfold cl_bring cl_in; rw [if_pos (show cl_up (cl_take S k) from c41), if_neg c66]; try rfl⟩
  · skip
    have c41 := hr_bz.mp c41
    have c41 : ¬ (¬ (cl_take S k) 1 0 ((un ((cl_take S k) 6 201 0)) * 8 + (un ((cl_take S k) 6 201 1))) = 0) := c41
    refine hr_aload_n C dX3_bring_44 rfl 0 rfl ?_
    refine hr_get (k := 0) (i := 0) (fld := 2) C (by decide) rfl rfl (by decide) kU_X3 kF_X3_22 rfl rfl dX3_bring_45 ?_
    refine hr_dup C dX3_bring_48 rfl ?_
    refine hr_get (k := 3) (i := 0) (fld := 4) C (by decide) rfl rfl (by decide) kU_X0 kF_X3_147 rfl rfl dX3_bring_49 ?_
    refine hr_iconst (v := 1) C dX3_bring_52 (by decide) ?_
    refine hr_iadd C dX3_bring_53 rfl ?_
    refine hr_put (k := 3) (i := 0) (fld := 4) C (by decide) rfl rfl (by decide) kU_X0 kF_X3_147 rfl tyX0 tyX0_ok nmX0 rfl (by decide +kernel) (Nat.le_of_ble_eq_true rfl) (by simp [hr_cell, hr_w, hr_wA, upd]) rfl dX3_bring_54 ?_
    refine hr_iconst (v := 0) C dX3_bring_57 (by decide) ?_
    exact hr_zret C hr rfl dX3_bring_58 ⟨by rw [if_neg c41], by unfold cl_bring cl_in; rw [if_neg (show ¬ cl_up (cl_take S k) from c41)]; try rfl⟩
