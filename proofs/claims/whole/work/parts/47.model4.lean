set_option maxHeartbeats 4000000 in
set_option maxRecDepth 100000 in
theorem ct_X4_lacks (l : Launch) (E : hr_E) (S : hr_S) (o : Int64) (k : Int32) (hI : hr_MI S) (h0 : S 14 0 0 = 0) : hr_Mi l E yX4_lacks (Cond.code yX4_lacks cX4_lacks 2 (some .boolean) :: hr_W) ({ frames := 1, cells := 0, slots := 0, locals := 22 } : Room) [.ref (hr_ad E 14 0), .int k] S o (fun r u => r = (if ¬ (k = nI (un k) ∧ un k < un (S 14 0 11)) then 1 else 0) ∧ u = (if ¬ (k = nI (un k) ∧ un k < un (S 14 0 11)) then hr_w S 14 0 0 1 else S)) := by
  refine hr_of (by decide) (Nat.le_of_ble_eq_true rfl) (fun p e s m below meth c C hr => ?_)
  refine hr_aload_n C dX4_lacks_0 rfl 0 rfl ?_
  refine hr_iload_n C dX4_lacks_1 rfl 1 rfl ?_
  refine hr_iconst (v := 0) C dX4_lacks_2 (by decide) ?_
  refine hr_aload_n C dX4_lacks_3 rfl 0 rfl ?_
  refine hr_get (k := 14) (i := 0) (fld := 11) C (by decide) rfl rfl (by decide) kU_X4 kF_X4_66 rfl rfl dX4_lacks_4 ?_
  refine hr_iconst (v := 1) C dX4_lacks_7 (by decide) ?_
  refine hr_isub C dX4_lacks_8 rfl ?_
  refine hr_cSi C (ct_X4_in l E S o k 0 ((S 14 0 11) - 1)) (cwS 3 C.1.2.2.2.2 (hr_gS kM_X4_52 kT_X4_in kN_X4 kC_X4_in) rfl rfl rfl (by decide +kernel) ⟨Nat.le_of_ble_eq_true rfl, Nat.le_of_ble_eq_true rfl⟩) rfl (Nat.le_of_ble_eq_true rfl) dX4_lacks_9 ⟨Nat.le_of_ble_eq_true rfl, Nat.le_of_ble_eq_true rfl⟩ (fun r1 S2 h3 => ?_) rfl
  refine hr_tp h3.1 ?_
  refine hr_st (S1 := S) h3.2 ?_
  refine hr_if_ne C 19 dX4_lacks_12 (by decide) (fun c12 => ?_) (fun c12 => ?_)
  · skip
    have c12 := hr_bn.mp c12
    have c12 : 0 ≤ k ∧ k ≤ ((S 14 0 11) - 1) := c12
    refine hr_iconst (v := 0) C dX4_lacks_19 (by decide) ?_
    refine hr_iconst (v := 1) C dX4_lacks_20 (by decide) ?_
    refine hr_cVi C (ct_X4_refuses0 l E S o 1 h0 (by decide)) (cwV 2 C.1.2.2.2.2 (hr_gV kM_X4_123 kI_X4_refuses kS_X4_refuses kN_X4 kC_X4_refuses) rfl rfl rfl (by decide +kernel) ⟨Nat.le_of_ble_eq_true rfl, Nat.le_of_ble_eq_true rfl⟩) (by decide) rfl rfl rfl (Nat.le_of_ble_eq_true rfl) dX4_lacks_21 ⟨Nat.le_of_ble_eq_true rfl, Nat.le_of_ble_eq_true rfl⟩ (fun r4 S5 h6 => ?_) rfl
    refine hr_tp h6.1 ?_
    refine hr_st (S1 := S) h6.2 ?_
    exact hr_zret C hr rfl dX4_lacks_24 ⟨by rw [if_neg (not_not_intro (show (k = nI (un k) ∧ un k < un (S 14 0 11)) from (nb_inm hI.1 (by decide)).mp c12))]; rfl, by rw [if_neg (not_not_intro (show (k = nI (un k) ∧ un k < un (S 14 0 11)) from (nb_inm hI.1 (by decide)).mp c12))]⟩
  · skip
    have c12 := hr_bz.mp c12
    have c12 : ¬ (0 ≤ k ∧ k ≤ ((S 14 0 11) - 1)) := c12
    refine hr_iconst (v := 1) C dX4_lacks_15 (by decide) ?_
    refine hr_goto C 20 dX4_lacks_16 (by decide) ?_
    refine hr_iconst (v := 1) C dX4_lacks_20 (by decide) ?_
    refine hr_cVi C (ct_X4_refuses1 l E S o 1 h0 (by decide)) (cwV 2 C.1.2.2.2.2 (hr_gV kM_X4_123 kI_X4_refuses kS_X4_refuses kN_X4 kC_X4_refuses) rfl rfl rfl (by decide +kernel) ⟨Nat.le_of_ble_eq_true rfl, Nat.le_of_ble_eq_true rfl⟩) (by decide) rfl rfl rfl (Nat.le_of_ble_eq_true rfl) dX4_lacks_21 ⟨Nat.le_of_ble_eq_true rfl, Nat.le_of_ble_eq_true rfl⟩ (fun r7 S8 h9 => ?_) rfl
    refine hr_tp h9.1 ?_
    refine hr_st (S1 := (hr_w S 14 0 0 1)) h9.2 ?_
    exact hr_zret C hr rfl dX4_lacks_24 ⟨by rw [if_pos (show ¬ (k = nI (un k) ∧ un k < un (S 14 0 11)) from fun z => c12 ((nb_inm hI.1 (by decide)).mpr z))]; rfl, by rw [if_pos (show ¬ (k = nI (un k) ∧ un k < un (S 14 0 11)) from fun z => c12 ((nb_inm hI.1 (by decide)).mpr z))]⟩
set_option maxHeartbeats 4000000 in
set_option maxRecDepth 100000 in
theorem ct_X4_link (l : Launch) (E : hr_E) (S : hr_S) (o : Int64) (a b up : Int32) : hr_Mi l E yX4_link (Cond.code yX4_link cX4_link 5 (some .boolean) :: hr_W) ({ frames := 2, cells := 0, slots := 0, locals := 42 } : Room) [.ref (hr_ad E 14 0), .int a, .int b, .int up] S o (fun r u => (¬ (nb a 8 ∧ nb b 8) ∧ u = md_r S 1) ∨ ((nb a 8 ∧ nb b 8) ∧ a = b ∧ u = md_r S 2) ∨ ((nb a 8 ∧ nb b 8 ∧ ¬ a = b) ∧ r = (if md_0 S 15 0 ((8 * un a) + un b) = up then 0 else 1) ∧ u = md_lnk (md_0 S) (un a) (un b) up)) := by
  refine hr_of (by decide) (Nat.le_of_ble_eq_true rfl) (fun p e s m below meth c C hr => ?_)
  refine hr_aload_n C dX4_link_0 rfl 0 rfl ?_
  refine hr_iconst (v := 0) C dX4_link_1 (by decide) ?_
  refine hr_put (k := 14) (i := 0) (fld := 0) C (by decide) rfl rfl (by decide) kU_X4 kF_X4_48 rfl tyX4 tyX4_ok nmX4 rfl (by decide +kernel) (Nat.le_of_ble_eq_true rfl) (by simp [hr_cell, hr_w, hr_wA, upd]) rfl dX4_link_2 ?_
  refine hr_st (S1 := md_0 S) rfl ?_
  refine hr_aload_n C dX4_link_5 rfl 0 rfl ?_
  refine hr_iload_n C dX4_link_6 rfl 1 rfl ?_
  refine hr_cSi C (ct_X4_isRouter l E (md_0 S) o a) (cwS 1 C.1.2.2.2.2 (hr_gS kM_X4_120 kT_X4_isRouter kN_X4 kC_X4_isRouter) rfl rfl rfl (by decide +kernel) ⟨Nat.le_of_ble_eq_true rfl, Nat.le_of_ble_eq_true rfl⟩) rfl (Nat.le_of_ble_eq_true rfl) dX4_link_7 ⟨Nat.le_of_ble_eq_true rfl, Nat.le_of_ble_eq_true rfl⟩ (fun r1 S2 h3 => ?_) rfl
  refine hr_tp h3.1 ?_
  refine hr_st (S1 := (md_0 S)) h3.2 ?_
  refine hr_if_eq C 20 dX4_link_10 (by decide) (fun c10 => ?_) (fun c10 => ?_)
  · skip
    have c10 := hr_bz.mp c10
    have c10 : ¬ (0 ≤ a ∧ a ≤ 7) := c10
    refine hr_iconst (v := 1) C dX4_link_20 (by decide) ?_
    refine hr_goto C 25 dX4_link_21 (by decide) ?_
    refine hr_iconst (v := 1) C dX4_link_25 (by decide) ?_
    refine hr_cVi C (ct_X4_refuses1 l E (md_0 S) o 1 (md_0_0 S) (by decide)) (cwV 2 C.1.2.2.2.2 (hr_gV kM_X4_123 kI_X4_refuses kS_X4_refuses kN_X4 kC_X4_refuses) rfl rfl rfl (by decide +kernel) ⟨Nat.le_of_ble_eq_true rfl, Nat.le_of_ble_eq_true rfl⟩) (by decide) rfl rfl rfl (Nat.le_of_ble_eq_true rfl) dX4_link_26 ⟨Nat.le_of_ble_eq_true rfl, Nat.le_of_ble_eq_true rfl⟩ (fun r4 S5 h6 => ?_) rfl
    refine hr_tp h6.1 ?_
    refine hr_st (S1 := (hr_w (md_0 S) 14 0 0 1)) h6.2 ?_
    refine hr_if_ne C 50 dX4_link_29 (by decide) (fun c29 => ?_) (fun c29 => ?_)
    · skip
      have c29 := hr_bn.mp c29
      have c29 : True := c29
      refine hr_iconst (v := 0) C dX4_link_50 (by decide) ?_
      exact hr_zret C hr rfl dX4_link_51 (Or.inl ⟨fun h => c10 (nb_07i h.1), rfl⟩)
    · skip
      have c29 := hr_bz.mp c29
      have c29 : ¬ (True) := c29
      exact (c29 trivial).elim
  · skip
    have c10 := hr_bn.mp c10
    have c10 : 0 ≤ a ∧ a ≤ 7 := c10
    refine hr_iload_n C dX4_link_13 rfl 2 rfl ?_
    refine hr_cSi C (ct_X4_isRouter l E (md_0 S) o b) (cwS 1 C.1.2.2.2.2 (hr_gS kM_X4_120 kT_X4_isRouter kN_X4 kC_X4_isRouter) rfl rfl rfl (by decide +kernel) ⟨Nat.le_of_ble_eq_true rfl, Nat.le_of_ble_eq_true rfl⟩) rfl (Nat.le_of_ble_eq_true rfl) dX4_link_14 ⟨Nat.le_of_ble_eq_true rfl, Nat.le_of_ble_eq_true rfl⟩ (fun r7 S8 h9 => ?_) rfl
    refine hr_tp h9.1 ?_
    refine hr_st (S1 := (md_0 S)) h9.2 ?_
    refine hr_if_ne C 24 dX4_link_17 (by decide) (fun c17 => ?_) (fun c17 => ?_)
    · skip
      have c17 := hr_bn.mp c17
      have c17 : 0 ≤ b ∧ b ≤ 7 := c17
      refine hr_iconst (v := 0) C dX4_link_24 (by decide) ?_
      refine hr_iconst (v := 1) C dX4_link_25 (by decide) ?_
      refine hr_cVi C (ct_X4_refuses0 l E (md_0 S) o 1 (md_0_0 S) (by decide)) (cwV 2 C.1.2.2.2.2 (hr_gV kM_X4_123 kI_X4_refuses kS_X4_refuses kN_X4 kC_X4_refuses) rfl rfl rfl (by decide +kernel) ⟨Nat.le_of_ble_eq_true rfl, Nat.le_of_ble_eq_true rfl⟩) (by decide) rfl rfl rfl (Nat.le_of_ble_eq_true rfl) dX4_link_26 ⟨Nat.le_of_ble_eq_true rfl, Nat.le_of_ble_eq_true rfl⟩ (fun r10 S11 h12 => ?_) rfl
      refine hr_tp h12.1 ?_
      refine hr_st (S1 := (md_0 S)) h12.2 ?_
      refine hr_if_ne C 50 dX4_link_29 (by decide) (fun c29 => ?_) (fun c29 => ?_)
      · skip
        have c29 := hr_bn.mp c29
        have c29 : False := c29
        exact c29.elim
      · skip
        have c29 := hr_bz.mp c29
        have c29 : ¬ (False) := c29
        have fA := nb_07 c10
        have fB := nb_07 c17
        have hA := fA.2
        have hB := fB.2
        refine hr_aload_n C dX4_link_32 rfl 0 rfl ?_
        refine hr_iload_n C dX4_link_33 rfl 1 rfl ?_
        refine hr_tp (y := nI (un a)) fA.1 ?_
        refine hr_iload_n C dX4_link_34 rfl 2 rfl ?_
        refine hr_tp (y := nI (un b)) fB.1 ?_
        refine hr_icmp_ne C 42 dX4_link_35 (by decide) (fun c35 => ?_) (fun c35 => ?_)
        · skip
          have c35 : ¬ (un a) = (un b) := fun h => c35 ((nI_eq (a := (un a)) (b := (un b)) (by omega) (by omega)).mpr h)
          refine hr_iconst (v := 0) C dX4_link_42 (by decide) ?_
          refine hr_iconst (v := 2) C dX4_link_43 (by decide) ?_
          refine hr_cVi C (ct_X4_refuses0 l E (md_0 S) o 2 (md_0_0 S) (by decide)) (cwV 2 C.1.2.2.2.2 (hr_gV kM_X4_123 kI_X4_refuses kS_X4_refuses kN_X4 kC_X4_refuses) rfl rfl rfl (by decide +kernel) ⟨Nat.le_of_ble_eq_true rfl, Nat.le_of_ble_eq_true rfl⟩) (by decide) rfl rfl rfl (Nat.le_of_ble_eq_true rfl) dX4_link_44 ⟨Nat.le_of_ble_eq_true rfl, Nat.le_of_ble_eq_true rfl⟩ (fun r13 S14 h15 => ?_) rfl
          refine hr_tp h15.1 ?_
          refine hr_st (S1 := (md_0 S)) h15.2 ?_
          refine hr_if_eq C 52 dX4_link_47 (by decide) (fun c47 => ?_) (fun c47 => ?_)
          · skip
            have c47 := hr_bz.mp c47
            have c47 : ¬ (False) := c47
            refine hr_aload_n C dX4_link_52 rfl 0 rfl ?_
            refine hr_get (k := 14) (i := 0) (fld := 5) C (by decide) rfl rfl (by decide) kU_X4 kF_X4_7 rfl rfl dX4_link_53 ?_
            refine hr_bipush (v := 8) C dX4_link_56 (by decide) ?_
            refine hr_iload_n C dX4_link_58 rfl 1 rfl ?_
            refine hr_tp (y := nI (un a)) fA.1 ?_
            refine hr_imul (v := nI (8 * (un a))) C dX4_link_59 (pk_mul 8 (un a)) ?_
            refine hr_iload_n C dX4_link_60 rfl 2 rfl ?_
            refine hr_tp (y := nI (un b)) fB.1 ?_
            refine hr_iadd (v := nI ((8 * (un a)) + (un b))) C dX4_link_61 (nI_add (8 * (un a)) (un b)) ?_
            refine hr_zald (k := 15) (i := 0) ((8 * (un a)) + (un b)) C (by decide) rfl rfl (show (8 * (un a)) + (un b) < 64 by omega) (by decide) dX4_link_62 ?_
            refine hr_iload_n C dX4_link_63 rfl 3 rfl ?_
            refine hr_icmp_eq C 71 dX4_link_64 (by decide) (fun c64 => ?_) (fun c64 => ?_)
            · skip
              refine hr_iconst (v := 0) C dX4_link_71 (by decide) ?_
              refine hr_istore C [(4, .int 0), (0, .ref (hr_ad E 14 0)), (1, .int a), (2, .int b), (3, .int up)] dX4_link_72 (by decide) rfl ?_
              refine hr_aload_n C dX4_link_74 rfl 1 rfl ?_
              refine hr_get (k := 14) (i := 0) (fld := 5) C (by decide) rfl rfl (by decide) kU_X4 kF_X4_7 rfl rfl dX4_link_75 ?_
              refine hr_bipush (v := 8) C dX4_link_78 (by decide) ?_
              refine hr_iload_n C dX4_link_80 rfl 2 rfl ?_
              refine hr_tp (y := nI (un a)) fA.1 ?_
              refine hr_imul (v := nI (8 * (un a))) C dX4_link_81 (pk_mul 8 (un a)) ?_
              refine hr_iload_n C dX4_link_82 rfl 3 rfl ?_
              refine hr_tp (y := nI (un b)) fB.1 ?_
              refine hr_iadd (v := nI ((8 * (un a)) + (un b))) C dX4_link_83 (nI_add (8 * (un a)) (un b)) ?_
              refine hr_iload_n C dX4_link_84 rfl 4 rfl ?_
              refine hr_zast (k := 15) (i := 0) ((8 * (un a)) + (un b)) C (by decide) rfl rfl (show (8 * (un a)) + (un b) < 64 by omega) (by decide) (by simp [hr_cell, hr_wA]) rfl dX4_link_85 ?_
              refine hr_aload_n C dX4_link_86 rfl 1 rfl ?_
              refine hr_get (k := 14) (i := 0) (fld := 5) C (by decide) rfl rfl (by decide) kU_X4 kF_X4_7 rfl rfl dX4_link_87 ?_
              refine hr_bipush (v := 8) C dX4_link_90 (by decide) ?_
              refine hr_iload_n C dX4_link_92 rfl 3 rfl ?_
              refine hr_tp (y := nI (un b)) fB.1 ?_
              refine hr_imul (v := nI (8 * (un b))) C dX4_link_93 (pk_mul 8 (un b)) ?_
              refine hr_iload_n C dX4_link_94 rfl 2 rfl ?_
              refine hr_tp (y := nI (un a)) fA.1 ?_
              refine hr_iadd (v := nI ((8 * (un b)) + (un a))) C dX4_link_95 (nI_add (8 * (un b)) (un a)) ?_
              refine hr_iload_n C dX4_link_96 rfl 4 rfl ?_
              refine hr_zast (k := 15) (i := 0) ((8 * (un b)) + (un a)) C (by decide) rfl rfl (show (8 * (un b)) + (un a) < 64 by omega) (by decide) (by simp [hr_cell, hr_wA]) rfl dX4_link_97 ?_
              refine hr_iload C dX4_link_98 0 rfl ?_
              exact hr_zret C hr rfl dX4_link_100 (Or.inr (Or.inr ⟨⟨fA, fB, (fun h => c35 (by rw [h]))⟩, by rw [if_pos c64], rfl⟩))
            · skip
              refine hr_iconst (v := 1) C dX4_link_67 (by decide) ?_
              refine hr_goto C 72 dX4_link_68 (by decide) ?_
              refine hr_istore C [(4, .int 1), (0, .ref (hr_ad E 14 0)), (1, .int a), (2, .int b), (3, .int up)] dX4_link_72 (by decide) rfl ?_
              refine hr_aload_n C dX4_link_74 rfl 1 rfl ?_
              refine hr_get (k := 14) (i := 0) (fld := 5) C (by decide) rfl rfl (by decide) kU_X4 kF_X4_7 rfl rfl dX4_link_75 ?_
              refine hr_bipush (v := 8) C dX4_link_78 (by decide) ?_
              refine hr_iload_n C dX4_link_80 rfl 2 rfl ?_
              refine hr_tp (y := nI (un a)) fA.1 ?_
              refine hr_imul (v := nI (8 * (un a))) C dX4_link_81 (pk_mul 8 (un a)) ?_
              refine hr_iload_n C dX4_link_82 rfl 3 rfl ?_
              refine hr_tp (y := nI (un b)) fB.1 ?_
              refine hr_iadd (v := nI ((8 * (un a)) + (un b))) C dX4_link_83 (nI_add (8 * (un a)) (un b)) ?_
              refine hr_iload_n C dX4_link_84 rfl 4 rfl ?_
              refine hr_zast (k := 15) (i := 0) ((8 * (un a)) + (un b)) C (by decide) rfl rfl (show (8 * (un a)) + (un b) < 64 by omega) (by decide) (by simp [hr_cell, hr_wA]) rfl dX4_link_85 ?_
              refine hr_aload_n C dX4_link_86 rfl 1 rfl ?_
              refine hr_get (k := 14) (i := 0) (fld := 5) C (by decide) rfl rfl (by decide) kU_X4 kF_X4_7 rfl rfl dX4_link_87 ?_
              refine hr_bipush (v := 8) C dX4_link_90 (by decide) ?_
              refine hr_iload_n C dX4_link_92 rfl 3 rfl ?_
              refine hr_tp (y := nI (un b)) fB.1 ?_
              refine hr_imul (v := nI (8 * (un b))) C dX4_link_93 (pk_mul 8 (un b)) ?_
              refine hr_iload_n C dX4_link_94 rfl 2 rfl ?_
              refine hr_tp (y := nI (un a)) fA.1 ?_
              refine hr_iadd (v := nI ((8 * (un b)) + (un a))) C dX4_link_95 (nI_add (8 * (un b)) (un a)) ?_
              refine hr_iload_n C dX4_link_96 rfl 4 rfl ?_
              refine hr_zast (k := 15) (i := 0) ((8 * (un b)) + (un a)) C (by decide) rfl rfl (show (8 * (un b)) + (un a) < 64 by omega) (by decide) (by simp [hr_cell, hr_wA]) rfl dX4_link_97 ?_
              refine hr_iload C dX4_link_98 0 rfl ?_
              exact hr_zret C hr rfl dX4_link_100 (Or.inr (Or.inr ⟨⟨fA, fB, (fun h => c35 (by rw [h]))⟩, by rw [if_neg c64], rfl⟩))
          · skip
            have c47 := hr_bn.mp c47
            have c47 : False := c47
            exact c47.elim
        · skip
          have c35 : (un a) = (un b) := (nI_eq (a := (un a)) (b := (un b)) (by omega) (by omega)).mp c35
          refine hr_iconst (v := 1) C dX4_link_38 (by decide) ?_
          refine hr_goto C 43 dX4_link_39 (by decide) ?_
          refine hr_iconst (v := 2) C dX4_link_43 (by decide) ?_
          refine hr_cVi C (ct_X4_refuses1 l E (md_0 S) o 2 (md_0_0 S) (by decide)) (cwV 2 C.1.2.2.2.2 (hr_gV kM_X4_123 kI_X4_refuses kS_X4_refuses kN_X4 kC_X4_refuses) rfl rfl rfl (by decide +kernel) ⟨Nat.le_of_ble_eq_true rfl, Nat.le_of_ble_eq_true rfl⟩) (by decide) rfl rfl rfl (Nat.le_of_ble_eq_true rfl) dX4_link_44 ⟨Nat.le_of_ble_eq_true rfl, Nat.le_of_ble_eq_true rfl⟩ (fun r16 S17 h18 => ?_) rfl
          refine hr_tp h18.1 ?_
          refine hr_st (S1 := (hr_w (md_0 S) 14 0 0 2)) h18.2 ?_
          refine hr_if_eq C 52 dX4_link_47 (by decide) (fun c47 => ?_) (fun c47 => ?_)
          · skip
            have c47 := hr_bz.mp c47
            have c47 : ¬ (True) := c47
            exact (c47 trivial).elim
          · skip
            have c47 := hr_bn.mp c47
            have c47 : True := c47
            refine hr_iconst (v := 0) C dX4_link_50 (by decide) ?_
            exact hr_zret C hr rfl dX4_link_51 (Or.inr (Or.inl ⟨⟨fA, fB⟩, un_inj fA fB c35, rfl⟩))
    · skip
      have c17 := hr_bz.mp c17
      have c17 : ¬ (0 ≤ b ∧ b ≤ 7) := c17
      refine hr_iconst (v := 1) C dX4_link_20 (by decide) ?_
      refine hr_goto C 25 dX4_link_21 (by decide) ?_
      refine hr_iconst (v := 1) C dX4_link_25 (by decide) ?_
      refine hr_cVi C (ct_X4_refuses1 l E (md_0 S) o 1 (md_0_0 S) (by decide)) (cwV 2 C.1.2.2.2.2 (hr_gV kM_X4_123 kI_X4_refuses kS_X4_refuses kN_X4 kC_X4_refuses) rfl rfl rfl (by decide +kernel) ⟨Nat.le_of_ble_eq_true rfl, Nat.le_of_ble_eq_true rfl⟩) (by decide) rfl rfl rfl (Nat.le_of_ble_eq_true rfl) dX4_link_26 ⟨Nat.le_of_ble_eq_true rfl, Nat.le_of_ble_eq_true rfl⟩ (fun r19 S20 h21 => ?_) rfl
      refine hr_tp h21.1 ?_
      refine hr_st (S1 := (hr_w (md_0 S) 14 0 0 1)) h21.2 ?_
      refine hr_if_ne C 50 dX4_link_29 (by decide) (fun c29 => ?_) (fun c29 => ?_)
      · skip
        have c29 := hr_bn.mp c29
        have c29 : True := c29
        refine hr_iconst (v := 0) C dX4_link_50 (by decide) ?_
        exact hr_zret C hr rfl dX4_link_51 (Or.inl ⟨fun h => c17 (nb_07i h.2), rfl⟩)
      · skip
        have c29 := hr_bz.mp c29
        have c29 : ¬ (True) := c29
        exact (c29 trivial).elim
set_option maxHeartbeats 4000000 in
set_option maxRecDepth 100000 in
theorem ct_X4_sees (l : Launch) (E : hr_E) (S : hr_S) (o : Int64) (a b : Int32) : hr_Mi l E yX4_sees (Cond.code yX4_sees cX4_sees 5 (some .int) :: hr_W) ({ frames := 2, cells := 0, slots := 0, locals := 42 } : Room) [.ref (hr_ad E 14 0), .int a, .int b] S o (fun r u => (¬ (nb a 8 ∧ nb b 8) ∧ u = md_r S 1) ∨ ((nb a 8 ∧ nb b 8) ∧ a = b ∧ u = md_r S 2) ∨ ((nb a 8 ∧ nb b 8 ∧ ¬ a = b) ∧ ¬ md_0 S 15 0 ((8 * un a) + un b) = 0 ∧ u = md_r S 3) ∨ ((nb a 8 ∧ nb b 8 ∧ ¬ a = b) ∧ md_0 S 15 0 ((8 * un a) + un b) = 0 ∧ r = nI (md_seL (md_0 S) (un a) (nI (un b)) 8).2 ∧ u = (md_seL (md_0 S) (un a) (nI (un b)) 8).1)) := by
  refine hr_of (by decide) (Nat.le_of_ble_eq_true rfl) (fun p e s m below meth c C hr => ?_)
  refine hr_aload_n C dX4_sees_0 rfl 0 rfl ?_
  refine hr_iconst (v := 0) C dX4_sees_1 (by decide) ?_
  refine hr_put (k := 14) (i := 0) (fld := 0) C (by decide) rfl rfl (by decide) kU_X4 kF_X4_48 rfl tyX4 tyX4_ok nmX4 rfl (by decide +kernel) (Nat.le_of_ble_eq_true rfl) (by simp [hr_cell, hr_w, hr_wA, upd]) rfl dX4_sees_2 ?_
  refine hr_st (S1 := md_0 S) rfl ?_
  refine hr_aload_n C dX4_sees_5 rfl 0 rfl ?_
  refine hr_iload_n C dX4_sees_6 rfl 1 rfl ?_
  refine hr_cSi C (ct_X4_isRouter l E (md_0 S) o a) (cwS 1 C.1.2.2.2.2 (hr_gS kM_X4_120 kT_X4_isRouter kN_X4 kC_X4_isRouter) rfl rfl rfl (by decide +kernel) ⟨Nat.le_of_ble_eq_true rfl, Nat.le_of_ble_eq_true rfl⟩) rfl (Nat.le_of_ble_eq_true rfl) dX4_sees_7 ⟨Nat.le_of_ble_eq_true rfl, Nat.le_of_ble_eq_true rfl⟩ (fun r1 S2 h3 => ?_) rfl
  refine hr_tp h3.1 ?_
  refine hr_st (S1 := (md_0 S)) h3.2 ?_
  refine hr_if_eq C 20 dX4_sees_10 (by decide) (fun c10 => ?_) (fun c10 => ?_)
  · skip
    have c10 := hr_bz.mp c10
    have c10 : ¬ (0 ≤ a ∧ a ≤ 7) := c10
    refine hr_iconst (v := 1) C dX4_sees_20 (by decide) ?_
    refine hr_goto C 25 dX4_sees_21 (by decide) ?_
    refine hr_iconst (v := 1) C dX4_sees_25 (by decide) ?_
    refine hr_cVi C (ct_X4_refuses1 l E (md_0 S) o 1 (md_0_0 S) (by decide)) (cwV 2 C.1.2.2.2.2 (hr_gV kM_X4_123 kI_X4_refuses kS_X4_refuses kN_X4 kC_X4_refuses) rfl rfl rfl (by decide +kernel) ⟨Nat.le_of_ble_eq_true rfl, Nat.le_of_ble_eq_true rfl⟩) (by decide) rfl rfl rfl (Nat.le_of_ble_eq_true rfl) dX4_sees_26 ⟨Nat.le_of_ble_eq_true rfl, Nat.le_of_ble_eq_true rfl⟩ (fun r4 S5 h6 => ?_) rfl
    refine hr_tp h6.1 ?_
    refine hr_st (S1 := (hr_w (md_0 S) 14 0 0 1)) h6.2 ?_
    refine hr_if_ne C 69 dX4_sees_29 (by decide) (fun c29 => ?_) (fun c29 => ?_)
    · skip
      have c29 := hr_bn.mp c29
      have c29 : True := c29
      refine hr_iconst (v := 0) C dX4_sees_69 (by decide) ?_
      exact hr_iret C hr dX4_sees_70 (Or.inl ⟨fun h => c10 (nb_07i h.1), rfl⟩)
    · skip
      have c29 := hr_bz.mp c29
      have c29 : ¬ (True) := c29
      exact (c29 trivial).elim
  · skip
    have c10 := hr_bn.mp c10
    have c10 : 0 ≤ a ∧ a ≤ 7 := c10
    refine hr_iload_n C dX4_sees_13 rfl 2 rfl ?_
    refine hr_cSi C (ct_X4_isRouter l E (md_0 S) o b) (cwS 1 C.1.2.2.2.2 (hr_gS kM_X4_120 kT_X4_isRouter kN_X4 kC_X4_isRouter) rfl rfl rfl (by decide +kernel) ⟨Nat.le_of_ble_eq_true rfl, Nat.le_of_ble_eq_true rfl⟩) rfl (Nat.le_of_ble_eq_true rfl) dX4_sees_14 ⟨Nat.le_of_ble_eq_true rfl, Nat.le_of_ble_eq_true rfl⟩ (fun r7 S8 h9 => ?_) rfl
    refine hr_tp h9.1 ?_
    refine hr_st (S1 := (md_0 S)) h9.2 ?_
    refine hr_if_ne C 24 dX4_sees_17 (by decide) (fun c17 => ?_) (fun c17 => ?_)
    · skip
      have c17 := hr_bn.mp c17
      have c17 : 0 ≤ b ∧ b ≤ 7 := c17
      refine hr_iconst (v := 0) C dX4_sees_24 (by decide) ?_
      refine hr_iconst (v := 1) C dX4_sees_25 (by decide) ?_
      refine hr_cVi C (ct_X4_refuses0 l E (md_0 S) o 1 (md_0_0 S) (by decide)) (cwV 2 C.1.2.2.2.2 (hr_gV kM_X4_123 kI_X4_refuses kS_X4_refuses kN_X4 kC_X4_refuses) rfl rfl rfl (by decide +kernel) ⟨Nat.le_of_ble_eq_true rfl, Nat.le_of_ble_eq_true rfl⟩) (by decide) rfl rfl rfl (Nat.le_of_ble_eq_true rfl) dX4_sees_26 ⟨Nat.le_of_ble_eq_true rfl, Nat.le_of_ble_eq_true rfl⟩ (fun r10 S11 h12 => ?_) rfl
      refine hr_tp h12.1 ?_
      refine hr_st (S1 := (md_0 S)) h12.2 ?_
      refine hr_if_ne C 69 dX4_sees_29 (by decide) (fun c29 => ?_) (fun c29 => ?_)
      · skip
        have c29 := hr_bn.mp c29
        have c29 : False := c29
        exact c29.elim
      · skip
        have c29 := hr_bz.mp c29
        have c29 : ¬ (False) := c29
        have fA := nb_07 c10
        have fB := nb_07 c17
        have hA := fA.2
        have hB := fB.2
        refine hr_aload_n C dX4_sees_32 rfl 0 rfl ?_
        refine hr_iload_n C dX4_sees_33 rfl 1 rfl ?_
        refine hr_tp (y := nI (un a)) fA.1 ?_
        refine hr_iload_n C dX4_sees_34 rfl 2 rfl ?_
        refine hr_tp (y := nI (un b)) fB.1 ?_
        refine hr_icmp_ne C 42 dX4_sees_35 (by decide) (fun c35 => ?_) (fun c35 => ?_)
        · skip
          have c35 : ¬ (un a) = (un b) := fun h => c35 ((nI_eq (a := (un a)) (b := (un b)) (by omega) (by omega)).mpr h)
          refine hr_iconst (v := 0) C dX4_sees_42 (by decide) ?_
          refine hr_iconst (v := 2) C dX4_sees_43 (by decide) ?_
          refine hr_cVi C (ct_X4_refuses0 l E (md_0 S) o 2 (md_0_0 S) (by decide)) (cwV 2 C.1.2.2.2.2 (hr_gV kM_X4_123 kI_X4_refuses kS_X4_refuses kN_X4 kC_X4_refuses) rfl rfl rfl (by decide +kernel) ⟨Nat.le_of_ble_eq_true rfl, Nat.le_of_ble_eq_true rfl⟩) (by decide) rfl rfl rfl (Nat.le_of_ble_eq_true rfl) dX4_sees_44 ⟨Nat.le_of_ble_eq_true rfl, Nat.le_of_ble_eq_true rfl⟩ (fun r13 S14 h15 => ?_) rfl
          refine hr_tp h15.1 ?_
          refine hr_st (S1 := (md_0 S)) h15.2 ?_
          refine hr_if_ne C 69 dX4_sees_47 (by decide) (fun c47 => ?_) (fun c47 => ?_)
          · skip
            have c47 := hr_bn.mp c47
            have c47 : False := c47
            exact c47.elim
          · skip
            have c47 := hr_bz.mp c47
            have c47 : ¬ (False) := c47
            refine hr_aload_n C dX4_sees_50 rfl 0 rfl ?_
            refine hr_aload_n C dX4_sees_51 rfl 0 rfl ?_
            refine hr_get (k := 14) (i := 0) (fld := 5) C (by decide) rfl rfl (by decide) kU_X4 kF_X4_7 rfl rfl dX4_sees_52 ?_
            refine hr_bipush (v := 8) C dX4_sees_55 (by decide) ?_
            refine hr_iload_n C dX4_sees_57 rfl 1 rfl ?_
            refine hr_tp (y := nI (un a)) fA.1 ?_
            refine hr_imul (v := nI (8 * (un a))) C dX4_sees_58 (pk_mul 8 (un a)) ?_
            refine hr_iload_n C dX4_sees_59 rfl 2 rfl ?_
            refine hr_tp (y := nI (un b)) fB.1 ?_
            refine hr_iadd (v := nI ((8 * (un a)) + (un b))) C dX4_sees_60 (nI_add (8 * (un a)) (un b)) ?_
            refine hr_zald (k := 15) (i := 0) ((8 * (un a)) + (un b)) C (by decide) rfl rfl (show (8 * (un a)) + (un b) < 64 by omega) (by decide) dX4_sees_61 ?_
            refine hr_iconst (v := 3) C dX4_sees_62 (by decide) ?_
            refine hr_cVi C (ct_X4_refusesb l E (md_0 S) o ((md_0 S) 15 0 ((8 * (un a)) + (un b))) 3 (md_0_0 S) (by decide)) (cwV 2 C.1.2.2.2.2 (hr_gV kM_X4_123 kI_X4_refuses kS_X4_refuses kN_X4 kC_X4_refuses) rfl rfl rfl (by decide +kernel) ⟨Nat.le_of_ble_eq_true rfl, Nat.le_of_ble_eq_true rfl⟩) (by decide) rfl rfl rfl (Nat.le_of_ble_eq_true rfl) dX4_sees_63 ⟨Nat.le_of_ble_eq_true rfl, Nat.le_of_ble_eq_true rfl⟩ (fun r16 S17 h18 => ?_) rfl
            refine hr_tp h18.1 ?_
            refine hr_st (S1 := (if ¬ ((md_0 S) 15 0 ((8 * (un a)) + (un b))) = 0 then hr_w (md_0 S) 14 0 0 3 else (md_0 S))) h18.2 ?_
            refine hr_if_eq C 71 dX4_sees_66 (by decide) (fun c66 => ?_) (fun c66 => ?_)
            · skip
              have c66 := hr_bz.mp c66
              have c66 : ¬ (¬ ((md_0 S) 15 0 ((8 * (un a)) + (un b))) = 0) := c66
              refine hr_st (S1 := md_0 S) (if_neg c66) ?_
              refine hr_iconst (v := 0) C dX4_sees_71 (by decide) ?_
              refine hr_istore_n C [(3, .int 0), (0, .ref (hr_ad E 14 0)), (1, .int a), (2, .int b)] dX4_sees_72 rfl (by decide) rfl ?_
              refine hr_bipush (v := 8) C dX4_sees_73 (by decide) ?_
              refine hr_iload_n C dX4_sees_75 rfl 2 rfl ?_
              refine hr_tp (y := nI (un a)) fA.1 ?_
              refine hr_imul (v := nI (8 * (un a))) C dX4_sees_76 (pk_mul 8 (un a)) ?_
              refine hr_istore C [(4, .int (nI (8 * (un a)))), (3, .int 0), (0, .ref (hr_ad E 14 0)), (1, .int a), (2, .int b)] dX4_sees_77 (by decide) rfl ?_
              have LP79 : ∀ (n d : Nat) , d ≤ 8 → 8 + 1 ≤ d + n → hr_G p l e ({ frames := 2, cells := 0, slots := 0, locals := 42 } : Room) s m #[.ref (hr_ad E 14 0), .int a, .int b] below meth c (MQ below (va_Qi (fun r u => (¬ (nb a 8 ∧ nb b 8) ∧ u = md_r S 1) ∨ ((nb a 8 ∧ nb b 8) ∧ a = b ∧ u = md_r S 2) ∨ ((nb a 8 ∧ nb b 8 ∧ ¬ a = b) ∧ ¬ md_0 S 15 0 ((8 * un a) + un b) = 0 ∧ u = md_r S 3) ∨ ((nb a 8 ∧ nb b 8 ∧ ¬ a = b) ∧ md_0 S 15 0 ((8 * un a) + un b) = 0 ∧ r = nI (md_seL (md_0 S) (un a) (nI (un b)) 8).2 ∧ u = (md_seL (md_0 S) (un a) (nI (un b)) 8).1)) (fun u t => hr_P E u o t.heap) (hr_A E)) #[.ref (hr_ad E 14 0), .int a, .int b] s 0 0 (hr_A E)) E 5 0 0 ((md_seL (md_0 S) (un a) (nI (un b)) d).1) o [(0, .ref (hr_ad E 14 0)), (1, .int a), (2, .int b), (3, .int (nI ((md_seL (md_0 S) (un a) (nI (un b)) d).2))), (4, .int (nI ((8 * (un a)) + d)))] 79 [] := by
                intro n
                induction n with
                | zero => intro d  h1 h2; omega
                | succ n ih =>
                  intro d  hv1 hv2
                  refine hr_iload C dX4_sees_79 4 rfl ?_
                  refine hr_bipush (v := 8) C dX4_sees_81 (by decide) ?_
                  refine hr_iload_n C dX4_sees_83 rfl 1 rfl ?_
                  refine hr_tp (y := nI (un a)) fA.1 ?_
                  refine hr_imul (v := nI (8 * (un a))) C dX4_sees_84 (pk_mul 8 (un a)) ?_
                  refine hr_bipush (v := 8) C dX4_sees_85 (by decide) ?_
                  refine hr_iadd (v := nI ((8 * (un a)) + 8)) C dX4_sees_87 (nI_add (8 * (un a)) 8) ?_
                  refine hr_icmp_ge C 143 dX4_sees_88 (by decide) (fun c88 => ?_) (fun c88 => ?_)
                  · skip
                    have c88 : ((8 * (un a)) + 8) ≤ ((8 * (un a)) + d) := (nI_leI (a := ((8 * (un a)) + 8)) (b := ((8 * (un a)) + d)) (by omega) (by omega)).mp c88
                    have c88n : ¬ ((8 * (un a)) + d) < ((8 * (un a)) + 8) := Nat.not_lt.mpr c88
                    refine hr_iload_n C dX4_sees_143 rfl 3 rfl ?_
                    exact hr_iret C hr dX4_sees_144 (Or.inr (Or.inr (Or.inr ⟨⟨fA, fB, (fun h => c35 (by rw [h]))⟩, Decidable.not_not.mp c66, by rw [show d = 8 by omega], by rw [show d = 8 by omega]⟩)))
                  · skip
                    have c88 : ¬ ((8 * (un a)) + 8) ≤ ((8 * (un a)) + d) := fun h => c88 ((nI_leI (a := ((8 * (un a)) + 8)) (b := ((8 * (un a)) + d)) (by omega) (by omega)).mpr h)
                    have c88n : ((8 * (un a)) + d) < ((8 * (un a)) + 8) := Nat.not_le.mp c88
                    refine hr_aload_n C dX4_sees_91 rfl 0 rfl ?_
                    refine hr_get (k := 14) (i := 0) (fld := 6) C (by decide) rfl rfl (by decide) kU_X4 kF_X4_13 rfl rfl dX4_sees_92 ?_
                    refine hr_iload C dX4_sees_95 4 rfl ?_
                    refine hr_iald (k := 16) (i := 0) ((8 * (un a)) + d) C (by decide) rfl rfl (show (8 * (un a)) + d < 64 by omega) (by decide) dX4_sees_97 ?_
                    refine hr_iconst (v := 1) C dX4_sees_98 (by decide) ?_
                    refine hr_bipush (v := 15) C dX4_sees_99 (by decide) ?_
                    refine hr_cSi C (ct_X4_in l E ((md_seL (md_0 S) (un a) (nI (un b)) d).1) o (((md_seL (md_0 S) (un a) (nI (un b)) d).1) 16 0 ((8 * (un a)) + d)) 1 15) (cwS 3 C.1.2.2.2.2 (hr_gS kM_X4_52 kT_X4_in kN_X4 kC_X4_in) rfl rfl rfl (by decide +kernel) ⟨Nat.le_of_ble_eq_true rfl, Nat.le_of_ble_eq_true rfl⟩) rfl (Nat.le_of_ble_eq_true rfl) dX4_sees_101 ⟨Nat.le_of_ble_eq_true rfl, Nat.le_of_ble_eq_true rfl⟩ (fun r19 S20 h21 => ?_) rfl
                    refine hr_tp h21.1 ?_
                    refine hr_st (S1 := ((md_seL (md_0 S) (un a) (nI (un b)) d).1)) h21.2 ?_
                    refine hr_if_eq C 137 dX4_sees_104 (by decide) (fun c104 => ?_) (fun c104 => ?_)
                    · skip
                      have c104 := hr_bz.mp c104
                      have c104 : ¬ (1 ≤ (((md_seL (md_0 S) (un a) (nI (un b)) d).1) 16 0 ((8 * (un a)) + d)) ∧ (((md_seL (md_0 S) (un a) (nI (un b)) d).1) 16 0 ((8 * (un a)) + d)) ≤ 15) := c104
                      have e1 : md_seL (md_0 S) (un a) (nI (un b)) (d + 1) = md_seL (md_0 S) (un a) (nI (un b)) d := by rw [md_seL, if_neg (fun h => c104 h.1)]
                      refine hr_iinc (v := nI ((8 * (un a)) + d + 1)) C [(4, .int (nI ((8 * (un a)) + d + 1))), (0, .ref (hr_ad E 14 0)), (1, .int a), (2, .int b), (3, .int (nI ((md_seL (md_0 S) (un a) (nI (un b)) d).2)))] dX4_sees_137 4 rfl (nI_add ((8 * (un a)) + d) 1) (by decide) rfl ?_
                      refine hr_goto C 79 dX4_sees_140 (by decide) ?_
                      refine hr_sub [1, 2, 3, 4, 0] rfl ?_
                      refine hr_lve (lv2 := [(0, .ref (hr_ad E 14 0)), (1, .int a), (2, .int b), (3, .int (nI ((md_seL (md_0 S) (un a) (nI (un b)) (d + 1)).2))), (4, .int (nI ((8 * (un a)) + (d + 1))))]) (by rw [e1]; first | done | rfl) ?_
                      refine hr_st (S1 := (md_seL (md_0 S) (un a) (nI (un b)) (d + 1)).1) (by rw [e1]) ?_
                      exact ih (d + 1)  (by omega) (by omega)
                    · skip
                      have c104 := hr_bn.mp c104
                      have c104 : 1 ≤ (((md_seL (md_0 S) (un a) (nI (un b)) d).1) 16 0 ((8 * (un a)) + d)) ∧ (((md_seL (md_0 S) (un a) (nI (un b)) d).1) 16 0 ((8 * (un a)) + d)) ≤ 15 := c104
                      refine hr_aload_n C dX4_sees_107 rfl 0 rfl ?_
                      refine hr_get (k := 14) (i := 0) (fld := 7) C (by decide) rfl rfl (by decide) kU_X4 kF_X4_17 rfl rfl dX4_sees_108 ?_
                      refine hr_iload C dX4_sees_111 4 rfl ?_
                      refine hr_iald (k := 17) (i := 0) ((8 * (un a)) + d) C (by decide) rfl rfl (show (8 * (un a)) + d < 64 by omega) (by decide) dX4_sees_113 ?_
                      refine hr_iload_n C dX4_sees_114 rfl 2 rfl ?_
                      refine hr_tp (y := nI (un b)) fB.1 ?_
                      refine hr_icmp_ne C 137 dX4_sees_115 (by decide) (fun c115 => ?_) (fun c115 => ?_)
                      · skip
                        have e1 : md_seL (md_0 S) (un a) (nI (un b)) (d + 1) = md_seL (md_0 S) (un a) (nI (un b)) d := by rw [md_seL, if_neg (fun h => c115 h.2.1)]
                        refine hr_iinc (v := nI ((8 * (un a)) + d + 1)) C [(4, .int (nI ((8 * (un a)) + d + 1))), (0, .ref (hr_ad E 14 0)), (1, .int a), (2, .int b), (3, .int (nI ((md_seL (md_0 S) (un a) (nI (un b)) d).2)))] dX4_sees_137 4 rfl (nI_add ((8 * (un a)) + d) 1) (by decide) rfl ?_
                        refine hr_goto C 79 dX4_sees_140 (by decide) ?_
                        refine hr_sub [1, 2, 3, 4, 0] rfl ?_
                        refine hr_lve (lv2 := [(0, .ref (hr_ad E 14 0)), (1, .int a), (2, .int b), (3, .int (nI ((md_seL (md_0 S) (un a) (nI (un b)) (d + 1)).2))), (4, .int (nI ((8 * (un a)) + (d + 1))))]) (by rw [e1]; first | done | rfl) ?_
                        refine hr_st (S1 := (md_seL (md_0 S) (un a) (nI (un b)) (d + 1)).1) (by rw [e1]) ?_
                        exact ih (d + 1)  (by omega) (by omega)
                      · skip
                        refine hr_aload_n C dX4_sees_118 rfl 0 rfl ?_
                        refine hr_get (k := 14) (i := 0) (fld := 10) C (by decide) rfl rfl (by decide) kU_X4 kF_X4_26 rfl rfl dX4_sees_119 ?_
                        refine hr_iload C dX4_sees_122 4 rfl ?_
                        refine hr_iald (k := 20) (i := 0) ((8 * (un a)) + d) C (by decide) rfl rfl (show (8 * (un a)) + d < 64 by omega) (by decide) dX4_sees_124 ?_
                        refine hr_if_ne C 137 dX4_sees_125 (by decide) (fun c125 => ?_) (fun c125 => ?_)
                        · skip
                          have e1 : md_seL (md_0 S) (un a) (nI (un b)) (d + 1) = md_seL (md_0 S) (un a) (nI (un b)) d := by rw [md_seL, if_neg (fun h => c125 h.2.2)]
                          refine hr_iinc (v := nI ((8 * (un a)) + d + 1)) C [(4, .int (nI ((8 * (un a)) + d + 1))), (0, .ref (hr_ad E 14 0)), (1, .int a), (2, .int b), (3, .int (nI ((md_seL (md_0 S) (un a) (nI (un b)) d).2)))] dX4_sees_137 4 rfl (nI_add ((8 * (un a)) + d) 1) (by decide) rfl ?_
                          refine hr_goto C 79 dX4_sees_140 (by decide) ?_
                          refine hr_sub [1, 2, 3, 4, 0] rfl ?_
                          refine hr_lve (lv2 := [(0, .ref (hr_ad E 14 0)), (1, .int a), (2, .int b), (3, .int (nI ((md_seL (md_0 S) (un a) (nI (un b)) (d + 1)).2))), (4, .int (nI ((8 * (un a)) + (d + 1))))]) (by rw [e1]; first | done | rfl) ?_
                          refine hr_st (S1 := (md_seL (md_0 S) (un a) (nI (un b)) (d + 1)).1) (by rw [e1]) ?_
                          exact ih (d + 1)  (by omega) (by omega)
                        · skip
                          refine hr_aload_n C dX4_sees_128 rfl 0 rfl ?_
                          refine hr_iload C dX4_sees_129 4 rfl ?_
                          refine hr_cVv C (ct_X4_gone l E ((md_seL (md_0 S) (un a) (nI (un b)) d).1) o ((8 * (un a)) + d) (by omega)) (cwV 1 C.1.2.2.2.2 (hr_gV kM_X4_87 kI_X4_gone kS_X4_gone kN_X4 kC_X4_gone) rfl rfl rfl (by decide +kernel) ⟨Nat.le_of_ble_eq_true rfl, Nat.le_of_ble_eq_true rfl⟩) (by decide) rfl rfl rfl (Nat.le_of_ble_eq_true rfl) dX4_sees_131 ⟨Nat.le_of_ble_eq_true rfl, Nat.le_of_ble_eq_true rfl⟩ (fun S23 h24 => ?_) rfl
                          refine hr_st (S1 := (md_gone ((md_seL (md_0 S) (un a) (nI (un b)) d).1) ((8 * (un a)) + d))) h24 ?_
                          refine hr_iinc (v := nI ((md_seL (md_0 S) (un a) (nI (un b)) d).2 + 1)) C [(3, .int (nI ((md_seL (md_0 S) (un a) (nI (un b)) d).2 + 1))), (0, .ref (hr_ad E 14 0)), (1, .int a), (2, .int b), (4, .int (nI ((8 * (un a)) + d)))] dX4_sees_134 3 rfl (nI_add ((md_seL (md_0 S) (un a) (nI (un b)) d).2) 1) (by decide) rfl ?_
                          have e1 : md_seL (md_0 S) (un a) (nI (un b)) (d + 1) = (md_gone (md_seL (md_0 S) (un a) (nI (un b)) d).1 ((8 * (un a)) + d), (md_seL (md_0 S) (un a) (nI (un b)) d).2 + 1) := by rw [md_seL, if_pos ⟨c104, c115, c125⟩]
                          refine hr_iinc (v := nI ((8 * (un a)) + d + 1)) C [(4, .int (nI ((8 * (un a)) + d + 1))), (3, .int (nI ((md_seL (md_0 S) (un a) (nI (un b)) d).2 + 1))), (0, .ref (hr_ad E 14 0)), (1, .int a), (2, .int b)] dX4_sees_137 4 rfl (nI_add ((8 * (un a)) + d) 1) (by decide) rfl ?_
                          refine hr_goto C 79 dX4_sees_140 (by decide) ?_
                          refine hr_sub [2, 3, 4, 1, 0] rfl ?_
                          refine hr_lve (lv2 := [(0, .ref (hr_ad E 14 0)), (1, .int a), (2, .int b), (3, .int (nI ((md_seL (md_0 S) (un a) (nI (un b)) (d + 1)).2))), (4, .int (nI ((8 * (un a)) + (d + 1))))]) (by rw [e1]; first | done | rfl) ?_
                          refine hr_st (S1 := (md_seL (md_0 S) (un a) (nI (un b)) (d + 1)).1) (by rw [e1]) ?_
                          exact ih (d + 1)  (by omega) (by omega)
              refine hr_sub [2, 3, 4, 1, 0] rfl ?_
              refine hr_lve (lv2 := [(0, .ref (hr_ad E 14 0)), (1, .int a), (2, .int b), (3, .int (nI ((md_seL (md_0 S) (un a) (nI (un b)) 0).2))), (4, .int (nI ((8 * (un a)) + 0)))]) rfl ?_
              refine hr_st (S1 := (md_seL (md_0 S) (un a) (nI (un b)) 0).1) rfl ?_
              exact LP79 (8 + 1) 0  (by omega) (by omega)
            · skip
              have c66 := hr_bn.mp c66
              have c66 : ¬ ((md_0 S) 15 0 ((8 * (un a)) + (un b))) = 0 := c66
              refine hr_st (S1 := md_r S 3) (if_pos c66) ?_
              refine hr_iconst (v := 0) C dX4_sees_69 (by decide) ?_
              exact hr_iret C hr dX4_sees_70 (Or.inr (Or.inr (Or.inl ⟨⟨fA, fB, (fun h => c35 (by rw [h]))⟩, c66, rfl⟩)))
        · skip
          have c35 : (un a) = (un b) := (nI_eq (a := (un a)) (b := (un b)) (by omega) (by omega)).mp c35
          refine hr_iconst (v := 1) C dX4_sees_38 (by decide) ?_
          refine hr_goto C 43 dX4_sees_39 (by decide) ?_
          refine hr_iconst (v := 2) C dX4_sees_43 (by decide) ?_
          refine hr_cVi C (ct_X4_refuses1 l E (md_0 S) o 2 (md_0_0 S) (by decide)) (cwV 2 C.1.2.2.2.2 (hr_gV kM_X4_123 kI_X4_refuses kS_X4_refuses kN_X4 kC_X4_refuses) rfl rfl rfl (by decide +kernel) ⟨Nat.le_of_ble_eq_true rfl, Nat.le_of_ble_eq_true rfl⟩) (by decide) rfl rfl rfl (Nat.le_of_ble_eq_true rfl) dX4_sees_44 ⟨Nat.le_of_ble_eq_true rfl, Nat.le_of_ble_eq_true rfl⟩ (fun r25 S26 h27 => ?_) rfl
          refine hr_tp h27.1 ?_
          refine hr_st (S1 := (hr_w (md_0 S) 14 0 0 2)) h27.2 ?_
          refine hr_if_ne C 69 dX4_sees_47 (by decide) (fun c47 => ?_) (fun c47 => ?_)
          · skip
            have c47 := hr_bn.mp c47
            have c47 : True := c47
            refine hr_iconst (v := 0) C dX4_sees_69 (by decide) ?_
            exact hr_iret C hr dX4_sees_70 (Or.inr (Or.inl ⟨⟨fA, fB⟩, un_inj fA fB c35, rfl⟩))
          · skip
            have c47 := hr_bz.mp c47
            have c47 : ¬ (True) := c47
            exact (c47 trivial).elim
    · skip
      have c17 := hr_bz.mp c17
      have c17 : ¬ (0 ≤ b ∧ b ≤ 7) := c17
      refine hr_iconst (v := 1) C dX4_sees_20 (by decide) ?_
      refine hr_goto C 25 dX4_sees_21 (by decide) ?_
      refine hr_iconst (v := 1) C dX4_sees_25 (by decide) ?_
      refine hr_cVi C (ct_X4_refuses1 l E (md_0 S) o 1 (md_0_0 S) (by decide)) (cwV 2 C.1.2.2.2.2 (hr_gV kM_X4_123 kI_X4_refuses kS_X4_refuses kN_X4 kC_X4_refuses) rfl rfl rfl (by decide +kernel) ⟨Nat.le_of_ble_eq_true rfl, Nat.le_of_ble_eq_true rfl⟩) (by decide) rfl rfl rfl (Nat.le_of_ble_eq_true rfl) dX4_sees_26 ⟨Nat.le_of_ble_eq_true rfl, Nat.le_of_ble_eq_true rfl⟩ (fun r28 S29 h30 => ?_) rfl
      refine hr_tp h30.1 ?_
      refine hr_st (S1 := (hr_w (md_0 S) 14 0 0 1)) h30.2 ?_
      refine hr_if_ne C 69 dX4_sees_29 (by decide) (fun c29 => ?_) (fun c29 => ?_)
      · skip
        have c29 := hr_bn.mp c29
        have c29 : True := c29
        refine hr_iconst (v := 0) C dX4_sees_69 (by decide) ?_
        exact hr_iret C hr dX4_sees_70 (Or.inl ⟨fun h => c17 (nb_07i h.2), rfl⟩)
      · skip
        have c29 := hr_bz.mp c29
        have c29 : ¬ (True) := c29
        exact (c29 trivial).elim
set_option maxHeartbeats 4000000 in
set_option maxRecDepth 100000 in
theorem ct_X4_restart (l : Launch) (E : hr_E) (S : hr_S) (o : Int64) (a : Int32) (hI : hr_MI S) : hr_Mi l E yX4_restart (Cond.code yX4_restart cX4_restart 3 (some .int) :: hr_W) ({ frames := 2, cells := 0, slots := 0, locals := 45 } : Room) [.ref (hr_ad E 14 0), .int a] S o (fun r u => (¬ nb a 8 ∧ u = md_r S 1) ∨ (nb a 8 ∧ r = (md_rsL (md_rsC (md_0 S) (un a) 8) (un a) 8) 14 0 11 ∧ u = md_rsL (md_rsC (md_0 S) (un a) 8) (un a) 8)) := by
  refine hr_of (by decide) (Nat.le_of_ble_eq_true rfl) (fun p e s m below meth c C hr => ?_)
  refine hr_aload_n C dX4_restart_0 rfl 0 rfl ?_
  refine hr_iconst (v := 0) C dX4_restart_1 (by decide) ?_
  refine hr_put (k := 14) (i := 0) (fld := 0) C (by decide) rfl rfl (by decide) kU_X4 kF_X4_48 rfl tyX4 tyX4_ok nmX4 rfl (by decide +kernel) (Nat.le_of_ble_eq_true rfl) (by simp [hr_cell, hr_w, hr_wA, upd]) rfl dX4_restart_2 ?_
  refine hr_st (S1 := md_0 S) rfl ?_
  refine hr_aload_n C dX4_restart_5 rfl 0 rfl ?_
  refine hr_iload_n C dX4_restart_6 rfl 1 rfl ?_
  refine hr_cSi C (ct_X4_isRouter l E (md_0 S) o a) (cwS 1 C.1.2.2.2.2 (hr_gS kM_X4_120 kT_X4_isRouter kN_X4 kC_X4_isRouter) rfl rfl rfl (by decide +kernel) ⟨Nat.le_of_ble_eq_true rfl, Nat.le_of_ble_eq_true rfl⟩) rfl (Nat.le_of_ble_eq_true rfl) dX4_restart_7 ⟨Nat.le_of_ble_eq_true rfl, Nat.le_of_ble_eq_true rfl⟩ (fun r1 S2 h3 => ?_) rfl
  refine hr_tp h3.1 ?_
  refine hr_st (S1 := (md_0 S)) h3.2 ?_
  refine hr_if_ne C 17 dX4_restart_10 (by decide) (fun c10 => ?_) (fun c10 => ?_)
  · skip
    have c10 := hr_bn.mp c10
    have c10 : 0 ≤ a ∧ a ≤ 7 := c10
    refine hr_iconst (v := 0) C dX4_restart_17 (by decide) ?_
    refine hr_iconst (v := 1) C dX4_restart_18 (by decide) ?_
    refine hr_cVi C (ct_X4_refuses0 l E (md_0 S) o 1 (md_0_0 S) (by decide)) (cwV 2 C.1.2.2.2.2 (hr_gV kM_X4_123 kI_X4_refuses kS_X4_refuses kN_X4 kC_X4_refuses) rfl rfl rfl (by decide +kernel) ⟨Nat.le_of_ble_eq_true rfl, Nat.le_of_ble_eq_true rfl⟩) (by decide) rfl rfl rfl (Nat.le_of_ble_eq_true rfl) dX4_restart_19 ⟨Nat.le_of_ble_eq_true rfl, Nat.le_of_ble_eq_true rfl⟩ (fun r4 S5 h6 => ?_) rfl
    refine hr_tp h6.1 ?_
    refine hr_st (S1 := (md_0 S)) h6.2 ?_
    refine hr_if_eq C 27 dX4_restart_22 (by decide) (fun c22 => ?_) (fun c22 => ?_)
    · skip
      have c22 := hr_bz.mp c22
      have c22 : ¬ (False) := c22
      have fA := nb_07 c10
      have hA := fA.2
      refine hr_bipush (v := 8) C dX4_restart_27 (by decide) ?_
      refine hr_iload_n C dX4_restart_29 rfl 1 rfl ?_
      refine hr_tp (y := nI (un a)) fA.1 ?_
      refine hr_imul (v := nI (8 * (un a))) C dX4_restart_30 (pk_mul 8 (un a)) ?_
      refine hr_istore_n C [(2, .int (nI (8 * (un a)))), (0, .ref (hr_ad E 14 0)), (1, .int a)] dX4_restart_31 rfl (by decide) rfl ?_
      have LP32 : ∀ (n d : Nat) , d ≤ 8 → 8 + 1 ≤ d + n → hr_G p l e ({ frames := 2, cells := 0, slots := 0, locals := 45 } : Room) s m #[.ref (hr_ad E 14 0), .int a] below meth c (MQ below (va_Qi (fun r u => (¬ nb a 8 ∧ u = md_r S 1) ∨ (nb a 8 ∧ r = (md_rsL (md_rsC (md_0 S) (un a) 8) (un a) 8) 14 0 11 ∧ u = md_rsL (md_rsC (md_0 S) (un a) 8) (un a) 8)) (fun u t => hr_P E u o t.heap) (hr_A E)) #[.ref (hr_ad E 14 0), .int a] s 0 0 (hr_A E)) E 3 0 0 (md_rsC (md_0 S) (un a) d) o [(0, .ref (hr_ad E 14 0)), (1, .int a), (2, .int (nI ((8 * (un a)) + d)))] 32 [] := by
        intro n
        induction n with
        | zero => intro d  h1 h2; omega
        | succ n ih =>
          intro d  hv1 hv2
          refine hr_iload_n C dX4_restart_32 rfl 2 rfl ?_
          refine hr_bipush (v := 8) C dX4_restart_33 (by decide) ?_
          refine hr_iload_n C dX4_restart_35 rfl 1 rfl ?_
          refine hr_tp (y := nI (un a)) fA.1 ?_
          refine hr_imul (v := nI (8 * (un a))) C dX4_restart_36 (pk_mul 8 (un a)) ?_
          refine hr_bipush (v := 8) C dX4_restart_37 (by decide) ?_
          refine hr_iadd (v := nI ((8 * (un a)) + 8)) C dX4_restart_39 (nI_add (8 * (un a)) 8) ?_
          refine hr_icmp_ge C 70 dX4_restart_40 (by decide) (fun c40 => ?_) (fun c40 => ?_)
          · skip
            have c40 : ((8 * (un a)) + 8) ≤ ((8 * (un a)) + d) := (nI_leI (a := ((8 * (un a)) + 8)) (b := ((8 * (un a)) + d)) (by omega) (by omega)).mp c40
            have c40n : ¬ ((8 * (un a)) + d) < ((8 * (un a)) + 8) := Nat.not_lt.mpr c40
            refine hr_iconst (v := 0) C dX4_restart_70 (by decide) ?_
            refine hr_istore_n C [(2, .int 0), (0, .ref (hr_ad E 14 0)), (1, .int a)] dX4_restart_71 rfl (by decide) rfl ?_
            have LP72 : ∀ (n x9 : Nat) , x9 ≤ 8 → 8 + 1 ≤ x9 + n → hr_G p l e ({ frames := 2, cells := 0, slots := 0, locals := 45 } : Room) s m #[.ref (hr_ad E 14 0), .int a] below meth c (MQ below (va_Qi (fun r u => (¬ nb a 8 ∧ u = md_r S 1) ∨ (nb a 8 ∧ r = (md_rsL (md_rsC (md_0 S) (un a) 8) (un a) 8) 14 0 11 ∧ u = md_rsL (md_rsC (md_0 S) (un a) 8) (un a) 8)) (fun u t => hr_P E u o t.heap) (hr_A E)) #[.ref (hr_ad E 14 0), .int a] s 0 0 (hr_A E)) E 3 0 0 (md_rsL (md_rsC (md_0 S) (un a) 8) (un a) x9) o [(0, .ref (hr_ad E 14 0)), (1, .int a), (2, .int (nI x9))] 72 [] := by
              intro n
              induction n with
              | zero => intro x9  h1 h2; omega
              | succ n ih =>
                intro x9  hv1 hv2
                refine hr_iload_n C dX4_restart_72 rfl 2 rfl ?_
                refine hr_bipush (v := 8) C dX4_restart_73 (by decide) ?_
                refine hr_icmp_ge C 117 dX4_restart_75 (by decide) (fun c75 => ?_) (fun c75 => ?_)
                · skip
                  have c75 : 8 ≤ x9 := (nI_leI (a := 8) (b := x9) (by omega) (by omega)).mp c75
                  have c75n : ¬ x9 < 8 := Nat.not_lt.mpr c75
                  refine hr_aload_n C dX4_restart_117 rfl 0 rfl ?_
                  refine hr_get (k := 14) (i := 0) (fld := 11) C (by decide) rfl rfl (by decide) kU_X4 kF_X4_66 rfl rfl dX4_restart_118 ?_
                  exact hr_iret C hr dX4_restart_121 (Or.inr ⟨fA, by rw [show x9 = 8 by omega], by rw [show x9 = 8 by omega]⟩)
                · skip
                  have c75 : ¬ 8 ≤ x9 := fun h => c75 ((nI_leI (a := 8) (b := x9) (by omega) (by omega)).mpr h)
                  have c75n : x9 < 8 := Nat.not_le.mp c75
                  refine hr_aload_n C dX4_restart_78 rfl 0 rfl ?_
                  refine hr_get (k := 14) (i := 0) (fld := 5) C (by decide) rfl rfl (by decide) kU_X4 kF_X4_7 rfl rfl dX4_restart_79 ?_
                  refine hr_bipush (v := 8) C dX4_restart_82 (by decide) ?_
                  refine hr_iload_n C dX4_restart_84 rfl 1 rfl ?_
                  refine hr_tp (y := nI (un a)) fA.1 ?_
                  refine hr_imul (v := nI (8 * (un a))) C dX4_restart_85 (pk_mul 8 (un a)) ?_
                  refine hr_iload_n C dX4_restart_86 rfl 2 rfl ?_
                  refine hr_iadd (v := nI ((8 * (un a)) + x9)) C dX4_restart_87 (nI_add (8 * (un a)) x9) ?_
                  refine hr_zald (k := 15) (i := 0) ((8 * (un a)) + x9) C (by decide) rfl rfl (show (8 * (un a)) + x9 < 64 by omega) (by decide) dX4_restart_88 ?_
                  refine hr_if_eq C 111 dX4_restart_89 (by decide) (fun c89 => ?_) (fun c89 => ?_)
                  · skip
                    refine hr_iinc (v := nI (x9 + 1)) C [(2, .int (nI (x9 + 1))), (0, .ref (hr_ad E 14 0)), (1, .int a)] dX4_restart_111 2 rfl (nI_add x9 1) (by decide) rfl ?_
                    refine hr_goto C 72 dX4_restart_114 (by decide) ?_
                    refine hr_sub [1, 2, 0] rfl ?_
                    refine hr_st (S1 := md_rsL (md_rsC (md_0 S) (un a) 8) (un a) (x9 + 1)) (by rw [md_rsL, if_neg (not_not_intro c89)]) ?_
                    exact ih (x9 + 1)  (by omega) (by omega)
                  · skip
                    refine hr_aload_n C dX4_restart_92 rfl 0 rfl ?_
                    refine hr_iconst (v := 1) C dX4_restart_93 (by decide) ?_
                    refine hr_cVv C (ct_X4_begin l E (md_rsL (md_rsC (md_0 S) (un a) 8) (un a) x9) o 1) (cwV 1 C.1.2.2.2.2 (hr_gV kM_X4_72 kI_X4_begin kS_X4_begin kN_X4 kC_X4_begin) rfl rfl rfl (by decide +kernel) ⟨Nat.le_of_ble_eq_true rfl, Nat.le_of_ble_eq_true rfl⟩) (by decide) rfl rfl rfl (Nat.le_of_ble_eq_true rfl) dX4_restart_94 ⟨Nat.le_of_ble_eq_true rfl, Nat.le_of_ble_eq_true rfl⟩ (fun S8 h9 => ?_) rfl
                    refine hr_st (S1 := (md_begin (md_rsL (md_rsC (md_0 S) (un a) 8) (un a) x9) 1)) h9 ?_
                    refine hr_aload_n C dX4_restart_97 rfl 0 rfl ?_
                    refine hr_iconst (v := 0) C dX4_restart_98 (by decide) ?_
                    refine hr_iconst (v := 0) C dX4_restart_99 (by decide) ?_
                    refine hr_bipush (v := 16) C dX4_restart_100 (by decide) ?_
                    refine hr_cVv C (ct_X4_entry l E (md_begin (md_rsL (md_rsC (md_0 S) (un a) 8) (un a) x9) 1) o 0 0 16 4 (md_begin_m _ 1) (by decide)) (cwV 3 C.1.2.2.2.2 (hr_gV kM_X4_75 kI_X4_entry kS_X4_entry kN_X4 kC_X4_entry) rfl rfl rfl (by decide +kernel) ⟨Nat.le_of_ble_eq_true rfl, Nat.le_of_ble_eq_true rfl⟩) (by decide) rfl rfl rfl (Nat.le_of_ble_eq_true rfl) dX4_restart_102 ⟨Nat.le_of_ble_eq_true rfl, Nat.le_of_ble_eq_true rfl⟩ (fun S11 h12 => ?_) rfl
                    refine hr_st (S1 := (md_entry (md_begin (md_rsL (md_rsC (md_0 S) (un a) 8) (un a) x9) 1) 4 0 0 16)) h12 ?_
                    refine hr_aload_n C dX4_restart_105 rfl 0 rfl ?_
                    refine hr_iload_n C dX4_restart_106 rfl 1 rfl ?_
                    refine hr_tp (y := nI (un a)) fA.1 ?_
                    refine hr_iload_n C dX4_restart_107 rfl 2 rfl ?_
                    refine hr_cVv C (ct_X4_post l E (md_entry (md_begin (md_rsL (md_rsC (md_0 S) (un a) 8) (un a) x9) 1) 4 0 0 16) o (nI (un a)) (nI x9) (MI_entry (MI_begin (MI_rsL (MI_rsC (MI_0 hI) 8) hA x9 (by omega)))) (mk_nb (mk_en1 _ 1 0 0 16) (by decide))) (cwV 2 C.1.2.2.2.2 (hr_gV kM_X4_79 kI_X4_post kS_X4_post kN_X4 kC_X4_post) rfl rfl rfl (by decide +kernel) ⟨Nat.le_of_ble_eq_true rfl, Nat.le_of_ble_eq_true rfl⟩) (by decide) rfl rfl rfl (Nat.le_of_ble_eq_true rfl) dX4_restart_108 ⟨Nat.le_of_ble_eq_true rfl, Nat.le_of_ble_eq_true rfl⟩ (fun S14 h15 => ?_) rfl
                    refine hr_st (S1 := (md_post (md_entry (md_begin (md_rsL (md_rsC (md_0 S) (un a) 8) (un a) x9) 1) 4 0 0 16) (nI (un a)) (nI x9))) h15 ?_
                    refine hr_iinc (v := nI (x9 + 1)) C [(2, .int (nI (x9 + 1))), (0, .ref (hr_ad E 14 0)), (1, .int a)] dX4_restart_111 2 rfl (nI_add x9 1) (by decide) rfl ?_
                    refine hr_goto C 72 dX4_restart_114 (by decide) ?_
                    refine hr_sub [1, 2, 0] rfl ?_
                    refine hr_st (S1 := md_rsL (md_rsC (md_0 S) (un a) 8) (un a) (x9 + 1)) (by rw [md_rsL, if_pos c89]; rfl) ?_
                    exact ih (x9 + 1)  (by omega) (by omega)
            refine hr_sub [1, 2, 0] rfl ?_
            refine hr_st (S1 := md_rsL (md_rsC (md_0 S) (un a) 8) (un a) 0) (by rw [show d = 8 by omega]; rfl) ?_
            exact LP72 (8 + 1) 0  (by omega) (by omega)
          · skip
            have c40 : ¬ ((8 * (un a)) + 8) ≤ ((8 * (un a)) + d) := fun h => c40 ((nI_leI (a := ((8 * (un a)) + 8)) (b := ((8 * (un a)) + d)) (by omega) (by omega)).mpr h)
            have c40n : ((8 * (un a)) + d) < ((8 * (un a)) + 8) := Nat.not_le.mp c40
            refine hr_aload_n C dX4_restart_43 rfl 0 rfl ?_
            refine hr_get (k := 14) (i := 0) (fld := 6) C (by decide) rfl rfl (by decide) kU_X4 kF_X4_13 rfl rfl dX4_restart_44 ?_
            refine hr_iload_n C dX4_restart_47 rfl 2 rfl ?_
            refine hr_iconst (v := 0) C dX4_restart_48 (by decide) ?_
            refine hr_iast (k := 16) (i := 0) ((8 * (un a)) + d) C (by decide) rfl rfl (show (8 * (un a)) + d < 64 by omega) (by decide) (by simp [hr_cell, hr_wA]) rfl dX4_restart_49 ?_
            refine hr_aload_n C dX4_restart_50 rfl 0 rfl ?_
            refine hr_get (k := 14) (i := 0) (fld := 9) C (by decide) rfl rfl (by decide) kU_X4 kF_X4_23 rfl rfl dX4_restart_51 ?_
            refine hr_iload_n C dX4_restart_54 rfl 2 rfl ?_
            refine hr_iconst (v := 0) C dX4_restart_55 (by decide) ?_
            refine hr_zast (k := 19) (i := 0) ((8 * (un a)) + d) C (by decide) rfl rfl (show (8 * (un a)) + d < 64 by omega) (by decide) (by simp [hr_cell, hr_wA]) rfl dX4_restart_56 ?_
            refine hr_aload_n C dX4_restart_57 rfl 0 rfl ?_
            refine hr_get (k := 14) (i := 0) (fld := 10) C (by decide) rfl rfl (by decide) kU_X4 kF_X4_26 rfl rfl dX4_restart_58 ?_
            refine hr_iload_n C dX4_restart_61 rfl 2 rfl ?_
            refine hr_iconst (v := 0) C dX4_restart_62 (by decide) ?_
            refine hr_iast (k := 20) (i := 0) ((8 * (un a)) + d) C (by decide) rfl rfl (show (8 * (un a)) + d < 64 by omega) (by decide) (by simp [hr_cell, hr_wA]) rfl dX4_restart_63 ?_
            refine hr_iinc (v := nI ((8 * (un a)) + d + 1)) C [(2, .int (nI ((8 * (un a)) + d + 1))), (0, .ref (hr_ad E 14 0)), (1, .int a)] dX4_restart_64 2 rfl (nI_add ((8 * (un a)) + d) 1) (by decide) rfl ?_
            refine hr_goto C 32 dX4_restart_67 (by decide) ?_
            refine hr_sub [1, 2, 0] rfl ?_
            refine hr_lve (lv2 := [(0, .ref (hr_ad E 14 0)), (1, .int a), (2, .int (nI ((8 * (un a)) + (d + 1))))]) rfl ?_
            refine hr_st (S1 := md_rsC (md_0 S) (un a) (d + 1)) rfl ?_
            exact ih (d + 1)  (by omega) (by omega)
      refine hr_sub [1, 2, 0] rfl ?_
      refine hr_lve (lv2 := [(0, .ref (hr_ad E 14 0)), (1, .int a), (2, .int (nI ((8 * (un a)) + 0)))]) rfl ?_
      refine hr_st (S1 := md_rsC (md_0 S) (un a) 0) rfl ?_
      exact LP32 (8 + 1) 0  (by omega) (by omega)
    · skip
      have c22 := hr_bn.mp c22
      have c22 : False := c22
      exact c22.elim
  · skip
    have c10 := hr_bz.mp c10
    have c10 : ¬ (0 ≤ a ∧ a ≤ 7) := c10
    refine hr_iconst (v := 1) C dX4_restart_13 (by decide) ?_
    refine hr_goto C 18 dX4_restart_14 (by decide) ?_
    refine hr_iconst (v := 1) C dX4_restart_18 (by decide) ?_
    refine hr_cVi C (ct_X4_refuses1 l E (md_0 S) o 1 (md_0_0 S) (by decide)) (cwV 2 C.1.2.2.2.2 (hr_gV kM_X4_123 kI_X4_refuses kS_X4_refuses kN_X4 kC_X4_refuses) rfl rfl rfl (by decide +kernel) ⟨Nat.le_of_ble_eq_true rfl, Nat.le_of_ble_eq_true rfl⟩) (by decide) rfl rfl rfl (Nat.le_of_ble_eq_true rfl) dX4_restart_19 ⟨Nat.le_of_ble_eq_true rfl, Nat.le_of_ble_eq_true rfl⟩ (fun r16 S17 h18 => ?_) rfl
    refine hr_tp h18.1 ?_
    refine hr_st (S1 := (hr_w (md_0 S) 14 0 0 1)) h18.2 ?_
    refine hr_if_eq C 27 dX4_restart_22 (by decide) (fun c22 => ?_) (fun c22 => ?_)
    · skip
      have c22 := hr_bz.mp c22
      have c22 : ¬ (True) := c22
      exact (c22 trivial).elim
    · skip
      have c22 := hr_bn.mp c22
      have c22 : True := c22
      refine hr_iconst (v := 0) C dX4_restart_25 (by decide) ?_
      exact hr_iret C hr dX4_restart_26 (Or.inl ⟨fun h => c10 (nb_07i h), rfl⟩)
set_option maxHeartbeats 4000000 in
set_option maxRecDepth 100000 in
theorem ct_X4_ask (l : Launch) (E : hr_E) (S : hr_S) (o : Int64) (a b ds : Int32) (hI : hr_MI S) : hr_Mi l E yX4_ask (Cond.code yX4_ask cX4_ask 5 (some .int) :: hr_W) ({ frames := 2, cells := 0, slots := 0, locals := 45 } : Room) [.ref (hr_ad E 14 0), .int a, .int b, .int ds] S o (fun r u => (¬ (nb a 8 ∧ nb b 8) ∧ u = md_r S 1) ∨ ((nb a 8 ∧ nb b 8) ∧ (a = b ∨ ¬ (1 ≤ ds ∧ ds ≤ 255)) ∧ u = md_r S 2) ∨ ((nb a 8 ∧ nb b 8 ∧ ¬ a = b) ∧ (1 ≤ ds ∧ ds ≤ 255) ∧ md_0 S 15 0 ((8 * un a) + un b) = 0 ∧ u = md_r S 3) ∨ ((nb a 8 ∧ nb b 8 ∧ ¬ a = b) ∧ (1 ≤ ds ∧ ds ≤ 255) ∧ ¬ md_0 S 15 0 ((8 * un a) + un b) = 0 ∧ r = (md_post (md_asL (md_0 S) ds 8) (nI (un a)) (nI (un b))) 14 0 11 ∧ u = md_post (md_asL (md_0 S) ds 8) (nI (un a)) (nI (un b)))) := by
  refine hr_of (by decide) (Nat.le_of_ble_eq_true rfl) (fun p e s m below meth c C hr => ?_)
  refine hr_aload_n C dX4_ask_0 rfl 0 rfl ?_
  refine hr_iconst (v := 0) C dX4_ask_1 (by decide) ?_
  refine hr_put (k := 14) (i := 0) (fld := 0) C (by decide) rfl rfl (by decide) kU_X4 kF_X4_48 rfl tyX4 tyX4_ok nmX4 rfl (by decide +kernel) (Nat.le_of_ble_eq_true rfl) (by simp [hr_cell, hr_w, hr_wA, upd]) rfl dX4_ask_2 ?_
  refine hr_st (S1 := md_0 S) rfl ?_
  refine hr_aload_n C dX4_ask_5 rfl 0 rfl ?_
  refine hr_iload_n C dX4_ask_6 rfl 1 rfl ?_
  refine hr_cSi C (ct_X4_isRouter l E (md_0 S) o a) (cwS 1 C.1.2.2.2.2 (hr_gS kM_X4_120 kT_X4_isRouter kN_X4 kC_X4_isRouter) rfl rfl rfl (by decide +kernel) ⟨Nat.le_of_ble_eq_true rfl, Nat.le_of_ble_eq_true rfl⟩) rfl (Nat.le_of_ble_eq_true rfl) dX4_ask_7 ⟨Nat.le_of_ble_eq_true rfl, Nat.le_of_ble_eq_true rfl⟩ (fun r1 S2 h3 => ?_) rfl
  refine hr_tp h3.1 ?_
  refine hr_st (S1 := (md_0 S)) h3.2 ?_
  refine hr_if_eq C 20 dX4_ask_10 (by decide) (fun c10 => ?_) (fun c10 => ?_)
  · skip
    have c10 := hr_bz.mp c10
    have c10 : ¬ (0 ≤ a ∧ a ≤ 7) := c10
    refine hr_iconst (v := 1) C dX4_ask_20 (by decide) ?_
    refine hr_goto C 25 dX4_ask_21 (by decide) ?_
    refine hr_iconst (v := 1) C dX4_ask_25 (by decide) ?_
    refine hr_cVi C (ct_X4_refuses1 l E (md_0 S) o 1 (md_0_0 S) (by decide)) (cwV 2 C.1.2.2.2.2 (hr_gV kM_X4_123 kI_X4_refuses kS_X4_refuses kN_X4 kC_X4_refuses) rfl rfl rfl (by decide +kernel) ⟨Nat.le_of_ble_eq_true rfl, Nat.le_of_ble_eq_true rfl⟩) (by decide) rfl rfl rfl (Nat.le_of_ble_eq_true rfl) dX4_ask_26 ⟨Nat.le_of_ble_eq_true rfl, Nat.le_of_ble_eq_true rfl⟩ (fun r4 S5 h6 => ?_) rfl
    refine hr_tp h6.1 ?_
    refine hr_st (S1 := (hr_w (md_0 S) 14 0 0 1)) h6.2 ?_
    refine hr_if_ne C 88 dX4_ask_29 (by decide) (fun c29 => ?_) (fun c29 => ?_)
    · skip
      have c29 := hr_bn.mp c29
      have c29 : True := c29
      refine hr_iconst (v := 0) C dX4_ask_88 (by decide) ?_
      exact hr_iret C hr dX4_ask_89 (Or.inl ⟨fun h => c10 (nb_07i h.1), rfl⟩)
    · skip
      have c29 := hr_bz.mp c29
      have c29 : ¬ (True) := c29
      exact (c29 trivial).elim
  · skip
    have c10 := hr_bn.mp c10
    have c10 : 0 ≤ a ∧ a ≤ 7 := c10
    refine hr_iload_n C dX4_ask_13 rfl 2 rfl ?_
    refine hr_cSi C (ct_X4_isRouter l E (md_0 S) o b) (cwS 1 C.1.2.2.2.2 (hr_gS kM_X4_120 kT_X4_isRouter kN_X4 kC_X4_isRouter) rfl rfl rfl (by decide +kernel) ⟨Nat.le_of_ble_eq_true rfl, Nat.le_of_ble_eq_true rfl⟩) rfl (Nat.le_of_ble_eq_true rfl) dX4_ask_14 ⟨Nat.le_of_ble_eq_true rfl, Nat.le_of_ble_eq_true rfl⟩ (fun r7 S8 h9 => ?_) rfl
    refine hr_tp h9.1 ?_
    refine hr_st (S1 := (md_0 S)) h9.2 ?_
    refine hr_if_ne C 24 dX4_ask_17 (by decide) (fun c17 => ?_) (fun c17 => ?_)
    · skip
      have c17 := hr_bn.mp c17
      have c17 : 0 ≤ b ∧ b ≤ 7 := c17
      refine hr_iconst (v := 0) C dX4_ask_24 (by decide) ?_
      refine hr_iconst (v := 1) C dX4_ask_25 (by decide) ?_
      refine hr_cVi C (ct_X4_refuses0 l E (md_0 S) o 1 (md_0_0 S) (by decide)) (cwV 2 C.1.2.2.2.2 (hr_gV kM_X4_123 kI_X4_refuses kS_X4_refuses kN_X4 kC_X4_refuses) rfl rfl rfl (by decide +kernel) ⟨Nat.le_of_ble_eq_true rfl, Nat.le_of_ble_eq_true rfl⟩) (by decide) rfl rfl rfl (Nat.le_of_ble_eq_true rfl) dX4_ask_26 ⟨Nat.le_of_ble_eq_true rfl, Nat.le_of_ble_eq_true rfl⟩ (fun r10 S11 h12 => ?_) rfl
      refine hr_tp h12.1 ?_
      refine hr_st (S1 := (md_0 S)) h12.2 ?_
      refine hr_if_ne C 88 dX4_ask_29 (by decide) (fun c29 => ?_) (fun c29 => ?_)
      · skip
        have c29 := hr_bn.mp c29
        have c29 : False := c29
        exact c29.elim
      · skip
        have c29 := hr_bz.mp c29
        have c29 : ¬ (False) := c29
        have fA := nb_07 c10
        have fB := nb_07 c17
        have hA := fA.2
        have hB := fB.2
        refine hr_aload_n C dX4_ask_32 rfl 0 rfl ?_
        refine hr_iload_n C dX4_ask_33 rfl 1 rfl ?_
        refine hr_tp (y := nI (un a)) fA.1 ?_
        refine hr_iload_n C dX4_ask_34 rfl 2 rfl ?_
        refine hr_tp (y := nI (un b)) fB.1 ?_
        refine hr_icmp_eq C 49 dX4_ask_35 (by decide) (fun c35 => ?_) (fun c35 => ?_)
        · skip
          have c35 : (un a) = (un b) := (nI_eq (a := (un a)) (b := (un b)) (by omega) (by omega)).mp c35
          refine hr_iconst (v := 1) C dX4_ask_49 (by decide) ?_
          refine hr_goto C 54 dX4_ask_50 (by decide) ?_
          refine hr_iconst (v := 2) C dX4_ask_54 (by decide) ?_
          refine hr_cVi C (ct_X4_refuses1 l E (md_0 S) o 2 (md_0_0 S) (by decide)) (cwV 2 C.1.2.2.2.2 (hr_gV kM_X4_123 kI_X4_refuses kS_X4_refuses kN_X4 kC_X4_refuses) rfl rfl rfl (by decide +kernel) ⟨Nat.le_of_ble_eq_true rfl, Nat.le_of_ble_eq_true rfl⟩) (by decide) rfl rfl rfl (Nat.le_of_ble_eq_true rfl) dX4_ask_55 ⟨Nat.le_of_ble_eq_true rfl, Nat.le_of_ble_eq_true rfl⟩ (fun r13 S14 h15 => ?_) rfl
          refine hr_tp h15.1 ?_
          refine hr_st (S1 := (hr_w (md_0 S) 14 0 0 2)) h15.2 ?_
          refine hr_if_ne C 88 dX4_ask_58 (by decide) (fun c58 => ?_) (fun c58 => ?_)
          · skip
            have c58 := hr_bn.mp c58
            have c58 : True := c58
            refine hr_iconst (v := 0) C dX4_ask_88 (by decide) ?_
            exact hr_iret C hr dX4_ask_89 (Or.inr (Or.inl ⟨⟨fA, fB⟩, Or.inl (un_inj fA fB c35), rfl⟩))
          · skip
            have c58 := hr_bz.mp c58
            have c58 : ¬ (True) := c58
            exact (c58 trivial).elim
        · skip
          have c35 : ¬ (un a) = (un b) := fun h => c35 ((nI_eq (a := (un a)) (b := (un b)) (by omega) (by omega)).mpr h)
          refine hr_iload_n C dX4_ask_38 rfl 3 rfl ?_
          refine hr_iconst (v := 1) C dX4_ask_39 (by decide) ?_
          refine hr_sipush (v := 255) C dX4_ask_40 (by decide) ?_
          refine hr_cSi C (ct_X4_in l E (md_0 S) o ds 1 255) (cwS 3 C.1.2.2.2.2 (hr_gS kM_X4_52 kT_X4_in kN_X4 kC_X4_in) rfl rfl rfl (by decide +kernel) ⟨Nat.le_of_ble_eq_true rfl, Nat.le_of_ble_eq_true rfl⟩) rfl (Nat.le_of_ble_eq_true rfl) dX4_ask_43 ⟨Nat.le_of_ble_eq_true rfl, Nat.le_of_ble_eq_true rfl⟩ (fun r16 S17 h18 => ?_) rfl
          refine hr_tp h18.1 ?_
          refine hr_st (S1 := (md_0 S)) h18.2 ?_
          refine hr_if_ne C 53 dX4_ask_46 (by decide) (fun c46 => ?_) (fun c46 => ?_)
          · skip
            have c46 := hr_bn.mp c46
            have c46 : 1 ≤ ds ∧ ds ≤ 255 := c46
            refine hr_iconst (v := 0) C dX4_ask_53 (by decide) ?_
            refine hr_iconst (v := 2) C dX4_ask_54 (by decide) ?_
            refine hr_cVi C (ct_X4_refuses0 l E (md_0 S) o 2 (md_0_0 S) (by decide)) (cwV 2 C.1.2.2.2.2 (hr_gV kM_X4_123 kI_X4_refuses kS_X4_refuses kN_X4 kC_X4_refuses) rfl rfl rfl (by decide +kernel) ⟨Nat.le_of_ble_eq_true rfl, Nat.le_of_ble_eq_true rfl⟩) (by decide) rfl rfl rfl (Nat.le_of_ble_eq_true rfl) dX4_ask_55 ⟨Nat.le_of_ble_eq_true rfl, Nat.le_of_ble_eq_true rfl⟩ (fun r19 S20 h21 => ?_) rfl
            refine hr_tp h21.1 ?_
            refine hr_st (S1 := (md_0 S)) h21.2 ?_
            refine hr_if_ne C 88 dX4_ask_58 (by decide) (fun c58 => ?_) (fun c58 => ?_)
            · skip
              have c58 := hr_bn.mp c58
              have c58 : False := c58
              exact c58.elim
            · skip
              have c58 := hr_bz.mp c58
              have c58 : ¬ (False) := c58
              refine hr_aload_n C dX4_ask_61 rfl 0 rfl ?_
              refine hr_aload_n C dX4_ask_62 rfl 0 rfl ?_
              refine hr_get (k := 14) (i := 0) (fld := 5) C (by decide) rfl rfl (by decide) kU_X4 kF_X4_7 rfl rfl dX4_ask_63 ?_
              refine hr_bipush (v := 8) C dX4_ask_66 (by decide) ?_
              refine hr_iload_n C dX4_ask_68 rfl 1 rfl ?_
              refine hr_tp (y := nI (un a)) fA.1 ?_
              refine hr_imul (v := nI (8 * (un a))) C dX4_ask_69 (pk_mul 8 (un a)) ?_
              refine hr_iload_n C dX4_ask_70 rfl 2 rfl ?_
              refine hr_tp (y := nI (un b)) fB.1 ?_
              refine hr_iadd (v := nI ((8 * (un a)) + (un b))) C dX4_ask_71 (nI_add (8 * (un a)) (un b)) ?_
              refine hr_zald (k := 15) (i := 0) ((8 * (un a)) + (un b)) C (by decide) rfl rfl (show (8 * (un a)) + (un b) < 64 by omega) (by decide) dX4_ask_72 ?_
              refine hr_if_ne C 80 dX4_ask_73 (by decide) (fun c73 => ?_) (fun c73 => ?_)
              · skip
                refine hr_iconst (v := 0) C dX4_ask_80 (by decide) ?_
                refine hr_iconst (v := 3) C dX4_ask_81 (by decide) ?_
                refine hr_cVi C (ct_X4_refuses0 l E (md_0 S) o 3 (md_0_0 S) (by decide)) (cwV 2 C.1.2.2.2.2 (hr_gV kM_X4_123 kI_X4_refuses kS_X4_refuses kN_X4 kC_X4_refuses) rfl rfl rfl (by decide +kernel) ⟨Nat.le_of_ble_eq_true rfl, Nat.le_of_ble_eq_true rfl⟩) (by decide) rfl rfl rfl (Nat.le_of_ble_eq_true rfl) dX4_ask_82 ⟨Nat.le_of_ble_eq_true rfl, Nat.le_of_ble_eq_true rfl⟩ (fun r22 S23 h24 => ?_) rfl
                refine hr_tp h24.1 ?_
                refine hr_st (S1 := (md_0 S)) h24.2 ?_
                refine hr_if_eq C 90 dX4_ask_85 (by decide) (fun c85 => ?_) (fun c85 => ?_)
                · skip
                  have c85 := hr_bz.mp c85
                  have c85 : ¬ (False) := c85
                  refine hr_aload_n C dX4_ask_90 rfl 0 rfl ?_
                  refine hr_iconst (v := 1) C dX4_ask_91 (by decide) ?_
                  refine hr_cVv C (ct_X4_begin l E (md_0 S) o 1) (cwV 1 C.1.2.2.2.2 (hr_gV kM_X4_72 kI_X4_begin kS_X4_begin kN_X4 kC_X4_begin) rfl rfl rfl (by decide +kernel) ⟨Nat.le_of_ble_eq_true rfl, Nat.le_of_ble_eq_true rfl⟩) (by decide) rfl rfl rfl (Nat.le_of_ble_eq_true rfl) dX4_ask_92 ⟨Nat.le_of_ble_eq_true rfl, Nat.le_of_ble_eq_true rfl⟩ (fun S26 h27 => ?_) rfl
                  refine hr_st (S1 := (md_begin (md_0 S) 1)) h27 ?_
                  refine hr_iconst (v := 0) C dX4_ask_95 (by decide) ?_
                  refine hr_istore C [(4, .int 0), (0, .ref (hr_ad E 14 0)), (1, .int a), (2, .int b), (3, .int ds)] dX4_ask_96 (by decide) rfl ?_
                  have LP98 : ∀ (n d : Nat) , d ≤ 8 → 8 + 1 ≤ d + n → hr_G p l e ({ frames := 2, cells := 0, slots := 0, locals := 45 } : Room) s m #[.ref (hr_ad E 14 0), .int a, .int b, .int ds] below meth c (MQ below (va_Qi (fun r u => (¬ (nb a 8 ∧ nb b 8) ∧ u = md_r S 1) ∨ ((nb a 8 ∧ nb b 8) ∧ (a = b ∨ ¬ (1 ≤ ds ∧ ds ≤ 255)) ∧ u = md_r S 2) ∨ ((nb a 8 ∧ nb b 8 ∧ ¬ a = b) ∧ (1 ≤ ds ∧ ds ≤ 255) ∧ md_0 S 15 0 ((8 * un a) + un b) = 0 ∧ u = md_r S 3) ∨ ((nb a 8 ∧ nb b 8 ∧ ¬ a = b) ∧ (1 ≤ ds ∧ ds ≤ 255) ∧ ¬ md_0 S 15 0 ((8 * un a) + un b) = 0 ∧ r = (md_post (md_asL (md_0 S) ds 8) (nI (un a)) (nI (un b))) 14 0 11 ∧ u = md_post (md_asL (md_0 S) ds 8) (nI (un a)) (nI (un b)))) (fun u t => hr_P E u o t.heap) (hr_A E)) #[.ref (hr_ad E 14 0), .int a, .int b, .int ds] s 0 0 (hr_A E)) E 5 0 0 (md_asL (md_0 S) ds d) o [(0, .ref (hr_ad E 14 0)), (1, .int a), (2, .int b), (3, .int ds), (4, .int (nI d))] 98 [] := by
                    intro n
                    induction n with
                    | zero => intro d  h1 h2; omega
                    | succ n ih =>
                      intro d  hv1 hv2
                      refine hr_iload C dX4_ask_98 4 rfl ?_
                      refine hr_bipush (v := 8) C dX4_ask_100 (by decide) ?_
                      refine hr_icmp_ge C 130 dX4_ask_102 (by decide) (fun c102 => ?_) (fun c102 => ?_)
                      · skip
                        have c102 : 8 ≤ d := (nI_leI (a := 8) (b := d) (by omega) (by omega)).mp c102
                        have c102n : ¬ d < 8 := Nat.not_lt.mpr c102
                        refine hr_aload_n C dX4_ask_130 rfl 0 rfl ?_
                        refine hr_iload_n C dX4_ask_131 rfl 1 rfl ?_
                        refine hr_tp (y := nI (un a)) fA.1 ?_
                        refine hr_iload_n C dX4_ask_132 rfl 2 rfl ?_
                        refine hr_tp (y := nI (un b)) fB.1 ?_
                        refine hr_cVv C (ct_X4_post l E (md_asL (md_0 S) ds d) o (nI (un a)) (nI (un b)) (MI_asL (MI_0 hI) d) (mk_nb (B := 164) (mk_up (mk_asL (md_0 S) ds d (by omega)) (by omega)) (by decide))) (cwV 2 C.1.2.2.2.2 (hr_gV kM_X4_79 kI_X4_post kS_X4_post kN_X4 kC_X4_post) rfl rfl rfl (by decide +kernel) ⟨Nat.le_of_ble_eq_true rfl, Nat.le_of_ble_eq_true rfl⟩) (by decide) rfl rfl rfl (Nat.le_of_ble_eq_true rfl) dX4_ask_133 ⟨Nat.le_of_ble_eq_true rfl, Nat.le_of_ble_eq_true rfl⟩ (fun S29 h30 => ?_) rfl
                        refine hr_st (S1 := (md_post (md_asL (md_0 S) ds d) (nI (un a)) (nI (un b)))) h30 ?_
                        refine hr_aload_n C dX4_ask_136 rfl 0 rfl ?_
                        refine hr_get (k := 14) (i := 0) (fld := 11) C (by decide) rfl rfl (by decide) kU_X4 kF_X4_66 rfl rfl dX4_ask_137 ?_
                        exact hr_iret C hr dX4_ask_140 (Or.inr (Or.inr (Or.inr ⟨⟨fA, fB, (fun h => c35 (by rw [h]))⟩, c46, c73, by rw [show d = 8 by omega], by rw [show d = 8 by omega]⟩)))
                      · skip
                        have c102 : ¬ 8 ≤ d := fun h => c102 ((nI_leI (a := 8) (b := d) (by omega) (by omega)).mpr h)
                        have c102n : d < 8 := Nat.not_le.mp c102
                        refine hr_iload_n C dX4_ask_105 rfl 3 rfl ?_
                        refine hr_iload C dX4_ask_106 4 rfl ?_
                        refine hr_ishr C dX4_ask_108 rfl ?_
                        refine hr_iconst (v := 1) C dX4_ask_109 (by decide) ?_
                        refine hr_iand C dX4_ask_110 rfl ?_
                        refine hr_iconst (v := 1) C dX4_ask_111 (by decide) ?_
                        refine hr_icmp_ne C 124 dX4_ask_112 (by decide) (fun c112 => ?_) (fun c112 => ?_)
                        · skip
                          refine hr_iinc (v := nI (d + 1)) C [(4, .int (nI (d + 1))), (0, .ref (hr_ad E 14 0)), (1, .int a), (2, .int b), (3, .int ds)] dX4_ask_124 4 rfl (nI_add d 1) (by decide) rfl ?_
                          refine hr_goto C 98 dX4_ask_127 (by decide) ?_
                          refine hr_sub [1, 2, 3, 4, 0] rfl ?_
                          refine hr_st (S1 := md_asL (md_0 S) ds (d + 1)) (by rw [md_asL, if_neg c112]) ?_
                          exact ih (d + 1)  (by omega) (by omega)
                        · skip
                          refine hr_aload_n C dX4_ask_115 rfl 0 rfl ?_
                          refine hr_iconst (v := 2) C dX4_ask_116 (by decide) ?_
                          refine hr_iload C dX4_ask_117 4 rfl ?_
                          refine hr_bipush (v := 16) C dX4_ask_119 (by decide) ?_
                          refine hr_cVv C (ct_X4_entry l E (md_asL (md_0 S) ds d) o 2 (nI d) 16 (md_m (md_asL (md_0 S) ds d)) ((mk_asL (md_0 S) ds d (by omega)).1) (by have := (mk_asL (md_0 S) ds d (by omega)).2.1; omega)) (cwV 3 C.1.2.2.2.2 (hr_gV kM_X4_75 kI_X4_entry kS_X4_entry kN_X4 kC_X4_entry) rfl rfl rfl (by decide +kernel) ⟨Nat.le_of_ble_eq_true rfl, Nat.le_of_ble_eq_true rfl⟩) (by decide) rfl rfl rfl (Nat.le_of_ble_eq_true rfl) dX4_ask_121 ⟨Nat.le_of_ble_eq_true rfl, Nat.le_of_ble_eq_true rfl⟩ (fun S32 h33 => ?_) rfl
                          refine hr_st (S1 := (md_entry (md_asL (md_0 S) ds d) (md_m (md_asL (md_0 S) ds d)) 2 (nI d) 16)) h33 ?_
                          refine hr_iinc (v := nI (d + 1)) C [(4, .int (nI (d + 1))), (0, .ref (hr_ad E 14 0)), (1, .int a), (2, .int b), (3, .int ds)] dX4_ask_124 4 rfl (nI_add d 1) (by decide) rfl ?_
                          refine hr_goto C 98 dX4_ask_127 (by decide) ?_
                          refine hr_sub [1, 2, 3, 4, 0] rfl ?_
                          refine hr_st (S1 := md_asL (md_0 S) ds (d + 1)) (by rw [md_asL, if_pos c112]) ?_
                          exact ih (d + 1)  (by omega) (by omega)
                  refine hr_sub [1, 2, 3, 4, 0] rfl ?_
                  refine hr_st (S1 := md_asL (md_0 S) ds 0) rfl ?_
                  exact LP98 (8 + 1) 0  (by omega) (by omega)
                · skip
                  have c85 := hr_bn.mp c85
                  have c85 : False := c85
                  exact c85.elim
              · skip
                refine hr_iconst (v := 1) C dX4_ask_76 (by decide) ?_
                refine hr_goto C 81 dX4_ask_77 (by decide) ?_
                refine hr_iconst (v := 3) C dX4_ask_81 (by decide) ?_
                refine hr_cVi C (ct_X4_refuses1 l E (md_0 S) o 3 (md_0_0 S) (by decide)) (cwV 2 C.1.2.2.2.2 (hr_gV kM_X4_123 kI_X4_refuses kS_X4_refuses kN_X4 kC_X4_refuses) rfl rfl rfl (by decide +kernel) ⟨Nat.le_of_ble_eq_true rfl, Nat.le_of_ble_eq_true rfl⟩) (by decide) rfl rfl rfl (Nat.le_of_ble_eq_true rfl) dX4_ask_82 ⟨Nat.le_of_ble_eq_true rfl, Nat.le_of_ble_eq_true rfl⟩ (fun r34 S35 h36 => ?_) rfl
                refine hr_tp h36.1 ?_
                refine hr_st (S1 := (hr_w (md_0 S) 14 0 0 3)) h36.2 ?_
                refine hr_if_eq C 90 dX4_ask_85 (by decide) (fun c85 => ?_) (fun c85 => ?_)
                · skip
                  have c85 := hr_bz.mp c85
                  have c85 : ¬ (True) := c85
                  exact (c85 trivial).elim
                · skip
                  have c85 := hr_bn.mp c85
                  have c85 : True := c85
                  refine hr_iconst (v := 0) C dX4_ask_88 (by decide) ?_
                  exact hr_iret C hr dX4_ask_89 (Or.inr (Or.inr (Or.inl ⟨⟨fA, fB, (fun h => c35 (by rw [h]))⟩, c46, c73, rfl⟩)))
          · skip
            have c46 := hr_bz.mp c46
            have c46 : ¬ (1 ≤ ds ∧ ds ≤ 255) := c46
            refine hr_iconst (v := 1) C dX4_ask_49 (by decide) ?_
            refine hr_goto C 54 dX4_ask_50 (by decide) ?_
            refine hr_iconst (v := 2) C dX4_ask_54 (by decide) ?_
            refine hr_cVi C (ct_X4_refuses1 l E (md_0 S) o 2 (md_0_0 S) (by decide)) (cwV 2 C.1.2.2.2.2 (hr_gV kM_X4_123 kI_X4_refuses kS_X4_refuses kN_X4 kC_X4_refuses) rfl rfl rfl (by decide +kernel) ⟨Nat.le_of_ble_eq_true rfl, Nat.le_of_ble_eq_true rfl⟩) (by decide) rfl rfl rfl (Nat.le_of_ble_eq_true rfl) dX4_ask_55 ⟨Nat.le_of_ble_eq_true rfl, Nat.le_of_ble_eq_true rfl⟩ (fun r37 S38 h39 => ?_) rfl
            refine hr_tp h39.1 ?_
            refine hr_st (S1 := (hr_w (md_0 S) 14 0 0 2)) h39.2 ?_
            refine hr_if_ne C 88 dX4_ask_58 (by decide) (fun c58 => ?_) (fun c58 => ?_)
            · skip
              have c58 := hr_bn.mp c58
              have c58 : True := c58
              refine hr_iconst (v := 0) C dX4_ask_88 (by decide) ?_
              exact hr_iret C hr dX4_ask_89 (Or.inr (Or.inl ⟨⟨fA, fB⟩, Or.inr c46, rfl⟩))
            · skip
              have c58 := hr_bz.mp c58
              have c58 : ¬ (True) := c58
              exact (c58 trivial).elim
    · skip
      have c17 := hr_bz.mp c17
      have c17 : ¬ (0 ≤ b ∧ b ≤ 7) := c17
      refine hr_iconst (v := 1) C dX4_ask_20 (by decide) ?_
      refine hr_goto C 25 dX4_ask_21 (by decide) ?_
      refine hr_iconst (v := 1) C dX4_ask_25 (by decide) ?_
      refine hr_cVi C (ct_X4_refuses1 l E (md_0 S) o 1 (md_0_0 S) (by decide)) (cwV 2 C.1.2.2.2.2 (hr_gV kM_X4_123 kI_X4_refuses kS_X4_refuses kN_X4 kC_X4_refuses) rfl rfl rfl (by decide +kernel) ⟨Nat.le_of_ble_eq_true rfl, Nat.le_of_ble_eq_true rfl⟩) (by decide) rfl rfl rfl (Nat.le_of_ble_eq_true rfl) dX4_ask_26 ⟨Nat.le_of_ble_eq_true rfl, Nat.le_of_ble_eq_true rfl⟩ (fun r40 S41 h42 => ?_) rfl
      refine hr_tp h42.1 ?_
      refine hr_st (S1 := (hr_w (md_0 S) 14 0 0 1)) h42.2 ?_
      refine hr_if_ne C 88 dX4_ask_29 (by decide) (fun c29 => ?_) (fun c29 => ?_)
      · skip
        have c29 := hr_bn.mp c29
        have c29 : True := c29
        refine hr_iconst (v := 0) C dX4_ask_88 (by decide) ?_
        exact hr_iret C hr dX4_ask_89 (Or.inl ⟨fun h => c17 (nb_07i h.2), rfl⟩)
      · skip
        have c29 := hr_bz.mp c29
        have c29 : ¬ (True) := c29
        exact (c29 trivial).elim
set_option maxHeartbeats 4000000 in
set_option maxRecDepth 100000 in
theorem ct_X4_tick (l : Launch) (E : hr_E) (S : hr_S) (o : Int64) (n9 al : Int32) (hI : hr_MI S) : hr_Mi l E yX4_tick (Cond.code yX4_tick cX4_tick 6 (some .int) :: hr_W) ({ frames := 5, cells := 0, slots := 0, locals := 122 } : Room) [.ref (hr_ad E 14 0), .int n9, .int al] S o (fun r u => (¬ nb n9 1001 ∧ u = md_r S 1) ∨ (nb n9 1001 ∧ r = (md_tick (md_0 S) al (un n9)) 14 0 11 ∧ u = md_tick (md_0 S) al (un n9))) := by
  refine hr_of (by decide) (Nat.le_of_ble_eq_true rfl) (fun p e s m below meth c C hr => ?_)
  refine hr_aload_n C dX4_tick_0 rfl 0 rfl ?_
  refine hr_iconst (v := 0) C dX4_tick_1 (by decide) ?_
  refine hr_put (k := 14) (i := 0) (fld := 0) C (by decide) rfl rfl (by decide) kU_X4 kF_X4_48 rfl tyX4 tyX4_ok nmX4 rfl (by decide +kernel) (Nat.le_of_ble_eq_true rfl) (by simp [hr_cell, hr_w, hr_wA, upd]) rfl dX4_tick_2 ?_
  refine hr_st (S1 := md_0 S) rfl ?_
  refine hr_aload_n C dX4_tick_5 rfl 0 rfl ?_
  refine hr_iload_n C dX4_tick_6 rfl 1 rfl ?_
  refine hr_iconst (v := 0) C dX4_tick_7 (by decide) ?_
  refine hr_sipush (v := 1000) C dX4_tick_8 (by decide) ?_
  refine hr_cSi C (ct_X4_in l E (md_0 S) o n9 0 1000) (cwS 3 C.1.2.2.2.2 (hr_gS kM_X4_52 kT_X4_in kN_X4 kC_X4_in) rfl rfl rfl (by decide +kernel) ⟨Nat.le_of_ble_eq_true rfl, Nat.le_of_ble_eq_true rfl⟩) rfl (Nat.le_of_ble_eq_true rfl) dX4_tick_11 ⟨Nat.le_of_ble_eq_true rfl, Nat.le_of_ble_eq_true rfl⟩ (fun r1 S2 h3 => ?_) rfl
  refine hr_tp h3.1 ?_
  refine hr_st (S1 := (md_0 S)) h3.2 ?_
  refine hr_if_ne C 21 dX4_tick_14 (by decide) (fun c14 => ?_) (fun c14 => ?_)
  · skip
    have c14 := hr_bn.mp c14
    have c14 : 0 ≤ n9 ∧ n9 ≤ 1000 := c14
    refine hr_iconst (v := 0) C dX4_tick_21 (by decide) ?_
    refine hr_iconst (v := 1) C dX4_tick_22 (by decide) ?_
    refine hr_cVi C (ct_X4_refuses0 l E (md_0 S) o 1 (md_0_0 S) (by decide)) (cwV 2 C.1.2.2.2.2 (hr_gV kM_X4_123 kI_X4_refuses kS_X4_refuses kN_X4 kC_X4_refuses) rfl rfl rfl (by decide +kernel) ⟨Nat.le_of_ble_eq_true rfl, Nat.le_of_ble_eq_true rfl⟩) (by decide) rfl rfl rfl (Nat.le_of_ble_eq_true rfl) dX4_tick_23 ⟨Nat.le_of_ble_eq_true rfl, Nat.le_of_ble_eq_true rfl⟩ (fun r4 S5 h6 => ?_) rfl
    refine hr_tp h6.1 ?_
    refine hr_st (S1 := (md_0 S)) h6.2 ?_
    refine hr_if_eq C 31 dX4_tick_26 (by decide) (fun c26 => ?_) (fun c26 => ?_)
    · skip
      have c26 := hr_bz.mp c26
      have c26 : ¬ (False) := c26
      have fN : nb n9 1001 := (nb_in (N := 1000) rfl (by decide)).mp c14
      have hN := fN.2
      refine hr_iconst (v := 0) C dX4_tick_31 (by decide) ?_
      refine hr_istore_n C [(3, .int 0), (0, .ref (hr_ad E 14 0)), (1, .int n9), (2, .int al)] dX4_tick_32 rfl (by decide) rfl ?_
      have LP33 : ∀ (n i9 : Nat) , i9 ≤ (un n9) → (un n9) + 1 ≤ i9 + n → hr_G p l e ({ frames := 5, cells := 0, slots := 0, locals := 122 } : Room) s m #[.ref (hr_ad E 14 0), .int n9, .int al] below meth c (MQ below (va_Qi (fun r u => (¬ nb n9 1001 ∧ u = md_r S 1) ∨ (nb n9 1001 ∧ r = (md_tick (md_0 S) al (un n9)) 14 0 11 ∧ u = md_tick (md_0 S) al (un n9))) (fun u t => hr_P E u o t.heap) (hr_A E)) #[.ref (hr_ad E 14 0), .int n9, .int al] s 0 0 (hr_A E)) E 6 0 0 (md_tick (md_0 S) al i9) o [(0, .ref (hr_ad E 14 0)), (1, .int n9), (2, .int al), (3, .int (nI i9))] 33 [] := by
        intro n
        induction n with
        | zero => intro i9  h1 h2; omega
        | succ n ih =>
          intro i9  hv1 hv2
          refine hr_iload_n C dX4_tick_33 rfl 3 rfl ?_
          refine hr_iload_n C dX4_tick_34 rfl 1 rfl ?_
          refine hr_tp (y := nI (un n9)) fN.1 ?_
          refine hr_icmp_ge C 83 dX4_tick_35 (by decide) (fun c35 => ?_) (fun c35 => ?_)
          · skip
            have c35 : (un n9) ≤ i9 := (nI_leI (a := (un n9)) (b := i9) (by omega) (by omega)).mp c35
            have c35n : ¬ i9 < (un n9) := Nat.not_lt.mpr c35
            refine hr_aload_n C dX4_tick_83 rfl 0 rfl ?_
            refine hr_get (k := 14) (i := 0) (fld := 11) C (by decide) rfl rfl (by decide) kU_X4 kF_X4_66 rfl rfl dX4_tick_84 ?_
            exact hr_iret C hr dX4_tick_87 (Or.inr ⟨fN, by rw [show i9 = un n9 by omega], by rw [show i9 = un n9 by omega]⟩)
          · skip
            have c35 : ¬ (un n9) ≤ i9 := fun h => c35 ((nI_leI (a := (un n9)) (b := i9) (by omega) (by omega)).mpr h)
            have c35n : i9 < (un n9) := Nat.not_le.mp c35
            refine hr_aload_n C dX4_tick_38 rfl 0 rfl ?_
            refine hr_cVv C (ct_X4_turn l E (md_tick (md_0 S) al i9) o (MI_tick (MI_0 hI) i9)) (cwV 0 C.1.2.2.2.2 (hr_gV kM_X4_127 kI_X4_turn kS_X4_turn kN_X4 kC_X4_turn) rfl rfl rfl (by decide +kernel) ⟨Nat.le_of_ble_eq_true rfl, Nat.le_of_ble_eq_true rfl⟩) (by decide) rfl rfl rfl (Nat.le_of_ble_eq_true rfl) dX4_tick_39 ⟨Nat.le_of_ble_eq_true rfl, Nat.le_of_ble_eq_true rfl⟩ (fun S8 h9 => ?_) rfl
            refine hr_st (S1 := (md_turn (md_tick (md_0 S) al i9))) h9 ?_
            refine hr_iconst (v := 0) C dX4_tick_42 (by decide) ?_
            refine hr_istore C [(4, .int 0), (0, .ref (hr_ad E 14 0)), (1, .int n9), (2, .int al), (3, .int (nI i9))] dX4_tick_43 (by decide) rfl ?_
            have LPI : ∀ (n2 came : Nat) (S1 : hr_S), came ≤ 1000 → 1001 ≤ came + n2 → hr_MI S1 → (if al = 0 then S1 else md_dr (1000 - came) S1) = md_tk1' (md_tick (md_0 S) al i9) al → hr_G p l e ({ frames := 5, cells := 0, slots := 0, locals := 122 } : Room) s m #[.ref (hr_ad E 14 0), .int n9, .int al] below meth c (MQ below (va_Qi (fun r u => (¬ nb n9 1001 ∧ u = md_r S 1) ∨ (nb n9 1001 ∧ r = (md_tick (md_0 S) al (un n9)) 14 0 11 ∧ u = md_tick (md_0 S) al (un n9))) (fun u t => hr_P E u o t.heap) (hr_A E)) #[.ref (hr_ad E 14 0), .int n9, .int al] s 0 0 (hr_A E)) E 6 0 0 S1 o [(0, .ref (hr_ad E 14 0)), (1, .int n9), (2, .int al), (3, .int (nI i9)), (4, .int (nI came))] 45 [] := by
              intro n2
              induction n2 with
              | zero => intro came S1 h1 h2; omega
              | succ n2 ih2 =>
                intro came S1 h6 h7 h8 h9
                have h8b := h8.1.2
                refine hr_iload C dX4_tick_45 4 rfl ?_
                refine hr_sipush (v := 1000) C dX4_tick_47 (by decide) ?_
                refine hr_icmp_ge C 77 dX4_tick_50 (by decide) (fun c50 => ?_) (fun c50 => ?_)
                · skip
                  have c50 : 1000 ≤ came := (nI_leI (a := 1000) (b := came) (by omega) (by omega)).mp c50
                  have c50n : ¬ came < 1000 := Nat.not_lt.mpr c50
                  have h9 : S1 = md_tk1' (md_tick (md_0 S) al i9) al := by rw [show 1000 - came = 0 by omega] at h9; rw [← h9]; split <;> rfl
                  refine hr_st (S1 := md_tick (md_0 S) al (i9 + 1)) (show S1 = _ from h9) ?_
                  refine hr_iinc (v := nI (i9 + 1)) C [(3, .int (nI (i9 + 1))), (0, .ref (hr_ad E 14 0)), (1, .int n9), (2, .int al), (4, .int (nI came))] dX4_tick_77 3 rfl (nI_add i9 1) (by decide) rfl ?_
                  refine hr_goto C 33 dX4_tick_80 (by decide) ?_
                  refine hr_sub [1, 2, 3, 0] rfl ?_
                  refine hr_st (S1 := md_tick (md_0 S) al (i9 + 1)) rfl ?_
                  exact ih (i9 + 1)  (by omega) (by omega)
                · skip
                  have c50 : ¬ 1000 ≤ came := fun h => c50 ((nI_leI (a := 1000) (b := came) (by omega) (by omega)).mpr h)
                  have c50n : came < 1000 := Nat.not_le.mp c50
                  refine hr_iload_n C dX4_tick_53 rfl 2 rfl ?_
                  refine hr_if_eq C 77 dX4_tick_54 (by decide) (fun c54 => ?_) (fun c54 => ?_)
                  · skip
                    rw [if_pos c54] at h9
                    refine hr_st (S1 := md_tick (md_0 S) al (i9 + 1)) (show S1 = _ from h9) ?_
                    refine hr_iinc (v := nI (i9 + 1)) C [(3, .int (nI (i9 + 1))), (0, .ref (hr_ad E 14 0)), (1, .int n9), (2, .int al), (4, .int (nI came))] dX4_tick_77 3 rfl (nI_add i9 1) (by decide) rfl ?_
                    refine hr_goto C 33 dX4_tick_80 (by decide) ?_
                    refine hr_sub [1, 2, 3, 0] rfl ?_
                    refine hr_st (S1 := md_tick (md_0 S) al (i9 + 1)) rfl ?_
                    exact ih (i9 + 1)  (by omega) (by omega)
                  · skip
                    rw [if_neg c54] at h9
                    refine hr_aload_n C dX4_tick_57 rfl 0 rfl ?_
                    refine hr_get (k := 14) (i := 0) (fld := 11) C (by decide) rfl rfl (by decide) kU_X4 kF_X4_66 rfl rfl dX4_tick_58 ?_
                    refine hr_tp (y := nI (un (S1 14 0 11))) h8.1.1 ?_
                    refine hr_if_le C 77 dX4_tick_61 (by decide) (fun c61 => ?_) (fun c61 => ?_)
                    · skip
                      have c61 : (un (S1 14 0 11)) ≤ 0 := (nI_leI (a := (un (S1 14 0 11))) (b := 0) (by omega) (by omega)).mp c61
                      have c61n : ¬ 0 < (un (S1 14 0 11)) := Nat.not_lt.mpr c61
                      have h9 : S1 = md_tk1' (md_tick (md_0 S) al i9) al := by rw [← h9, show 1000 - came = (1000 - (came + 1)) + 1 by omega, md_dr, if_neg (by show ¬ 0 < un (S1 14 0 11); omega)]
                      refine hr_st (S1 := md_tick (md_0 S) al (i9 + 1)) (show S1 = _ from h9) ?_
                      refine hr_iinc (v := nI (i9 + 1)) C [(3, .int (nI (i9 + 1))), (0, .ref (hr_ad E 14 0)), (1, .int n9), (2, .int al), (4, .int (nI came))] dX4_tick_77 3 rfl (nI_add i9 1) (by decide) rfl ?_
                      refine hr_goto C 33 dX4_tick_80 (by decide) ?_
                      refine hr_sub [1, 2, 3, 0] rfl ?_
                      refine hr_st (S1 := md_tick (md_0 S) al (i9 + 1)) rfl ?_
                      exact ih (i9 + 1)  (by omega) (by omega)
                    · skip
                      have c61 : ¬ (un (S1 14 0 11)) ≤ 0 := fun h => c61 ((nI_leI (a := (un (S1 14 0 11))) (b := 0) (by omega) (by omega)).mpr h)
                      have c61n : 0 < (un (S1 14 0 11)) := Nat.not_le.mp c61
                      have hpos : 0 < md_n S1 := by show 0 < un (S1 14 0 11); omega
                      refine hr_aload_n C dX4_tick_64 rfl 0 rfl ?_
                      refine hr_iconst (v := 0) C dX4_tick_65 (by decide) ?_
                      refine hr_cVi C (ct_X4_arrive l E S1 o 0 hpos h8) (cwV 1 C.1.2.2.2.2 (hr_gV kM_X4_130 kI_X4_arrive kS_X4_arrive kN_X4 kC_X4_arrive) rfl rfl rfl (by decide +kernel) ⟨Nat.le_of_ble_eq_true rfl, Nat.le_of_ble_eq_true rfl⟩) (by decide) rfl rfl rfl (Nat.le_of_ble_eq_true rfl) dX4_tick_66 ⟨Nat.le_of_ble_eq_true rfl, Nat.le_of_ble_eq_true rfl⟩ (fun r10 S11 h12 => ?_) rfl
                      refine hr_tp h12.1 ?_
                      refine hr_st (S1 := (md_arr S1 0)) h12.2 ?_
                      refine hr_istore C [(5, .int (if ¬ (md_come S1 0) 15 0 ((8 * un (S1 21 0 0)) + un (S1 22 0 0)) = 0 then 1 else 0)), (0, .ref (hr_ad E 14 0)), (1, .int n9), (2, .int al), (3, .int (nI i9)), (4, .int (nI came))] dX4_tick_69 (by decide) rfl ?_
                      refine hr_iinc (v := nI (came + 1)) C [(4, .int (nI (came + 1))), (5, .int (if ¬ (md_come S1 0) 15 0 ((8 * un (S1 21 0 0)) + un (S1 22 0 0)) = 0 then 1 else 0)), (0, .ref (hr_ad E 14 0)), (1, .int n9), (2, .int al), (3, .int (nI i9))] dX4_tick_71 5 rfl (nI_add came 1) (by decide) rfl ?_
                      refine hr_goto C 45 dX4_tick_74 (by decide) ?_
                      refine hr_sub [2, 3, 4, 5, 0] rfl ?_
                      refine ih2 (came + 1) _ (by omega) (by omega) (MI_arr h8 hpos) ?_
                      rw [if_neg c54, ← h9, show 1000 - came = (1000 - (came + 1)) + 1 by omega, md_dr, if_pos hpos]
            refine hr_sub [1, 2, 3, 4, 0] rfl ?_
            exact LPI 1001 0 _ (by omega) (by omega) (MI_turn (MI_tick (MI_0 hI) i9)) rfl
      refine hr_sub [1, 2, 3, 0] rfl ?_
      refine hr_st (S1 := md_tick (md_0 S) al 0) rfl ?_
      exact LP33 ((un n9) + 1) 0  (by omega) (by omega)
    · skip
      have c26 := hr_bn.mp c26
      have c26 : False := c26
      exact c26.elim
  · skip
    have c14 := hr_bz.mp c14
    have c14 : ¬ (0 ≤ n9 ∧ n9 ≤ 1000) := c14
    refine hr_iconst (v := 1) C dX4_tick_17 (by decide) ?_
    refine hr_goto C 22 dX4_tick_18 (by decide) ?_
    refine hr_iconst (v := 1) C dX4_tick_22 (by decide) ?_
    refine hr_cVi C (ct_X4_refuses1 l E (md_0 S) o 1 (md_0_0 S) (by decide)) (cwV 2 C.1.2.2.2.2 (hr_gV kM_X4_123 kI_X4_refuses kS_X4_refuses kN_X4 kC_X4_refuses) rfl rfl rfl (by decide +kernel) ⟨Nat.le_of_ble_eq_true rfl, Nat.le_of_ble_eq_true rfl⟩) (by decide) rfl rfl rfl (Nat.le_of_ble_eq_true rfl) dX4_tick_23 ⟨Nat.le_of_ble_eq_true rfl, Nat.le_of_ble_eq_true rfl⟩ (fun r13 S14 h15 => ?_) rfl
    refine hr_tp h15.1 ?_
    refine hr_st (S1 := (hr_w (md_0 S) 14 0 0 1)) h15.2 ?_
    refine hr_if_eq C 31 dX4_tick_26 (by decide) (fun c26 => ?_) (fun c26 => ?_)
    · skip
      have c26 := hr_bz.mp c26
      have c26 : ¬ (True) := c26
      exact (c26 trivial).elim
    · skip
      have c26 := hr_bn.mp c26
      have c26 : True := c26
      refine hr_iconst (v := 0) C dX4_tick_29 (by decide) ?_
      exact hr_iret C hr dX4_tick_30 (Or.inl ⟨fun h => c14 ((nb_in (N := 1000) rfl (by decide)).mpr h), rfl⟩)
set_option maxHeartbeats 4000000 in
set_option maxRecDepth 100000 in
theorem ct_X4_deliver (l : Launch) (E : hr_E) (S : hr_S) (o : Int64) (k : Int32) (hI : hr_MI S) : hr_Mi l E yX4_deliver (Cond.code yX4_deliver cX4_deliver 2 (some .boolean) :: hr_W) ({ frames := 5, cells := 0, slots := 0, locals := 122 } : Room) [.ref (hr_ad E 14 0), .int k] S o (fun r u => (¬ nb k (md_n (md_0 S)) ∧ u = md_r S 1) ∨ (nb k (md_n (md_0 S)) ∧ r = (if ¬ (md_come (md_0 S) (un k)) 15 0 ((8 * un (md_0 S 21 0 (un k))) + un (md_0 S 22 0 (un k))) = 0 then 1 else 0) ∧ u = md_arr (md_0 S) (un k))) := by
  refine hr_of (by decide) (Nat.le_of_ble_eq_true rfl) (fun p e s m below meth c C hr => ?_)
  refine hr_aload_n C dX4_deliver_0 rfl 0 rfl ?_
  refine hr_iconst (v := 0) C dX4_deliver_1 (by decide) ?_
  refine hr_put (k := 14) (i := 0) (fld := 0) C (by decide) rfl rfl (by decide) kU_X4 kF_X4_48 rfl tyX4 tyX4_ok nmX4 rfl (by decide +kernel) (Nat.le_of_ble_eq_true rfl) (by simp [hr_cell, hr_w, hr_wA, upd]) rfl dX4_deliver_2 ?_
  refine hr_st (S1 := md_0 S) rfl ?_
  refine hr_aload_n C dX4_deliver_5 rfl 0 rfl ?_
  refine hr_iload_n C dX4_deliver_6 rfl 1 rfl ?_
  refine hr_cVi C (ct_X4_lacks l E (md_0 S) o k (MI_0 hI) (md_0_0 S)) (cwV 1 C.1.2.2.2.2 (hr_gV kM_X4_133 kI_X4_lacks kS_X4_lacks kN_X4 kC_X4_lacks) rfl rfl rfl (by decide +kernel) ⟨Nat.le_of_ble_eq_true rfl, Nat.le_of_ble_eq_true rfl⟩) (by decide) rfl rfl rfl (Nat.le_of_ble_eq_true rfl) dX4_deliver_7 ⟨Nat.le_of_ble_eq_true rfl, Nat.le_of_ble_eq_true rfl⟩ (fun r1 S2 h3 => ?_) rfl
  refine hr_tp h3.1 ?_
  refine hr_st (S1 := (if ¬ (k = nI (un k) ∧ un k < un ((md_0 S) 14 0 11)) then hr_w (md_0 S) 14 0 0 1 else (md_0 S))) h3.2 ?_
  refine hr_if_ne C 25 dX4_deliver_10 (by decide) (fun c10 => ?_) (fun c10 => ?_)
  · skip
    have c10 := hr_bn.mp c10
    have c10 : ¬ (k = nI (un k) ∧ un k < un ((md_0 S) 14 0 11)) := c10
    refine hr_st (S1 := md_r S 1) (if_pos c10) ?_
    refine hr_iconst (v := 0) C dX4_deliver_25 (by decide) ?_
    exact hr_zret C hr rfl dX4_deliver_26 (Or.inl ⟨c10, rfl⟩)
  · skip
    have c10 := hr_bz.mp c10
    have c10 : ¬ (¬ (k = nI (un k) ∧ un k < un ((md_0 S) 14 0 11))) := c10
    refine hr_st (S1 := md_0 S) (if_neg c10) ?_
    have fK : nb k (md_n (md_0 S)) := Classical.not_not.mp c10
    have hK := fK.2
    have hM := MI_0 hI
    have hn2 : md_n (md_0 S) < 201 := hM.1.2
    refine hr_aload_n C dX4_deliver_13 rfl 0 rfl ?_
    refine hr_iload_n C dX4_deliver_14 rfl 1 rfl ?_
    refine hr_tp (y := nI (un k)) fK.1 ?_
    refine hr_cVi C (ct_X4_arrive l E (md_0 S) o (un k) hK hM) (cwV 1 C.1.2.2.2.2 (hr_gV kM_X4_130 kI_X4_arrive kS_X4_arrive kN_X4 kC_X4_arrive) rfl rfl rfl (by decide +kernel) ⟨Nat.le_of_ble_eq_true rfl, Nat.le_of_ble_eq_true rfl⟩) (by decide) rfl rfl rfl (Nat.le_of_ble_eq_true rfl) dX4_deliver_15 ⟨Nat.le_of_ble_eq_true rfl, Nat.le_of_ble_eq_true rfl⟩ (fun r4 S5 h6 => ?_) rfl
    refine hr_tp h6.1 ?_
    refine hr_st (S1 := (md_arr (md_0 S) (un k))) h6.2 ?_
    refine hr_if_eq C 25 dX4_deliver_18 (by decide) (fun c18 => ?_) (fun c18 => ?_)
    · skip
      have c18 := hr_bz.mp c18
      have c18 : ¬ (¬ (md_come (md_0 S) (un k)) 15 0 ((8 * un ((md_0 S) 21 0 (un k))) + un ((md_0 S) 22 0 (un k))) = 0) := c18
      refine hr_iconst (v := 0) C dX4_deliver_25 (by decide) ?_
      exact hr_zret C hr rfl dX4_deliver_26 (Or.inr ⟨fK, by rw [if_neg c18], rfl⟩)
    · skip
      have c18 := hr_bn.mp c18
      have c18 : ¬ (md_come (md_0 S) (un k)) 15 0 ((8 * un ((md_0 S) 21 0 (un k))) + un ((md_0 S) 22 0 (un k))) = 0 := c18
      refine hr_iconst (v := 1) C dX4_deliver_21 (by decide) ?_
      refine hr_goto C 26 dX4_deliver_22 (by decide) ?_
      exact hr_zret C hr rfl dX4_deliver_26 (Or.inr ⟨fK, by rw [if_pos c18], rfl⟩)
set_option maxHeartbeats 4000000 in
set_option maxRecDepth 100000 in
theorem ct_X4_lose (l : Launch) (E : hr_E) (S : hr_S) (o : Int64) (k : Int32) (hI : hr_MI S) : hr_Mi l E yX4_lose (Cond.code yX4_lose cX4_lose 2 (some .int) :: hr_W) ({ frames := 2, cells := 0, slots := 0, locals := 43 } : Room) [.ref (hr_ad E 14 0), .int k] S o (fun r u => (¬ nb k (md_n (md_0 S)) ∧ u = md_r S 1) ∨ (nb k (md_n (md_0 S)) ∧ r = (md_take (md_0 S) (un k)) 14 0 11 ∧ u = md_take (md_0 S) (un k))) := by
  refine hr_of (by decide) (Nat.le_of_ble_eq_true rfl) (fun p e s m below meth c C hr => ?_)
  refine hr_aload_n C dX4_lose_0 rfl 0 rfl ?_
  refine hr_iconst (v := 0) C dX4_lose_1 (by decide) ?_
  refine hr_put (k := 14) (i := 0) (fld := 0) C (by decide) rfl rfl (by decide) kU_X4 kF_X4_48 rfl tyX4 tyX4_ok nmX4 rfl (by decide +kernel) (Nat.le_of_ble_eq_true rfl) (by simp [hr_cell, hr_w, hr_wA, upd]) rfl dX4_lose_2 ?_
  refine hr_st (S1 := md_0 S) rfl ?_
  refine hr_aload_n C dX4_lose_5 rfl 0 rfl ?_
  refine hr_iload_n C dX4_lose_6 rfl 1 rfl ?_
  refine hr_cVi C (ct_X4_lacks l E (md_0 S) o k (MI_0 hI) (md_0_0 S)) (cwV 1 C.1.2.2.2.2 (hr_gV kM_X4_133 kI_X4_lacks kS_X4_lacks kN_X4 kC_X4_lacks) rfl rfl rfl (by decide +kernel) ⟨Nat.le_of_ble_eq_true rfl, Nat.le_of_ble_eq_true rfl⟩) (by decide) rfl rfl rfl (Nat.le_of_ble_eq_true rfl) dX4_lose_7 ⟨Nat.le_of_ble_eq_true rfl, Nat.le_of_ble_eq_true rfl⟩ (fun r1 S2 h3 => ?_) rfl
  refine hr_tp h3.1 ?_
  refine hr_st (S1 := (if ¬ (k = nI (un k) ∧ un k < un ((md_0 S) 14 0 11)) then hr_w (md_0 S) 14 0 0 1 else (md_0 S))) h3.2 ?_
  refine hr_if_eq C 15 dX4_lose_10 (by decide) (fun c10 => ?_) (fun c10 => ?_)
  · skip
    have c10 := hr_bz.mp c10
    have c10 : ¬ (¬ (k = nI (un k) ∧ un k < un ((md_0 S) 14 0 11))) := c10
    refine hr_st (S1 := md_0 S) (if_neg c10) ?_
    have fK : nb k (md_n (md_0 S)) := Classical.not_not.mp c10
    have hK := fK.2
    have hM := MI_0 hI
    have hn2 : md_n (md_0 S) < 201 := hM.1.2
    refine hr_aload_n C dX4_lose_15 rfl 0 rfl ?_
    refine hr_iload_n C dX4_lose_16 rfl 1 rfl ?_
    refine hr_tp (y := nI (un k)) fK.1 ?_
    refine hr_cVv C (ct_X4_takeOut l E (md_0 S) o (un k) hK hM) (cwV 1 C.1.2.2.2.2 (hr_gV kM_X4_101 kI_X4_takeOut kS_X4_takeOut kN_X4 kC_X4_takeOut) rfl rfl rfl (by decide +kernel) ⟨Nat.le_of_ble_eq_true rfl, Nat.le_of_ble_eq_true rfl⟩) (by decide) rfl rfl rfl (Nat.le_of_ble_eq_true rfl) dX4_lose_17 ⟨Nat.le_of_ble_eq_true rfl, Nat.le_of_ble_eq_true rfl⟩ (fun S5 h6 => ?_) rfl
    refine hr_st (S1 := (md_take (md_0 S) (un k))) h6 ?_
    refine hr_aload_n C dX4_lose_20 rfl 0 rfl ?_
    refine hr_get (k := 14) (i := 0) (fld := 11) C (by decide) rfl rfl (by decide) kU_X4 kF_X4_66 rfl rfl dX4_lose_21 ?_
    exact hr_iret C hr dX4_lose_24 (Or.inr ⟨fK, rfl, rfl⟩)
  · skip
    have c10 := hr_bn.mp c10
    have c10 : ¬ (k = nI (un k) ∧ un k < un ((md_0 S) 14 0 11)) := c10
    refine hr_st (S1 := md_r S 1) (if_pos c10) ?_
    refine hr_iconst (v := 0) C dX4_lose_13 (by decide) ?_
    exact hr_iret C hr dX4_lose_14 (Or.inl ⟨c10, rfl⟩)
set_option maxHeartbeats 4000000 in
set_option maxRecDepth 100000 in
theorem ct_X4_twice (l : Launch) (E : hr_E) (S : hr_S) (o : Int64) (k : Int32) (hI : hr_MI S) : hr_Mi l E yX4_twice (Cond.code yX4_twice cX4_twice 3 (some .int) :: hr_W) ({ frames := 2, cells := 0, slots := 0, locals := 43 } : Room) [.ref (hr_ad E 14 0), .int k] S o (fun r u => (¬ nb k (md_n (md_0 S)) ∧ u = md_r S 1) ∨ (nb k (md_n (md_0 S)) ∧ r = (md_twice (md_0 S) (un k)) 14 0 11 ∧ u = md_twice (md_0 S) (un k))) := by
  refine hr_of (by decide) (Nat.le_of_ble_eq_true rfl) (fun p e s m below meth c C hr => ?_)
  refine hr_aload_n C dX4_twice_0 rfl 0 rfl ?_
  refine hr_iconst (v := 0) C dX4_twice_1 (by decide) ?_
  refine hr_put (k := 14) (i := 0) (fld := 0) C (by decide) rfl rfl (by decide) kU_X4 kF_X4_48 rfl tyX4 tyX4_ok nmX4 rfl (by decide +kernel) (Nat.le_of_ble_eq_true rfl) (by simp [hr_cell, hr_w, hr_wA, upd]) rfl dX4_twice_2 ?_
  refine hr_st (S1 := md_0 S) rfl ?_
  refine hr_aload_n C dX4_twice_5 rfl 0 rfl ?_
  refine hr_iload_n C dX4_twice_6 rfl 1 rfl ?_
  refine hr_cVi C (ct_X4_lacks l E (md_0 S) o k (MI_0 hI) (md_0_0 S)) (cwV 1 C.1.2.2.2.2 (hr_gV kM_X4_133 kI_X4_lacks kS_X4_lacks kN_X4 kC_X4_lacks) rfl rfl rfl (by decide +kernel) ⟨Nat.le_of_ble_eq_true rfl, Nat.le_of_ble_eq_true rfl⟩) (by decide) rfl rfl rfl (Nat.le_of_ble_eq_true rfl) dX4_twice_7 ⟨Nat.le_of_ble_eq_true rfl, Nat.le_of_ble_eq_true rfl⟩ (fun r1 S2 h3 => ?_) rfl
  refine hr_tp h3.1 ?_
  refine hr_st (S1 := (if ¬ (k = nI (un k) ∧ un k < un ((md_0 S) 14 0 11)) then hr_w (md_0 S) 14 0 0 1 else (md_0 S))) h3.2 ?_
  refine hr_if_eq C 15 dX4_twice_10 (by decide) (fun c10 => ?_) (fun c10 => ?_)
  · skip
    have c10 := hr_bz.mp c10
    have c10 : ¬ (¬ (k = nI (un k) ∧ un k < un ((md_0 S) 14 0 11))) := c10
    refine hr_st (S1 := md_0 S) (if_neg c10) ?_
    have fK : nb k (md_n (md_0 S)) := Classical.not_not.mp c10
    have hK := fK.2
    have hM := MI_0 hI
    have hn2 : md_n (md_0 S) < 201 := hM.1.2
    have hS2 := (hM.2.1 (un k) (by omega)).2.2.2
    refine hr_aload_n C dX4_twice_15 rfl 0 rfl ?_
    refine hr_aload_n C dX4_twice_16 rfl 0 rfl ?_
    refine hr_get (k := 14) (i := 0) (fld := 14) C (by decide) rfl rfl (by decide) kU_X4 kF_X4_35 rfl rfl dX4_twice_17 ?_
    refine hr_iload_n C dX4_twice_20 rfl 1 rfl ?_
    refine hr_tp (y := nI (un k)) fK.1 ?_
    refine hr_iald (k := 23) (i := 0) (un k) C (by decide) rfl rfl (show un k < 200 by omega) (by decide) dX4_twice_21 ?_
    refine hr_put (k := 14) (i := 0) (fld := 16) C (by decide) rfl rfl (by decide) kU_X4 kF_X4_56 rfl tyX4 tyX4_ok nmX4 rfl (by decide +kernel) (Nat.le_of_ble_eq_true rfl) (by simp [hr_cell, hr_w, hr_wA, upd]) rfl dX4_twice_22 ?_
    refine hr_iconst (v := 0) C dX4_twice_25 (by decide) ?_
    refine hr_istore_n C [(2, .int 0), (0, .ref (hr_ad E 14 0)), (1, .int k)] dX4_twice_26 rfl (by decide) rfl ?_
    have LP27 : ∀ (n i9 : Nat) , i9 ≤ (un (md_0 S 23 0 (un k))) → (un (md_0 S 23 0 (un k))) + 1 ≤ i9 + n → hr_G p l e ({ frames := 2, cells := 0, slots := 0, locals := 43 } : Room) s m #[.ref (hr_ad E 14 0), .int k] below meth c (MQ below (va_Qi (fun r u => (¬ nb k (md_n (md_0 S)) ∧ u = md_r S 1) ∨ (nb k (md_n (md_0 S)) ∧ r = (md_twice (md_0 S) (un k)) 14 0 11 ∧ u = md_twice (md_0 S) (un k))) (fun u t => hr_P E u o t.heap) (hr_A E)) #[.ref (hr_ad E 14 0), .int k] s 0 0 (hr_A E)) E 3 0 0 (md_twL (hr_w (md_0 S) 14 0 16 (md_0 S 23 0 (un k))) (un k) i9) o [(0, .ref (hr_ad E 14 0)), (1, .int k), (2, .int (nI i9))] 27 [] := by
      intro n
      induction n with
      | zero => intro i9  h1 h2; omega
      | succ n ih =>
        intro i9  hv1 hv2
        refine hr_iload_n C dX4_twice_27 rfl 2 rfl ?_
        refine hr_aload_n C dX4_twice_28 rfl 0 rfl ?_
        refine hr_get (k := 14) (i := 0) (fld := 16) C (by decide) rfl rfl (by decide) kU_X4 kF_X4_56 rfl rfl dX4_twice_29 ?_
        refine hr_tp (y := nI (un (md_0 S 23 0 (un k)))) (by rw [md_twL_k _ _ (by decide), hr_w_self]; exact (hM.2.1 (un k) (by omega)).2.2.1) ?_
        refine hr_icmp_ge C 59 dX4_twice_32 (by decide) (fun c32 => ?_) (fun c32 => ?_)
        · skip
          have c32 : (un (md_0 S 23 0 (un k))) ≤ i9 := (nI_leI (a := (un (md_0 S 23 0 (un k)))) (b := i9) (by omega) (by omega)).mp c32
          have c32n : ¬ i9 < (un (md_0 S 23 0 (un k))) := Nat.not_lt.mpr c32
          refine hr_st (S1 := (md_tw1 (md_0 S) (un k))) (by rw [show i9 = un (md_0 S 23 0 (un k)) by omega]; rfl) ?_
          refine hr_aload_n C dX4_twice_59 rfl 0 rfl ?_
          refine hr_aload_n C dX4_twice_60 rfl 0 rfl ?_
          refine hr_get (k := 14) (i := 0) (fld := 12) C (by decide) rfl rfl (by decide) kU_X4 kF_X4_29 rfl rfl dX4_twice_61 ?_
          refine hr_iload_n C dX4_twice_64 rfl 1 rfl ?_
          refine hr_tp (y := nI (un k)) fK.1 ?_
          refine hr_iald (k := 21) (i := 0) (un k) C (by decide) rfl rfl (show un k < 200 by omega) (by decide) dX4_twice_65 ?_
          refine hr_aload_n C dX4_twice_66 rfl 0 rfl ?_
          refine hr_get (k := 14) (i := 0) (fld := 13) C (by decide) rfl rfl (by decide) kU_X4 kF_X4_32 rfl rfl dX4_twice_67 ?_
          refine hr_iload_n C dX4_twice_70 rfl 1 rfl ?_
          refine hr_tp (y := nI (un k)) fK.1 ?_
          refine hr_iald (k := 22) (i := 0) (un k) C (by decide) rfl rfl (show un k < 200 by omega) (by decide) dX4_twice_71 ?_
          refine hr_cVv C (ct_X4_post l E (md_tw1 (md_0 S) (un k)) o ((md_tw1 (md_0 S) (un k)) 21 0 (un k)) ((md_tw1 (md_0 S) (un k)) 22 0 (un k)) (MI_tw1 hM) (by rw [md_tw1_m]; exact (hM.2.1 (un k) (by omega)).2.2)) (cwV 2 C.1.2.2.2.2 (hr_gV kM_X4_79 kI_X4_post kS_X4_post kN_X4 kC_X4_post) rfl rfl rfl (by decide +kernel) ⟨Nat.le_of_ble_eq_true rfl, Nat.le_of_ble_eq_true rfl⟩) (by decide) rfl rfl rfl (Nat.le_of_ble_eq_true rfl) dX4_twice_72 ⟨Nat.le_of_ble_eq_true rfl, Nat.le_of_ble_eq_true rfl⟩ (fun S5 h6 => ?_) rfl
          refine hr_st (S1 := (md_post (md_tw1 (md_0 S) (un k)) ((md_tw1 (md_0 S) (un k)) 21 0 (un k)) ((md_tw1 (md_0 S) (un k)) 22 0 (un k)))) h6 ?_
          refine hr_aload_n C dX4_twice_75 rfl 0 rfl ?_
          refine hr_get (k := 14) (i := 0) (fld := 11) C (by decide) rfl rfl (by decide) kU_X4 kF_X4_66 rfl rfl dX4_twice_76 ?_
          exact hr_iret C hr dX4_twice_79 (Or.inr ⟨fK, rfl, rfl⟩)
        · skip
          have c32 : ¬ (un (md_0 S 23 0 (un k))) ≤ i9 := fun h => c32 ((nI_leI (a := (un (md_0 S 23 0 (un k)))) (b := i9) (by omega) (by omega)).mpr h)
          have c32n : i9 < (un (md_0 S 23 0 (un k))) := Nat.not_le.mp c32
          refine hr_aload_n C dX4_twice_35 rfl 0 rfl ?_
          refine hr_get (k := 14) (i := 0) (fld := 17) C (by decide) rfl rfl (by decide) kU_X4 kF_X4_42 rfl rfl dX4_twice_36 ?_
          refine hr_iload_n C dX4_twice_39 rfl 2 rfl ?_
          refine hr_aload_n C dX4_twice_40 rfl 0 rfl ?_
          refine hr_get (k := 14) (i := 0) (fld := 15) C (by decide) rfl rfl (by decide) kU_X4 kF_X4_39 rfl rfl dX4_twice_41 ?_
          refine hr_sipush (v := 164) C dX4_twice_44 (by decide) ?_
          refine hr_iload_n C dX4_twice_47 rfl 1 rfl ?_
          refine hr_tp (y := nI (un k)) fK.1 ?_
          refine hr_imul (v := nI (164 * (un k))) C dX4_twice_48 (pk_mul 164 (un k)) ?_
          refine hr_iload_n C dX4_twice_49 rfl 2 rfl ?_
          refine hr_iadd (v := nI ((164 * (un k)) + i9)) C dX4_twice_50 (nI_add (164 * (un k)) i9) ?_
          refine hr_iald (k := 24) (i := 0) ((164 * (un k)) + i9) C (by decide) rfl rfl (show (164 * (un k)) + i9 < 32800 by omega) (by decide) dX4_twice_51 ?_
          refine hr_iast (k := 25) (i := 0) i9 C (by decide) rfl rfl (show i9 < 164 by omega) (by decide) (by simp [hr_cell, hr_wA]) rfl dX4_twice_52 ?_
          refine hr_iinc (v := nI (i9 + 1)) C [(2, .int (nI (i9 + 1))), (0, .ref (hr_ad E 14 0)), (1, .int k)] dX4_twice_53 2 rfl (nI_add i9 1) (by decide) rfl ?_
          refine hr_goto C 27 dX4_twice_56 (by decide) ?_
          refine hr_sub [1, 2, 0] rfl ?_
          refine hr_st (S1 := md_twL (hr_w (md_0 S) 14 0 16 (md_0 S 23 0 (un k))) (un k) (i9 + 1)) rfl ?_
          exact ih (i9 + 1)  (by omega) (by omega)
    refine hr_sub [1, 2, 0] rfl ?_
    refine hr_st (S1 := md_twL (hr_w (md_0 S) 14 0 16 (md_0 S 23 0 (un k))) (un k) 0) rfl ?_
    exact LP27 ((un (md_0 S 23 0 (un k))) + 1) 0  (by omega) (by omega)
  · skip
    have c10 := hr_bn.mp c10
    have c10 : ¬ (k = nI (un k) ∧ un k < un ((md_0 S) 14 0 11)) := c10
    refine hr_st (S1 := md_r S 1) (if_pos c10) ?_
    refine hr_iconst (v := 0) C dX4_twice_13 (by decide) ?_
    exact hr_iret C hr dX4_twice_14 (Or.inl ⟨c10, rfl⟩)
set_option maxHeartbeats 4000000 in
set_option maxRecDepth 100000 in
theorem ct_X4_poke (l : Launch) (E : hr_E) (S : hr_S) (o : Int64) (k j v : Int32) (hI : hr_MI S) : hr_Mi l E yX4_poke (Cond.code yX4_poke cX4_poke 5 (some .int) :: hr_W) ({ frames := 2, cells := 0, slots := 0, locals := 43 } : Room) [.ref (hr_ad E 14 0), .int k, .int j, .int v] S o (fun r u => (¬ nb k (md_n (md_0 S)) ∧ u = md_r S 1) ∨ (nb k (md_n (md_0 S)) ∧ ¬ nb j (un (md_0 S 23 0 (un k))) ∧ u = md_r S 1) ∨ (nb k (md_n (md_0 S)) ∧ nb j (un (md_0 S 23 0 (un k))) ∧ ¬ (0 ≤ v ∧ v ≤ 255) ∧ u = md_r S 2) ∨ (nb k (md_n (md_0 S)) ∧ nb j (un (md_0 S 23 0 (un k))) ∧ (0 ≤ v ∧ v ≤ 255) ∧ r = md_0 S 24 0 ((164 * un k) + un j) ∧ u = hr_w (md_0 S) 24 0 ((164 * un k) + un j) v)) := by
  refine hr_of (by decide) (Nat.le_of_ble_eq_true rfl) (fun p e s m below meth c C hr => ?_)
  refine hr_aload_n C dX4_poke_0 rfl 0 rfl ?_
  refine hr_iconst (v := 0) C dX4_poke_1 (by decide) ?_
  refine hr_put (k := 14) (i := 0) (fld := 0) C (by decide) rfl rfl (by decide) kU_X4 kF_X4_48 rfl tyX4 tyX4_ok nmX4 rfl (by decide +kernel) (Nat.le_of_ble_eq_true rfl) (by simp [hr_cell, hr_w, hr_wA, upd]) rfl dX4_poke_2 ?_
  refine hr_st (S1 := md_0 S) rfl ?_
  refine hr_aload_n C dX4_poke_5 rfl 0 rfl ?_
  refine hr_iload_n C dX4_poke_6 rfl 1 rfl ?_
  refine hr_cVi C (ct_X4_lacks l E (md_0 S) o k (MI_0 hI) (md_0_0 S)) (cwV 1 C.1.2.2.2.2 (hr_gV kM_X4_133 kI_X4_lacks kS_X4_lacks kN_X4 kC_X4_lacks) rfl rfl rfl (by decide +kernel) ⟨Nat.le_of_ble_eq_true rfl, Nat.le_of_ble_eq_true rfl⟩) (by decide) rfl rfl rfl (Nat.le_of_ble_eq_true rfl) dX4_poke_7 ⟨Nat.le_of_ble_eq_true rfl, Nat.le_of_ble_eq_true rfl⟩ (fun r1 S2 h3 => ?_) rfl
  refine hr_tp h3.1 ?_
  refine hr_st (S1 := (if ¬ (k = nI (un k) ∧ un k < un ((md_0 S) 14 0 11)) then hr_w (md_0 S) 14 0 0 1 else (md_0 S))) h3.2 ?_
  refine hr_if_ne C 66 dX4_poke_10 (by decide) (fun c10 => ?_) (fun c10 => ?_)
  · skip
    have c10 := hr_bn.mp c10
    have c10 : ¬ (k = nI (un k) ∧ un k < un ((md_0 S) 14 0 11)) := c10
    refine hr_st (S1 := md_r S 1) (if_pos c10) ?_
    refine hr_iconst (v := 0) C dX4_poke_66 (by decide) ?_
    exact hr_iret C hr dX4_poke_67 (Or.inl ⟨c10, rfl⟩)
  · skip
    have c10 := hr_bz.mp c10
    have c10 : ¬ (¬ (k = nI (un k) ∧ un k < un ((md_0 S) 14 0 11))) := c10
    refine hr_st (S1 := md_0 S) (if_neg c10) ?_
    have fK : nb k (md_n (md_0 S)) := Classical.not_not.mp c10
    have hK := fK.2
    have hM := MI_0 hI
    have hn2 : md_n (md_0 S) < 201 := hM.1.2
    refine hr_aload_n C dX4_poke_13 rfl 0 rfl ?_
    refine hr_iload_n C dX4_poke_14 rfl 2 rfl ?_
    refine hr_iconst (v := 0) C dX4_poke_15 (by decide) ?_
    refine hr_aload_n C dX4_poke_16 rfl 0 rfl ?_
    refine hr_get (k := 14) (i := 0) (fld := 14) C (by decide) rfl rfl (by decide) kU_X4 kF_X4_35 rfl rfl dX4_poke_17 ?_
    refine hr_iload_n C dX4_poke_20 rfl 1 rfl ?_
    refine hr_tp (y := nI (un k)) fK.1 ?_
    refine hr_iald (k := 23) (i := 0) (un k) C (by decide) rfl rfl (show un k < 200 by omega) (by decide) dX4_poke_21 ?_
    refine hr_iconst (v := 1) C dX4_poke_22 (by decide) ?_
    refine hr_isub C dX4_poke_23 rfl ?_
    refine hr_cSi C (ct_X4_in l E (md_0 S) o j 0 (((md_0 S) 23 0 (un k)) - 1)) (cwS 3 C.1.2.2.2.2 (hr_gS kM_X4_52 kT_X4_in kN_X4 kC_X4_in) rfl rfl rfl (by decide +kernel) ⟨Nat.le_of_ble_eq_true rfl, Nat.le_of_ble_eq_true rfl⟩) rfl (Nat.le_of_ble_eq_true rfl) dX4_poke_24 ⟨Nat.le_of_ble_eq_true rfl, Nat.le_of_ble_eq_true rfl⟩ (fun r4 S5 h6 => ?_) rfl
    refine hr_tp h6.1 ?_
    refine hr_st (S1 := (md_0 S)) h6.2 ?_
    refine hr_if_ne C 34 dX4_poke_27 (by decide) (fun c27 => ?_) (fun c27 => ?_)
    · skip
      have c27 := hr_bn.mp c27
      have c27 : 0 ≤ j ∧ j ≤ (((md_0 S) 23 0 (un k)) - 1) := c27
      refine hr_iconst (v := 0) C dX4_poke_34 (by decide) ?_
      refine hr_iconst (v := 1) C dX4_poke_35 (by decide) ?_
      refine hr_cVi C (ct_X4_refuses0 l E (md_0 S) o 1 (md_0_0 S) (by decide)) (cwV 2 C.1.2.2.2.2 (hr_gV kM_X4_123 kI_X4_refuses kS_X4_refuses kN_X4 kC_X4_refuses) rfl rfl rfl (by decide +kernel) ⟨Nat.le_of_ble_eq_true rfl, Nat.le_of_ble_eq_true rfl⟩) (by decide) rfl rfl rfl (Nat.le_of_ble_eq_true rfl) dX4_poke_36 ⟨Nat.le_of_ble_eq_true rfl, Nat.le_of_ble_eq_true rfl⟩ (fun r7 S8 h9 => ?_) rfl
      refine hr_tp h9.1 ?_
      refine hr_st (S1 := (md_0 S)) h9.2 ?_
      refine hr_if_ne C 66 dX4_poke_39 (by decide) (fun c39 => ?_) (fun c39 => ?_)
      · skip
        have c39 := hr_bn.mp c39
        have c39 : False := c39
        exact c39.elim
      · skip
        have c39 := hr_bz.mp c39
        have c39 : ¬ (False) := c39
        have fJ : nb j (un (md_0 S 23 0 (un k))) := (nb_inm (hM.2.1 (un k) (by omega)).2.2 (by decide)).mp c27
        have hJ := fJ.2
        have hS2 := (hM.2.1 (un k) (by omega)).2.2.2
        refine hr_aload_n C dX4_poke_42 rfl 0 rfl ?_
        refine hr_iload_n C dX4_poke_43 rfl 3 rfl ?_
        refine hr_iconst (v := 0) C dX4_poke_44 (by decide) ?_
        refine hr_sipush (v := 255) C dX4_poke_45 (by decide) ?_
        refine hr_cSi C (ct_X4_in l E (md_0 S) o v 0 255) (cwS 3 C.1.2.2.2.2 (hr_gS kM_X4_52 kT_X4_in kN_X4 kC_X4_in) rfl rfl rfl (by decide +kernel) ⟨Nat.le_of_ble_eq_true rfl, Nat.le_of_ble_eq_true rfl⟩) rfl (Nat.le_of_ble_eq_true rfl) dX4_poke_48 ⟨Nat.le_of_ble_eq_true rfl, Nat.le_of_ble_eq_true rfl⟩ (fun r10 S11 h12 => ?_) rfl
        refine hr_tp h12.1 ?_
        refine hr_st (S1 := (md_0 S)) h12.2 ?_
        refine hr_if_ne C 58 dX4_poke_51 (by decide) (fun c51 => ?_) (fun c51 => ?_)
        · skip
          have c51 := hr_bn.mp c51
          have c51 : 0 ≤ v ∧ v ≤ 255 := c51
          refine hr_iconst (v := 0) C dX4_poke_58 (by decide) ?_
          refine hr_iconst (v := 2) C dX4_poke_59 (by decide) ?_
          refine hr_cVi C (ct_X4_refuses0 l E (md_0 S) o 2 (md_0_0 S) (by decide)) (cwV 2 C.1.2.2.2.2 (hr_gV kM_X4_123 kI_X4_refuses kS_X4_refuses kN_X4 kC_X4_refuses) rfl rfl rfl (by decide +kernel) ⟨Nat.le_of_ble_eq_true rfl, Nat.le_of_ble_eq_true rfl⟩) (by decide) rfl rfl rfl (Nat.le_of_ble_eq_true rfl) dX4_poke_60 ⟨Nat.le_of_ble_eq_true rfl, Nat.le_of_ble_eq_true rfl⟩ (fun r13 S14 h15 => ?_) rfl
          refine hr_tp h15.1 ?_
          refine hr_st (S1 := (md_0 S)) h15.2 ?_
          refine hr_if_eq C 68 dX4_poke_63 (by decide) (fun c63 => ?_) (fun c63 => ?_)
          · skip
            have c63 := hr_bz.mp c63
            have c63 : ¬ (False) := c63
            refine hr_aload_n C dX4_poke_68 rfl 0 rfl ?_
            refine hr_get (k := 14) (i := 0) (fld := 15) C (by decide) rfl rfl (by decide) kU_X4 kF_X4_39 rfl rfl dX4_poke_69 ?_
            refine hr_sipush (v := 164) C dX4_poke_72 (by decide) ?_
            refine hr_iload_n C dX4_poke_75 rfl 1 rfl ?_
            refine hr_tp (y := nI (un k)) fK.1 ?_
            refine hr_imul (v := nI (164 * (un k))) C dX4_poke_76 (pk_mul 164 (un k)) ?_
            refine hr_iload_n C dX4_poke_77 rfl 2 rfl ?_
            refine hr_tp (y := nI (un j)) fJ.1 ?_
            refine hr_iadd (v := nI ((164 * (un k)) + (un j))) C dX4_poke_78 (nI_add (164 * (un k)) (un j)) ?_
            refine hr_iald (k := 24) (i := 0) ((164 * (un k)) + (un j)) C (by decide) rfl rfl (show (164 * (un k)) + (un j) < 32800 by omega) (by decide) dX4_poke_79 ?_
            refine hr_istore C [(4, .int ((md_0 S) 24 0 ((164 * (un k)) + (un j)))), (0, .ref (hr_ad E 14 0)), (1, .int k), (2, .int j), (3, .int v)] dX4_poke_80 (by decide) rfl ?_
            refine hr_aload_n C dX4_poke_82 rfl 1 rfl ?_
            refine hr_get (k := 14) (i := 0) (fld := 15) C (by decide) rfl rfl (by decide) kU_X4 kF_X4_39 rfl rfl dX4_poke_83 ?_
            refine hr_sipush (v := 164) C dX4_poke_86 (by decide) ?_
            refine hr_iload_n C dX4_poke_89 rfl 2 rfl ?_
            refine hr_tp (y := nI (un k)) fK.1 ?_
            refine hr_imul (v := nI (164 * (un k))) C dX4_poke_90 (pk_mul 164 (un k)) ?_
            refine hr_iload_n C dX4_poke_91 rfl 3 rfl ?_
            refine hr_tp (y := nI (un j)) fJ.1 ?_
            refine hr_iadd (v := nI ((164 * (un k)) + (un j))) C dX4_poke_92 (nI_add (164 * (un k)) (un j)) ?_
            refine hr_iload_n C dX4_poke_93 rfl 4 rfl ?_
            refine hr_iast (k := 24) (i := 0) ((164 * (un k)) + (un j)) C (by decide) rfl rfl (show (164 * (un k)) + (un j) < 32800 by omega) (by decide) (by simp [hr_cell, hr_wA]) rfl dX4_poke_94 ?_
            refine hr_iload C dX4_poke_95 0 rfl ?_
            exact hr_iret C hr dX4_poke_97 (Or.inr (Or.inr (Or.inr ⟨fK, fJ, c51, rfl, rfl⟩)))
          · skip
            have c63 := hr_bn.mp c63
            have c63 : False := c63
            exact c63.elim
        · skip
          have c51 := hr_bz.mp c51
          have c51 : ¬ (0 ≤ v ∧ v ≤ 255) := c51
          refine hr_iconst (v := 1) C dX4_poke_54 (by decide) ?_
          refine hr_goto C 59 dX4_poke_55 (by decide) ?_
          refine hr_iconst (v := 2) C dX4_poke_59 (by decide) ?_
          refine hr_cVi C (ct_X4_refuses1 l E (md_0 S) o 2 (md_0_0 S) (by decide)) (cwV 2 C.1.2.2.2.2 (hr_gV kM_X4_123 kI_X4_refuses kS_X4_refuses kN_X4 kC_X4_refuses) rfl rfl rfl (by decide +kernel) ⟨Nat.le_of_ble_eq_true rfl, Nat.le_of_ble_eq_true rfl⟩) (by decide) rfl rfl rfl (Nat.le_of_ble_eq_true rfl) dX4_poke_60 ⟨Nat.le_of_ble_eq_true rfl, Nat.le_of_ble_eq_true rfl⟩ (fun r16 S17 h18 => ?_) rfl
          refine hr_tp h18.1 ?_
          refine hr_st (S1 := (hr_w (md_0 S) 14 0 0 2)) h18.2 ?_
          refine hr_if_eq C 68 dX4_poke_63 (by decide) (fun c63 => ?_) (fun c63 => ?_)
          · skip
            have c63 := hr_bz.mp c63
            have c63 : ¬ (True) := c63
            exact (c63 trivial).elim
          · skip
            have c63 := hr_bn.mp c63
            have c63 : True := c63
            refine hr_iconst (v := 0) C dX4_poke_66 (by decide) ?_
            exact hr_iret C hr dX4_poke_67 (Or.inr (Or.inr (Or.inl ⟨fK, fJ, c51, rfl⟩)))
    · skip
      have c27 := hr_bz.mp c27
      have c27 : ¬ (0 ≤ j ∧ j ≤ (((md_0 S) 23 0 (un k)) - 1)) := c27
      refine hr_iconst (v := 1) C dX4_poke_30 (by decide) ?_
      refine hr_goto C 35 dX4_poke_31 (by decide) ?_
      refine hr_iconst (v := 1) C dX4_poke_35 (by decide) ?_
      refine hr_cVi C (ct_X4_refuses1 l E (md_0 S) o 1 (md_0_0 S) (by decide)) (cwV 2 C.1.2.2.2.2 (hr_gV kM_X4_123 kI_X4_refuses kS_X4_refuses kN_X4 kC_X4_refuses) rfl rfl rfl (by decide +kernel) ⟨Nat.le_of_ble_eq_true rfl, Nat.le_of_ble_eq_true rfl⟩) (by decide) rfl rfl rfl (Nat.le_of_ble_eq_true rfl) dX4_poke_36 ⟨Nat.le_of_ble_eq_true rfl, Nat.le_of_ble_eq_true rfl⟩ (fun r19 S20 h21 => ?_) rfl
      refine hr_tp h21.1 ?_
      refine hr_st (S1 := (hr_w (md_0 S) 14 0 0 1)) h21.2 ?_
      refine hr_if_ne C 66 dX4_poke_39 (by decide) (fun c39 => ?_) (fun c39 => ?_)
      · skip
        have c39 := hr_bn.mp c39
        have c39 : True := c39
        refine hr_iconst (v := 0) C dX4_poke_66 (by decide) ?_
        exact hr_iret C hr dX4_poke_67 (Or.inr (Or.inl ⟨fK, fun h => c27 ((nb_inm (hM.2.1 (un k) (by omega)).2.2 (by decide)).mpr h), rfl⟩))
      · skip
        have c39 := hr_bz.mp c39
        have c39 : ¬ (True) := c39
        exact (c39 trivial).elim
set_option maxHeartbeats 4000000 in
set_option maxRecDepth 100000 in
theorem ct_X4_cut (l : Launch) (E : hr_E) (S : hr_S) (o : Int64) (k v : Int32) (hI : hr_MI S) : hr_Mv l E yX4_cut (Cond.code yX4_cut cX4_cut 3 none :: hr_W) ({ frames := 2, cells := 0, slots := 0, locals := 43 } : Room) [.ref (hr_ad E 14 0), .int k, .int v] S o (fun u => (¬ nb k (md_n (md_0 S)) ∧ u = md_r S 1) ∨ (nb k (md_n (md_0 S)) ∧ ¬ (0 ≤ v ∧ v ≤ md_0 S 23 0 (un k)) ∧ u = md_r S 2) ∨ (nb k (md_n (md_0 S)) ∧ (0 ≤ v ∧ v ≤ md_0 S 23 0 (un k)) ∧ u = hr_w (md_0 S) 23 0 (un k) v)) := by
  refine hr_of (by decide) (Nat.le_of_ble_eq_true rfl) (fun p e s m below meth c C hr => ?_)
  refine hr_aload_n C dX4_cut_0 rfl 0 rfl ?_
  refine hr_iconst (v := 0) C dX4_cut_1 (by decide) ?_
  refine hr_put (k := 14) (i := 0) (fld := 0) C (by decide) rfl rfl (by decide) kU_X4 kF_X4_48 rfl tyX4 tyX4_ok nmX4 rfl (by decide +kernel) (Nat.le_of_ble_eq_true rfl) (by simp [hr_cell, hr_w, hr_wA, upd]) rfl dX4_cut_2 ?_
  refine hr_st (S1 := md_0 S) rfl ?_
  refine hr_aload_n C dX4_cut_5 rfl 0 rfl ?_
  refine hr_iload_n C dX4_cut_6 rfl 1 rfl ?_
  refine hr_cVi C (ct_X4_lacks l E (md_0 S) o k (MI_0 hI) (md_0_0 S)) (cwV 1 C.1.2.2.2.2 (hr_gV kM_X4_133 kI_X4_lacks kS_X4_lacks kN_X4 kC_X4_lacks) rfl rfl rfl (by decide +kernel) ⟨Nat.le_of_ble_eq_true rfl, Nat.le_of_ble_eq_true rfl⟩) (by decide) rfl rfl rfl (Nat.le_of_ble_eq_true rfl) dX4_cut_7 ⟨Nat.le_of_ble_eq_true rfl, Nat.le_of_ble_eq_true rfl⟩ (fun r1 S2 h3 => ?_) rfl
  refine hr_tp h3.1 ?_
  refine hr_st (S1 := (if ¬ (k = nI (un k) ∧ un k < un ((md_0 S) 14 0 11)) then hr_w (md_0 S) 14 0 0 1 else (md_0 S))) h3.2 ?_
  refine hr_if_ne C 47 dX4_cut_10 (by decide) (fun c10 => ?_) (fun c10 => ?_)
  · skip
    have c10 := hr_bn.mp c10
    have c10 : ¬ (k = nI (un k) ∧ un k < un ((md_0 S) 14 0 11)) := c10
    refine hr_st (S1 := md_r S 1) (if_pos c10) ?_
    exact hr_vret C hr dX4_cut_47 (Or.inl ⟨c10, rfl⟩)
  · skip
    have c10 := hr_bz.mp c10
    have c10 : ¬ (¬ (k = nI (un k) ∧ un k < un ((md_0 S) 14 0 11))) := c10
    refine hr_st (S1 := md_0 S) (if_neg c10) ?_
    have fK : nb k (md_n (md_0 S)) := Classical.not_not.mp c10
    have hK := fK.2
    have hM := MI_0 hI
    have hn2 : md_n (md_0 S) < 201 := hM.1.2
    refine hr_aload_n C dX4_cut_13 rfl 0 rfl ?_
    refine hr_iload_n C dX4_cut_14 rfl 2 rfl ?_
    refine hr_iconst (v := 0) C dX4_cut_15 (by decide) ?_
    refine hr_aload_n C dX4_cut_16 rfl 0 rfl ?_
    refine hr_get (k := 14) (i := 0) (fld := 14) C (by decide) rfl rfl (by decide) kU_X4 kF_X4_35 rfl rfl dX4_cut_17 ?_
    refine hr_iload_n C dX4_cut_20 rfl 1 rfl ?_
    refine hr_tp (y := nI (un k)) fK.1 ?_
    refine hr_iald (k := 23) (i := 0) (un k) C (by decide) rfl rfl (show un k < 200 by omega) (by decide) dX4_cut_21 ?_
    refine hr_cSi C (ct_X4_in l E (md_0 S) o v 0 ((md_0 S) 23 0 (un k))) (cwS 3 C.1.2.2.2.2 (hr_gS kM_X4_52 kT_X4_in kN_X4 kC_X4_in) rfl rfl rfl (by decide +kernel) ⟨Nat.le_of_ble_eq_true rfl, Nat.le_of_ble_eq_true rfl⟩) rfl (Nat.le_of_ble_eq_true rfl) dX4_cut_22 ⟨Nat.le_of_ble_eq_true rfl, Nat.le_of_ble_eq_true rfl⟩ (fun r4 S5 h6 => ?_) rfl
    refine hr_tp h6.1 ?_
    refine hr_st (S1 := (md_0 S)) h6.2 ?_
    refine hr_if_ne C 32 dX4_cut_25 (by decide) (fun c25 => ?_) (fun c25 => ?_)
    · skip
      have c25 := hr_bn.mp c25
      have c25 : 0 ≤ v ∧ v ≤ ((md_0 S) 23 0 (un k)) := c25
      refine hr_iconst (v := 0) C dX4_cut_32 (by decide) ?_
      refine hr_iconst (v := 2) C dX4_cut_33 (by decide) ?_
      refine hr_cVi C (ct_X4_refuses0 l E (md_0 S) o 2 (md_0_0 S) (by decide)) (cwV 2 C.1.2.2.2.2 (hr_gV kM_X4_123 kI_X4_refuses kS_X4_refuses kN_X4 kC_X4_refuses) rfl rfl rfl (by decide +kernel) ⟨Nat.le_of_ble_eq_true rfl, Nat.le_of_ble_eq_true rfl⟩) (by decide) rfl rfl rfl (Nat.le_of_ble_eq_true rfl) dX4_cut_34 ⟨Nat.le_of_ble_eq_true rfl, Nat.le_of_ble_eq_true rfl⟩ (fun r7 S8 h9 => ?_) rfl
      refine hr_tp h9.1 ?_
      refine hr_st (S1 := (md_0 S)) h9.2 ?_
      refine hr_if_ne C 47 dX4_cut_37 (by decide) (fun c37 => ?_) (fun c37 => ?_)
      · skip
        have c37 := hr_bn.mp c37
        have c37 : False := c37
        exact c37.elim
      · skip
        have c37 := hr_bz.mp c37
        have c37 : ¬ (False) := c37
        refine hr_aload_n C dX4_cut_40 rfl 0 rfl ?_
        refine hr_get (k := 14) (i := 0) (fld := 14) C (by decide) rfl rfl (by decide) kU_X4 kF_X4_35 rfl rfl dX4_cut_41 ?_
        refine hr_iload_n C dX4_cut_44 rfl 1 rfl ?_
        refine hr_tp (y := nI (un k)) fK.1 ?_
        refine hr_iload_n C dX4_cut_45 rfl 2 rfl ?_
        refine hr_iast (k := 23) (i := 0) (un k) C (by decide) rfl rfl (show un k < 200 by omega) (by decide) (by simp [hr_cell, hr_wA]) rfl dX4_cut_46 ?_
        exact hr_vret C hr dX4_cut_47 (Or.inr (Or.inr ⟨fK, c25, rfl⟩))
    · skip
      have c25 := hr_bz.mp c25
      have c25 : ¬ (0 ≤ v ∧ v ≤ ((md_0 S) 23 0 (un k))) := c25
      refine hr_iconst (v := 1) C dX4_cut_28 (by decide) ?_
      refine hr_goto C 33 dX4_cut_29 (by decide) ?_
      refine hr_iconst (v := 2) C dX4_cut_33 (by decide) ?_
      refine hr_cVi C (ct_X4_refuses1 l E (md_0 S) o 2 (md_0_0 S) (by decide)) (cwV 2 C.1.2.2.2.2 (hr_gV kM_X4_123 kI_X4_refuses kS_X4_refuses kN_X4 kC_X4_refuses) rfl rfl rfl (by decide +kernel) ⟨Nat.le_of_ble_eq_true rfl, Nat.le_of_ble_eq_true rfl⟩) (by decide) rfl rfl rfl (Nat.le_of_ble_eq_true rfl) dX4_cut_34 ⟨Nat.le_of_ble_eq_true rfl, Nat.le_of_ble_eq_true rfl⟩ (fun r10 S11 h12 => ?_) rfl
      refine hr_tp h12.1 ?_
      refine hr_st (S1 := (hr_w (md_0 S) 14 0 0 2)) h12.2 ?_
      refine hr_if_ne C 47 dX4_cut_37 (by decide) (fun c37 => ?_) (fun c37 => ?_)
      · skip
        have c37 := hr_bn.mp c37
        have c37 : True := c37
        exact hr_vret C hr dX4_cut_47 (Or.inr (Or.inl ⟨fK, c25, rfl⟩))
      · skip
        have c37 := hr_bz.mp c37
        have c37 : ¬ (True) := c37
        exact (c37 trivial).elim
set_option maxHeartbeats 4000000 in
set_option maxRecDepth 100000 in
theorem ct_X4_packet (l : Launch) (E : hr_E) (S : hr_S) (o : Int64) (k j : Int32) (hI : hr_MI S) : hr_Mi l E yX4_packet (Cond.code yX4_packet cX4_packet 3 (some .int) :: hr_W) ({ frames := 2, cells := 0, slots := 0, locals := 43 } : Room) [.ref (hr_ad E 14 0), .int k, .int j] S o (fun r u => (¬ nb k (md_n (md_0 S)) ∧ u = md_r S 1) ∨ (nb k (md_n (md_0 S)) ∧ ¬ (j = -3 ∨ j = -2 ∨ j = -1 ∨ nb j (un (md_0 S 23 0 (un k)))) ∧ u = md_r S 1) ∨ (nb k (md_n (md_0 S)) ∧ (j = -3 ∨ j = -2 ∨ j = -1 ∨ nb j (un (md_0 S 23 0 (un k)))) ∧ r = md_pkt (md_0 S) (un k) j ∧ u = md_0 S)) := by
  refine hr_of (by decide) (Nat.le_of_ble_eq_true rfl) (fun p e s m below meth c C hr => ?_)
  refine hr_aload_n C dX4_packet_0 rfl 0 rfl ?_
  refine hr_iconst (v := 0) C dX4_packet_1 (by decide) ?_
  refine hr_put (k := 14) (i := 0) (fld := 0) C (by decide) rfl rfl (by decide) kU_X4 kF_X4_48 rfl tyX4 tyX4_ok nmX4 rfl (by decide +kernel) (Nat.le_of_ble_eq_true rfl) (by simp [hr_cell, hr_w, hr_wA, upd]) rfl dX4_packet_2 ?_
  refine hr_st (S1 := md_0 S) rfl ?_
  refine hr_aload_n C dX4_packet_5 rfl 0 rfl ?_
  refine hr_iload_n C dX4_packet_6 rfl 1 rfl ?_
  refine hr_cVi C (ct_X4_lacks l E (md_0 S) o k (MI_0 hI) (md_0_0 S)) (cwV 1 C.1.2.2.2.2 (hr_gV kM_X4_133 kI_X4_lacks kS_X4_lacks kN_X4 kC_X4_lacks) rfl rfl rfl (by decide +kernel) ⟨Nat.le_of_ble_eq_true rfl, Nat.le_of_ble_eq_true rfl⟩) (by decide) rfl rfl rfl (Nat.le_of_ble_eq_true rfl) dX4_packet_7 ⟨Nat.le_of_ble_eq_true rfl, Nat.le_of_ble_eq_true rfl⟩ (fun r1 S2 h3 => ?_) rfl
  refine hr_tp h3.1 ?_
  refine hr_st (S1 := (if ¬ (k = nI (un k) ∧ un k < un ((md_0 S) 14 0 11)) then hr_w (md_0 S) 14 0 0 1 else (md_0 S))) h3.2 ?_
  refine hr_if_ne C 43 dX4_packet_10 (by decide) (fun c10 => ?_) (fun c10 => ?_)
  · skip
    have c10 := hr_bn.mp c10
    have c10 : ¬ (k = nI (un k) ∧ un k < un ((md_0 S) 14 0 11)) := c10
    refine hr_st (S1 := md_r S 1) (if_pos c10) ?_
    refine hr_iconst (v := 0) C dX4_packet_43 (by decide) ?_
    exact hr_iret C hr dX4_packet_44 (Or.inl ⟨c10, rfl⟩)
  · skip
    have c10 := hr_bz.mp c10
    have c10 : ¬ (¬ (k = nI (un k) ∧ un k < un ((md_0 S) 14 0 11))) := c10
    refine hr_st (S1 := md_0 S) (if_neg c10) ?_
    have fK : nb k (md_n (md_0 S)) := Classical.not_not.mp c10
    have hK := fK.2
    have hM := MI_0 hI
    have hn2 : md_n (md_0 S) < 201 := hM.1.2
    refine hr_aload_n C dX4_packet_13 rfl 0 rfl ?_
    refine hr_iload_n C dX4_packet_14 rfl 2 rfl ?_
    refine hr_bipush (v := (-3)) C dX4_packet_15 (by decide) ?_
    refine hr_aload_n C dX4_packet_17 rfl 0 rfl ?_
    refine hr_get (k := 14) (i := 0) (fld := 14) C (by decide) rfl rfl (by decide) kU_X4 kF_X4_35 rfl rfl dX4_packet_18 ?_
    refine hr_iload_n C dX4_packet_21 rfl 1 rfl ?_
    refine hr_tp (y := nI (un k)) fK.1 ?_
    refine hr_iald (k := 23) (i := 0) (un k) C (by decide) rfl rfl (show un k < 200 by omega) (by decide) dX4_packet_22 ?_
    refine hr_iconst (v := 1) C dX4_packet_23 (by decide) ?_
    refine hr_isub C dX4_packet_24 rfl ?_
    refine hr_cSi C (ct_X4_in l E (md_0 S) o j (-3) (((md_0 S) 23 0 (un k)) - 1)) (cwS 3 C.1.2.2.2.2 (hr_gS kM_X4_52 kT_X4_in kN_X4 kC_X4_in) rfl rfl rfl (by decide +kernel) ⟨Nat.le_of_ble_eq_true rfl, Nat.le_of_ble_eq_true rfl⟩) rfl (Nat.le_of_ble_eq_true rfl) dX4_packet_25 ⟨Nat.le_of_ble_eq_true rfl, Nat.le_of_ble_eq_true rfl⟩ (fun r4 S5 h6 => ?_) rfl
    refine hr_tp h6.1 ?_
    refine hr_st (S1 := (md_0 S)) h6.2 ?_
    refine hr_if_ne C 35 dX4_packet_28 (by decide) (fun c28 => ?_) (fun c28 => ?_)
    · skip
      have c28 := hr_bn.mp c28
      have c28 : (-3) ≤ j ∧ j ≤ (((md_0 S) 23 0 (un k)) - 1) := c28
      refine hr_iconst (v := 0) C dX4_packet_35 (by decide) ?_
      refine hr_iconst (v := 1) C dX4_packet_36 (by decide) ?_
      refine hr_cVi C (ct_X4_refuses0 l E (md_0 S) o 1 (md_0_0 S) (by decide)) (cwV 2 C.1.2.2.2.2 (hr_gV kM_X4_123 kI_X4_refuses kS_X4_refuses kN_X4 kC_X4_refuses) rfl rfl rfl (by decide +kernel) ⟨Nat.le_of_ble_eq_true rfl, Nat.le_of_ble_eq_true rfl⟩) (by decide) rfl rfl rfl (Nat.le_of_ble_eq_true rfl) dX4_packet_37 ⟨Nat.le_of_ble_eq_true rfl, Nat.le_of_ble_eq_true rfl⟩ (fun r7 S8 h9 => ?_) rfl
      refine hr_tp h9.1 ?_
      refine hr_st (S1 := (md_0 S)) h9.2 ?_
      refine hr_if_eq C 45 dX4_packet_40 (by decide) (fun c40 => ?_) (fun c40 => ?_)
      · skip
        have c40 := hr_bz.mp c40
        have c40 : ¬ (False) := c40
        have f3 := (nb_m3 (hM.2.1 (un k) (by omega)).2.2 (by decide)).mp c28
        have hS2 := (hM.2.1 (un k) (by omega)).2.2.2
        refine hr_iload_n C dX4_packet_45 rfl 2 rfl ?_
        refine hr_bipush (v := (-3)) C dX4_packet_46 (by decide) ?_
        refine hr_icmp_ne C 60 dX4_packet_48 (by decide) (fun c48 => ?_) (fun c48 => ?_)
        · skip
          refine hr_iload_n C dX4_packet_60 rfl 2 rfl ?_
          refine hr_bipush (v := (-2)) C dX4_packet_61 (by decide) ?_
          refine hr_icmp_ne C 75 dX4_packet_63 (by decide) (fun c63 => ?_) (fun c63 => ?_)
          · skip
            refine hr_iload_n C dX4_packet_75 rfl 2 rfl ?_
            refine hr_iconst (v := (-1)) C dX4_packet_76 (by decide) ?_
            refine hr_icmp_ne C 89 dX4_packet_77 (by decide) (fun c77 => ?_) (fun c77 => ?_)
            · skip
              have fJ : nb j (un (md_0 S 23 0 (un k))) := f3.elim (fun z => absurd z c48) (fun z => z.elim (fun z => absurd z c63) (fun z => z.elim (fun z => absurd z c77) id))
              have hJ := fJ.2
              refine hr_aload_n C dX4_packet_89 rfl 0 rfl ?_
              refine hr_get (k := 14) (i := 0) (fld := 15) C (by decide) rfl rfl (by decide) kU_X4 kF_X4_39 rfl rfl dX4_packet_90 ?_
              refine hr_sipush (v := 164) C dX4_packet_93 (by decide) ?_
              refine hr_iload_n C dX4_packet_96 rfl 1 rfl ?_
              refine hr_tp (y := nI (un k)) fK.1 ?_
              refine hr_imul (v := nI (164 * (un k))) C dX4_packet_97 (pk_mul 164 (un k)) ?_
              refine hr_iload_n C dX4_packet_98 rfl 2 rfl ?_
              refine hr_tp (y := nI (un j)) fJ.1 ?_
              refine hr_iadd (v := nI ((164 * (un k)) + (un j))) C dX4_packet_99 (nI_add (164 * (un k)) (un j)) ?_
              refine hr_iald (k := 24) (i := 0) ((164 * (un k)) + (un j)) C (by decide) rfl rfl (show (164 * (un k)) + (un j) < 32800 by omega) (by decide) dX4_packet_100 ?_
              exact hr_iret C hr dX4_packet_101 (Or.inr (Or.inr ⟨fK, f3, by unfold md_pkt; rw [if_neg c48, if_neg c63, if_neg c77], rfl⟩))
            · skip
              refine hr_aload_n C dX4_packet_80 rfl 0 rfl ?_
              refine hr_get (k := 14) (i := 0) (fld := 14) C (by decide) rfl rfl (by decide) kU_X4 kF_X4_35 rfl rfl dX4_packet_81 ?_
              refine hr_iload_n C dX4_packet_84 rfl 1 rfl ?_
              refine hr_tp (y := nI (un k)) fK.1 ?_
              refine hr_iald (k := 23) (i := 0) (un k) C (by decide) rfl rfl (show un k < 200 by omega) (by decide) dX4_packet_85 ?_
              refine hr_goto C 101 dX4_packet_86 (by decide) ?_
              exact hr_iret C hr dX4_packet_101 (Or.inr (Or.inr ⟨fK, f3, by unfold md_pkt; rw [if_neg c48, if_neg c63, if_pos c77], rfl⟩))
          · skip
            refine hr_aload_n C dX4_packet_66 rfl 0 rfl ?_
            refine hr_get (k := 14) (i := 0) (fld := 13) C (by decide) rfl rfl (by decide) kU_X4 kF_X4_32 rfl rfl dX4_packet_67 ?_
            refine hr_iload_n C dX4_packet_70 rfl 1 rfl ?_
            refine hr_tp (y := nI (un k)) fK.1 ?_
            refine hr_iald (k := 22) (i := 0) (un k) C (by decide) rfl rfl (show un k < 200 by omega) (by decide) dX4_packet_71 ?_
            refine hr_goto C 101 dX4_packet_72 (by decide) ?_
            exact hr_iret C hr dX4_packet_101 (Or.inr (Or.inr ⟨fK, f3, by unfold md_pkt; rw [if_neg c48, if_pos c63], rfl⟩))
        · skip
          refine hr_aload_n C dX4_packet_51 rfl 0 rfl ?_
          refine hr_get (k := 14) (i := 0) (fld := 12) C (by decide) rfl rfl (by decide) kU_X4 kF_X4_29 rfl rfl dX4_packet_52 ?_
          refine hr_iload_n C dX4_packet_55 rfl 1 rfl ?_
          refine hr_tp (y := nI (un k)) fK.1 ?_
          refine hr_iald (k := 21) (i := 0) (un k) C (by decide) rfl rfl (show un k < 200 by omega) (by decide) dX4_packet_56 ?_
          refine hr_goto C 101 dX4_packet_57 (by decide) ?_
          exact hr_iret C hr dX4_packet_101 (Or.inr (Or.inr ⟨fK, f3, by unfold md_pkt; rw [if_pos c48], rfl⟩))
      · skip
        have c40 := hr_bn.mp c40
        have c40 : False := c40
        exact c40.elim
    · skip
      have c28 := hr_bz.mp c28
      have c28 : ¬ ((-3) ≤ j ∧ j ≤ (((md_0 S) 23 0 (un k)) - 1)) := c28
      refine hr_iconst (v := 1) C dX4_packet_31 (by decide) ?_
      refine hr_goto C 36 dX4_packet_32 (by decide) ?_
      refine hr_iconst (v := 1) C dX4_packet_36 (by decide) ?_
      refine hr_cVi C (ct_X4_refuses1 l E (md_0 S) o 1 (md_0_0 S) (by decide)) (cwV 2 C.1.2.2.2.2 (hr_gV kM_X4_123 kI_X4_refuses kS_X4_refuses kN_X4 kC_X4_refuses) rfl rfl rfl (by decide +kernel) ⟨Nat.le_of_ble_eq_true rfl, Nat.le_of_ble_eq_true rfl⟩) (by decide) rfl rfl rfl (Nat.le_of_ble_eq_true rfl) dX4_packet_37 ⟨Nat.le_of_ble_eq_true rfl, Nat.le_of_ble_eq_true rfl⟩ (fun r10 S11 h12 => ?_) rfl
      refine hr_tp h12.1 ?_
      refine hr_st (S1 := (hr_w (md_0 S) 14 0 0 1)) h12.2 ?_
      refine hr_if_eq C 45 dX4_packet_40 (by decide) (fun c40 => ?_) (fun c40 => ?_)
      · skip
        have c40 := hr_bz.mp c40
        have c40 : ¬ (True) := c40
        exact (c40 trivial).elim
      · skip
        have c40 := hr_bn.mp c40
        have c40 : True := c40
        refine hr_iconst (v := 0) C dX4_packet_43 (by decide) ?_
        exact hr_iret C hr dX4_packet_44 (Or.inr (Or.inl ⟨fK, fun h => c28 ((nb_m3 (hM.2.1 (un k) (by omega)).2.2 (by decide)).mpr h), rfl⟩))
set_option maxHeartbeats 4000000 in
set_option maxRecDepth 100000 in
theorem ct_X4_route (l : Launch) (E : hr_E) (S : hr_S) (o : Int64) (a b w9 : Int32) : hr_Mi l E yX4_route (Cond.code yX4_route cX4_route 5 (some .int) :: hr_W) ({ frames := 2, cells := 0, slots := 0, locals := 42 } : Room) [.ref (hr_ad E 14 0), .int a, .int b, .int w9] S o (fun r u => (¬ (nb a 8 ∧ nb b 8 ∧ nb w9 5) ∧ u = md_r S 1) ∨ ((nb a 8 ∧ nb b 8 ∧ nb w9 5) ∧ r = md_route (md_0 S) (un a) (un b) (un w9) ∧ u = md_0 S)) := by
  refine hr_of (by decide) (Nat.le_of_ble_eq_true rfl) (fun p e s m below meth c C hr => ?_)
  refine hr_aload_n C dX4_route_0 rfl 0 rfl ?_
  refine hr_iconst (v := 0) C dX4_route_1 (by decide) ?_
  refine hr_put (k := 14) (i := 0) (fld := 0) C (by decide) rfl rfl (by decide) kU_X4 kF_X4_48 rfl tyX4 tyX4_ok nmX4 rfl (by decide +kernel) (Nat.le_of_ble_eq_true rfl) (by simp [hr_cell, hr_w, hr_wA, upd]) rfl dX4_route_2 ?_
  refine hr_st (S1 := md_0 S) rfl ?_
  refine hr_aload_n C dX4_route_5 rfl 0 rfl ?_
  refine hr_iload_n C dX4_route_6 rfl 1 rfl ?_
  refine hr_cSi C (ct_X4_isRouter l E (md_0 S) o a) (cwS 1 C.1.2.2.2.2 (hr_gS kM_X4_120 kT_X4_isRouter kN_X4 kC_X4_isRouter) rfl rfl rfl (by decide +kernel) ⟨Nat.le_of_ble_eq_true rfl, Nat.le_of_ble_eq_true rfl⟩) rfl (Nat.le_of_ble_eq_true rfl) dX4_route_7 ⟨Nat.le_of_ble_eq_true rfl, Nat.le_of_ble_eq_true rfl⟩ (fun r1 S2 h3 => ?_) rfl
  refine hr_tp h3.1 ?_
  refine hr_st (S1 := (md_0 S)) h3.2 ?_
  refine hr_if_eq C 29 dX4_route_10 (by decide) (fun c10 => ?_) (fun c10 => ?_)
  · skip
    have c10 := hr_bz.mp c10
    have c10 : ¬ (0 ≤ a ∧ a ≤ 7) := c10
    refine hr_iconst (v := 1) C dX4_route_29 (by decide) ?_
    refine hr_goto C 34 dX4_route_30 (by decide) ?_
    refine hr_iconst (v := 1) C dX4_route_34 (by decide) ?_
    refine hr_cVi C (ct_X4_refuses1 l E (md_0 S) o 1 (md_0_0 S) (by decide)) (cwV 2 C.1.2.2.2.2 (hr_gV kM_X4_123 kI_X4_refuses kS_X4_refuses kN_X4 kC_X4_refuses) rfl rfl rfl (by decide +kernel) ⟨Nat.le_of_ble_eq_true rfl, Nat.le_of_ble_eq_true rfl⟩) (by decide) rfl rfl rfl (Nat.le_of_ble_eq_true rfl) dX4_route_35 ⟨Nat.le_of_ble_eq_true rfl, Nat.le_of_ble_eq_true rfl⟩ (fun r4 S5 h6 => ?_) rfl
    refine hr_tp h6.1 ?_
    refine hr_st (S1 := (hr_w (md_0 S) 14 0 0 1)) h6.2 ?_
    refine hr_if_eq C 43 dX4_route_38 (by decide) (fun c38 => ?_) (fun c38 => ?_)
    · skip
      have c38 := hr_bz.mp c38
      have c38 : ¬ (True) := c38
      exact (c38 trivial).elim
    · skip
      have c38 := hr_bn.mp c38
      have c38 : True := c38
      refine hr_iconst (v := 0) C dX4_route_41 (by decide) ?_
      exact hr_iret C hr dX4_route_42 (Or.inl ⟨fun h => c10 (nb_07i h.1), rfl⟩)
  · skip
    have c10 := hr_bn.mp c10
    have c10 : 0 ≤ a ∧ a ≤ 7 := c10
    refine hr_iload_n C dX4_route_13 rfl 2 rfl ?_
    refine hr_cSi C (ct_X4_isRouter l E (md_0 S) o b) (cwS 1 C.1.2.2.2.2 (hr_gS kM_X4_120 kT_X4_isRouter kN_X4 kC_X4_isRouter) rfl rfl rfl (by decide +kernel) ⟨Nat.le_of_ble_eq_true rfl, Nat.le_of_ble_eq_true rfl⟩) rfl (Nat.le_of_ble_eq_true rfl) dX4_route_14 ⟨Nat.le_of_ble_eq_true rfl, Nat.le_of_ble_eq_true rfl⟩ (fun r7 S8 h9 => ?_) rfl
    refine hr_tp h9.1 ?_
    refine hr_st (S1 := (md_0 S)) h9.2 ?_
    refine hr_if_eq C 29 dX4_route_17 (by decide) (fun c17 => ?_) (fun c17 => ?_)
    · skip
      have c17 := hr_bz.mp c17
      have c17 : ¬ (0 ≤ b ∧ b ≤ 7) := c17
      refine hr_iconst (v := 1) C dX4_route_29 (by decide) ?_
      refine hr_goto C 34 dX4_route_30 (by decide) ?_
      refine hr_iconst (v := 1) C dX4_route_34 (by decide) ?_
      refine hr_cVi C (ct_X4_refuses1 l E (md_0 S) o 1 (md_0_0 S) (by decide)) (cwV 2 C.1.2.2.2.2 (hr_gV kM_X4_123 kI_X4_refuses kS_X4_refuses kN_X4 kC_X4_refuses) rfl rfl rfl (by decide +kernel) ⟨Nat.le_of_ble_eq_true rfl, Nat.le_of_ble_eq_true rfl⟩) (by decide) rfl rfl rfl (Nat.le_of_ble_eq_true rfl) dX4_route_35 ⟨Nat.le_of_ble_eq_true rfl, Nat.le_of_ble_eq_true rfl⟩ (fun r10 S11 h12 => ?_) rfl
      refine hr_tp h12.1 ?_
      refine hr_st (S1 := (hr_w (md_0 S) 14 0 0 1)) h12.2 ?_
      refine hr_if_eq C 43 dX4_route_38 (by decide) (fun c38 => ?_) (fun c38 => ?_)
      · skip
        have c38 := hr_bz.mp c38
        have c38 : ¬ (True) := c38
        exact (c38 trivial).elim
      · skip
        have c38 := hr_bn.mp c38
        have c38 : True := c38
        refine hr_iconst (v := 0) C dX4_route_41 (by decide) ?_
        exact hr_iret C hr dX4_route_42 (Or.inl ⟨fun h => c17 (nb_07i h.2.1), rfl⟩)
    · skip
      have c17 := hr_bn.mp c17
      have c17 : 0 ≤ b ∧ b ≤ 7 := c17
      refine hr_iload_n C dX4_route_20 rfl 3 rfl ?_
      refine hr_iconst (v := 0) C dX4_route_21 (by decide) ?_
      refine hr_iconst (v := 4) C dX4_route_22 (by decide) ?_
      refine hr_cSi C (ct_X4_in l E (md_0 S) o w9 0 4) (cwS 3 C.1.2.2.2.2 (hr_gS kM_X4_52 kT_X4_in kN_X4 kC_X4_in) rfl rfl rfl (by decide +kernel) ⟨Nat.le_of_ble_eq_true rfl, Nat.le_of_ble_eq_true rfl⟩) rfl (Nat.le_of_ble_eq_true rfl) dX4_route_23 ⟨Nat.le_of_ble_eq_true rfl, Nat.le_of_ble_eq_true rfl⟩ (fun r13 S14 h15 => ?_) rfl
      refine hr_tp h15.1 ?_
      refine hr_st (S1 := (md_0 S)) h15.2 ?_
      refine hr_if_ne C 33 dX4_route_26 (by decide) (fun c26 => ?_) (fun c26 => ?_)
      · skip
        have c26 := hr_bn.mp c26
        have c26 : 0 ≤ w9 ∧ w9 ≤ 4 := c26
        refine hr_iconst (v := 0) C dX4_route_33 (by decide) ?_
        refine hr_iconst (v := 1) C dX4_route_34 (by decide) ?_
        refine hr_cVi C (ct_X4_refuses0 l E (md_0 S) o 1 (md_0_0 S) (by decide)) (cwV 2 C.1.2.2.2.2 (hr_gV kM_X4_123 kI_X4_refuses kS_X4_refuses kN_X4 kC_X4_refuses) rfl rfl rfl (by decide +kernel) ⟨Nat.le_of_ble_eq_true rfl, Nat.le_of_ble_eq_true rfl⟩) (by decide) rfl rfl rfl (Nat.le_of_ble_eq_true rfl) dX4_route_35 ⟨Nat.le_of_ble_eq_true rfl, Nat.le_of_ble_eq_true rfl⟩ (fun r16 S17 h18 => ?_) rfl
        refine hr_tp h18.1 ?_
        refine hr_st (S1 := (md_0 S)) h18.2 ?_
        refine hr_if_eq C 43 dX4_route_38 (by decide) (fun c38 => ?_) (fun c38 => ?_)
        · skip
          have c38 := hr_bz.mp c38
          have c38 : ¬ (False) := c38
          have fA := nb_07 c10
          have fB := nb_07 c17
          have fW : nb w9 5 := (nb_in (N := 4) rfl (by decide)).mp c26
          have hA := fA.2
          have hB := fB.2
          have hW := fW.2
          refine hr_bipush (v := 8) C dX4_route_43 (by decide) ?_
          refine hr_iload_n C dX4_route_45 rfl 1 rfl ?_
          refine hr_tp (y := nI (un a)) fA.1 ?_
          refine hr_imul (v := nI (8 * (un a))) C dX4_route_46 (pk_mul 8 (un a)) ?_
          refine hr_iload_n C dX4_route_47 rfl 2 rfl ?_
          refine hr_tp (y := nI (un b)) fB.1 ?_
          refine hr_iadd (v := nI ((8 * (un a)) + (un b))) C dX4_route_48 (nI_add (8 * (un a)) (un b)) ?_
          refine hr_istore C [(4, .int (nI ((8 * (un a)) + (un b)))), (0, .ref (hr_ad E 14 0)), (1, .int a), (2, .int b), (3, .int w9)] dX4_route_49 (by decide) rfl ?_
          refine hr_iload_n C dX4_route_51 rfl 2 rfl ?_
          refine hr_tp (y := nI (un a)) fA.1 ?_
          refine hr_iload_n C dX4_route_52 rfl 3 rfl ?_
          refine hr_tp (y := nI (un b)) fB.1 ?_
          refine hr_icmp_ne C 66 dX4_route_53 (by decide) (fun c53 => ?_) (fun c53 => ?_)
          · skip
            have c53 : ¬ (un a) = (un b) := fun h => c53 ((nI_eq (a := (un a)) (b := (un b)) (by omega) (by omega)).mpr h)
            refine hr_aload_n C dX4_route_66 rfl 1 rfl ?_
            refine hr_get (k := 14) (i := 0) (fld := 6) C (by decide) rfl rfl (by decide) kU_X4 kF_X4_13 rfl rfl dX4_route_67 ?_
            refine hr_iload C dX4_route_70 0 rfl ?_
            refine hr_iald (k := 16) (i := 0) ((8 * (un a)) + (un b)) C (by decide) rfl rfl (show (8 * (un a)) + (un b) < 64 by omega) (by decide) dX4_route_72 ?_
            refine hr_if_ne C 78 dX4_route_73 (by decide) (fun c73 => ?_) (fun c73 => ?_)
            · skip
              refine hr_iload_n C dX4_route_78 rfl 4 rfl ?_
              refine hr_tp (y := nI (un w9)) fW.1 ?_
              refine hr_if_ne C 92 dX4_route_79 (by decide) (fun c79 => ?_) (fun c79 => ?_)
              · skip
                have c79 : ¬ (un w9) = 0 := fun h => c79 ((nI_eq (a := (un w9)) (b := 0) (by omega) (by omega)).mpr h)
                refine hr_iload_n C dX4_route_92 rfl 4 rfl ?_
                refine hr_tp (y := nI (un w9)) fW.1 ?_
                refine hr_iconst (v := 1) C dX4_route_93 (by decide) ?_
                refine hr_icmp_ne C 107 dX4_route_94 (by decide) (fun c94 => ?_) (fun c94 => ?_)
                · skip
                  have c94 : ¬ (un w9) = 1 := fun h => c94 ((nI_eq (a := (un w9)) (b := 1) (by omega) (by omega)).mpr h)
                  refine hr_iload_n C dX4_route_107 rfl 4 rfl ?_
                  refine hr_tp (y := nI (un w9)) fW.1 ?_
                  refine hr_iconst (v := 2) C dX4_route_108 (by decide) ?_
                  refine hr_icmp_ne C 122 dX4_route_109 (by decide) (fun c109 => ?_) (fun c109 => ?_)
                  · skip
                    have c109 : ¬ (un w9) = 2 := fun h => c109 ((nI_eq (a := (un w9)) (b := 2) (by omega) (by omega)).mpr h)
                    refine hr_iload_n C dX4_route_122 rfl 4 rfl ?_
                    refine hr_tp (y := nI (un w9)) fW.1 ?_
                    refine hr_iconst (v := 3) C dX4_route_123 (by decide) ?_
                    refine hr_icmp_ne C 145 dX4_route_124 (by decide) (fun c124 => ?_) (fun c124 => ?_)
                    · skip
                      have c124 : ¬ (un w9) = 3 := fun h => c124 ((nI_eq (a := (un w9)) (b := 3) (by omega) (by omega)).mpr h)
                      refine hr_aload_n C dX4_route_145 rfl 1 rfl ?_
                      refine hr_get (k := 14) (i := 0) (fld := 10) C (by decide) rfl rfl (by decide) kU_X4 kF_X4_26 rfl rfl dX4_route_146 ?_
                      refine hr_iload C dX4_route_149 0 rfl ?_
                      refine hr_iald (k := 20) (i := 0) ((8 * (un a)) + (un b)) C (by decide) rfl rfl (show (8 * (un a)) + (un b) < 64 by omega) (by decide) dX4_route_151 ?_
                      exact hr_iret C hr dX4_route_152 (Or.inr ⟨⟨fA, fB, fW⟩, by unfold md_route md_rt1; repeat (first | rw [if_pos c53] | rw [if_neg c53] | rw [if_neg (not_not_intro c53)] | rw [if_pos c73] | rw [if_neg c73] | rw [if_neg (not_not_intro c73)] | rw [if_pos c79] | rw [if_neg c79] | rw [if_neg (not_not_intro c79)] | rw [if_pos c94] | rw [if_neg c94] | rw [if_neg (not_not_intro c94)] | rw [if_pos c109] | rw [if_neg c109] | rw [if_neg (not_not_intro c109)] | rw [if_pos c124] | rw [if_neg c124] | rw [if_neg (not_not_intro c124)]); try rfl, rfl⟩)
                    · skip
                      have c124 : (un w9) = 3 := (nI_eq (a := (un w9)) (b := 3) (by omega) (by omega)).mp c124
                      refine hr_aload_n C dX4_route_127 rfl 1 rfl ?_
                      refine hr_get (k := 14) (i := 0) (fld := 9) C (by decide) rfl rfl (by decide) kU_X4 kF_X4_23 rfl rfl dX4_route_128 ?_
                      refine hr_iload C dX4_route_131 0 rfl ?_
                      refine hr_zald (k := 19) (i := 0) ((8 * (un a)) + (un b)) C (by decide) rfl rfl (show (8 * (un a)) + (un b) < 64 by omega) (by decide) dX4_route_133 ?_
                      refine hr_if_eq C 141 dX4_route_134 (by decide) (fun c134 => ?_) (fun c134 => ?_)
                      · skip
                        refine hr_iconst (v := 0) C dX4_route_141 (by decide) ?_
                        refine hr_goto C 152 dX4_route_142 (by decide) ?_
                        exact hr_iret C hr dX4_route_152 (Or.inr ⟨⟨fA, fB, fW⟩, by unfold md_route md_rt1; repeat (first | rw [if_pos c53] | rw [if_neg c53] | rw [if_neg (not_not_intro c53)] | rw [if_pos c73] | rw [if_neg c73] | rw [if_neg (not_not_intro c73)] | rw [if_pos c79] | rw [if_neg c79] | rw [if_neg (not_not_intro c79)] | rw [if_pos c94] | rw [if_neg c94] | rw [if_neg (not_not_intro c94)] | rw [if_pos c109] | rw [if_neg c109] | rw [if_neg (not_not_intro c109)] | rw [if_pos c124] | rw [if_neg c124] | rw [if_neg (not_not_intro c124)] | rw [if_pos c134] | rw [if_neg c134] | rw [if_neg (not_not_intro c134)]); try rfl, rfl⟩)
                      · skip
                        refine hr_iconst (v := 1) C dX4_route_137 (by decide) ?_
                        refine hr_goto C 152 dX4_route_138 (by decide) ?_
                        exact hr_iret C hr dX4_route_152 (Or.inr ⟨⟨fA, fB, fW⟩, by unfold md_route md_rt1; repeat (first | rw [if_pos c53] | rw [if_neg c53] | rw [if_neg (not_not_intro c53)] | rw [if_pos c73] | rw [if_neg c73] | rw [if_neg (not_not_intro c73)] | rw [if_pos c79] | rw [if_neg c79] | rw [if_neg (not_not_intro c79)] | rw [if_pos c94] | rw [if_neg c94] | rw [if_neg (not_not_intro c94)] | rw [if_pos c109] | rw [if_neg c109] | rw [if_neg (not_not_intro c109)] | rw [if_pos c124] | rw [if_neg c124] | rw [if_neg (not_not_intro c124)] | rw [if_pos c134] | rw [if_neg c134] | rw [if_neg (not_not_intro c134)]); try rfl, rfl⟩)
                  · skip
                    have c109 : (un w9) = 2 := (nI_eq (a := (un w9)) (b := 2) (by omega) (by omega)).mp c109
                    refine hr_aload_n C dX4_route_112 rfl 1 rfl ?_
                    refine hr_get (k := 14) (i := 0) (fld := 8) C (by decide) rfl rfl (by decide) kU_X4 kF_X4_20 rfl rfl dX4_route_113 ?_
                    refine hr_iload C dX4_route_116 0 rfl ?_
                    refine hr_iald (k := 18) (i := 0) ((8 * (un a)) + (un b)) C (by decide) rfl rfl (show (8 * (un a)) + (un b) < 64 by omega) (by decide) dX4_route_118 ?_
                    refine hr_goto C 152 dX4_route_119 (by decide) ?_
                    exact hr_iret C hr dX4_route_152 (Or.inr ⟨⟨fA, fB, fW⟩, by unfold md_route md_rt1; repeat (first | rw [if_pos c53] | rw [if_neg c53] | rw [if_neg (not_not_intro c53)] | rw [if_pos c73] | rw [if_neg c73] | rw [if_neg (not_not_intro c73)] | rw [if_pos c79] | rw [if_neg c79] | rw [if_neg (not_not_intro c79)] | rw [if_pos c94] | rw [if_neg c94] | rw [if_neg (not_not_intro c94)] | rw [if_pos c109] | rw [if_neg c109] | rw [if_neg (not_not_intro c109)]); try rfl, rfl⟩)
                · skip
                  have c94 : (un w9) = 1 := (nI_eq (a := (un w9)) (b := 1) (by omega) (by omega)).mp c94
                  refine hr_aload_n C dX4_route_97 rfl 1 rfl ?_
                  refine hr_get (k := 14) (i := 0) (fld := 7) C (by decide) rfl rfl (by decide) kU_X4 kF_X4_17 rfl rfl dX4_route_98 ?_
                  refine hr_iload C dX4_route_101 0 rfl ?_
                  refine hr_iald (k := 17) (i := 0) ((8 * (un a)) + (un b)) C (by decide) rfl rfl (show (8 * (un a)) + (un b) < 64 by omega) (by decide) dX4_route_103 ?_
                  refine hr_goto C 152 dX4_route_104 (by decide) ?_
                  exact hr_iret C hr dX4_route_152 (Or.inr ⟨⟨fA, fB, fW⟩, by unfold md_route md_rt1; repeat (first | rw [if_pos c53] | rw [if_neg c53] | rw [if_neg (not_not_intro c53)] | rw [if_pos c73] | rw [if_neg c73] | rw [if_neg (not_not_intro c73)] | rw [if_pos c79] | rw [if_neg c79] | rw [if_neg (not_not_intro c79)] | rw [if_pos c94] | rw [if_neg c94] | rw [if_neg (not_not_intro c94)]); try rfl, rfl⟩)
              · skip
                have c79 : (un w9) = 0 := (nI_eq (a := (un w9)) (b := 0) (by omega) (by omega)).mp c79
                refine hr_aload_n C dX4_route_82 rfl 1 rfl ?_
                refine hr_get (k := 14) (i := 0) (fld := 6) C (by decide) rfl rfl (by decide) kU_X4 kF_X4_13 rfl rfl dX4_route_83 ?_
                refine hr_iload C dX4_route_86 0 rfl ?_
                refine hr_iald (k := 16) (i := 0) ((8 * (un a)) + (un b)) C (by decide) rfl rfl (show (8 * (un a)) + (un b) < 64 by omega) (by decide) dX4_route_88 ?_
                refine hr_goto C 152 dX4_route_89 (by decide) ?_
                exact hr_iret C hr dX4_route_152 (Or.inr ⟨⟨fA, fB, fW⟩, by unfold md_route md_rt1; repeat (first | rw [if_pos c53] | rw [if_neg c53] | rw [if_neg (not_not_intro c53)] | rw [if_pos c73] | rw [if_neg c73] | rw [if_neg (not_not_intro c73)] | rw [if_pos c79] | rw [if_neg c79] | rw [if_neg (not_not_intro c79)]); try rfl, rfl⟩)
            · skip
              refine hr_iconst (v := (-1)) C dX4_route_76 (by decide) ?_
              exact hr_iret C hr dX4_route_77 (Or.inr ⟨⟨fA, fB, fW⟩, by unfold md_route md_rt1; repeat (first | rw [if_pos c53] | rw [if_neg c53] | rw [if_neg (not_not_intro c53)] | rw [if_pos c73] | rw [if_neg c73] | rw [if_neg (not_not_intro c73)]); try rfl, rfl⟩)
          · skip
            have c53 : (un a) = (un b) := (nI_eq (a := (un a)) (b := (un b)) (by omega) (by omega)).mp c53
            refine hr_iload_n C dX4_route_56 rfl 4 rfl ?_
            refine hr_tp (y := nI (un w9)) fW.1 ?_
            refine hr_if_ne C 64 dX4_route_57 (by decide) (fun c57 => ?_) (fun c57 => ?_)
            · skip
              have c57 : ¬ (un w9) = 0 := fun h => c57 ((nI_eq (a := (un w9)) (b := 0) (by omega) (by omega)).mpr h)
              refine hr_iconst (v := (-1)) C dX4_route_64 (by decide) ?_
              exact hr_iret C hr dX4_route_65 (Or.inr ⟨⟨fA, fB, fW⟩, by unfold md_route md_rt1; repeat (first | rw [if_pos c53] | rw [if_neg c53] | rw [if_neg (not_not_intro c53)] | rw [if_pos c57] | rw [if_neg c57] | rw [if_neg (not_not_intro c57)]); try rfl, rfl⟩)
            · skip
              have c57 : (un w9) = 0 := (nI_eq (a := (un w9)) (b := 0) (by omega) (by omega)).mp c57
              refine hr_iconst (v := 0) C dX4_route_60 (by decide) ?_
              refine hr_goto C 65 dX4_route_61 (by decide) ?_
              exact hr_iret C hr dX4_route_65 (Or.inr ⟨⟨fA, fB, fW⟩, by unfold md_route md_rt1; repeat (first | rw [if_pos c53] | rw [if_neg c53] | rw [if_neg (not_not_intro c53)] | rw [if_pos c57] | rw [if_neg c57] | rw [if_neg (not_not_intro c57)]); try rfl, rfl⟩)
        · skip
          have c38 := hr_bn.mp c38
          have c38 : False := c38
          exact c38.elim
      · skip
        have c26 := hr_bz.mp c26
        have c26 : ¬ (0 ≤ w9 ∧ w9 ≤ 4) := c26
        refine hr_iconst (v := 1) C dX4_route_29 (by decide) ?_
        refine hr_goto C 34 dX4_route_30 (by decide) ?_
        refine hr_iconst (v := 1) C dX4_route_34 (by decide) ?_
        refine hr_cVi C (ct_X4_refuses1 l E (md_0 S) o 1 (md_0_0 S) (by decide)) (cwV 2 C.1.2.2.2.2 (hr_gV kM_X4_123 kI_X4_refuses kS_X4_refuses kN_X4 kC_X4_refuses) rfl rfl rfl (by decide +kernel) ⟨Nat.le_of_ble_eq_true rfl, Nat.le_of_ble_eq_true rfl⟩) (by decide) rfl rfl rfl (Nat.le_of_ble_eq_true rfl) dX4_route_35 ⟨Nat.le_of_ble_eq_true rfl, Nat.le_of_ble_eq_true rfl⟩ (fun r19 S20 h21 => ?_) rfl
        refine hr_tp h21.1 ?_
        refine hr_st (S1 := (hr_w (md_0 S) 14 0 0 1)) h21.2 ?_
        refine hr_if_eq C 43 dX4_route_38 (by decide) (fun c38 => ?_) (fun c38 => ?_)
        · skip
          have c38 := hr_bz.mp c38
          have c38 : ¬ (True) := c38
          exact (c38 trivial).elim
        · skip
          have c38 := hr_bn.mp c38
          have c38 : True := c38
          refine hr_iconst (v := 0) C dX4_route_41 (by decide) ?_
          exact hr_iret C hr dX4_route_42 (Or.inl ⟨fun h => c26 ((nb_in (N := 4) rfl (by decide)).mpr h.2.2), rfl⟩)
set_option maxHeartbeats 4000000 in
set_option maxRecDepth 100000 in
theorem ct_X4_send (l : Launch) (E : hr_E) (S : hr_S) (o : Int64) (a b : Int32) (hI : hr_MI S) : hr_Mi l E yX4_send (Cond.code yX4_send cX4_send 6 (some .int) :: hr_W) ({ frames := 2, cells := 0, slots := 0, locals := 42 } : Room) [.ref (hr_ad E 14 0), .int a, .int b] S o (fun r u => (¬ (nb a 8 ∧ nb b 8) ∧ u = md_r S 1) ∨ ((nb a 8 ∧ nb b 8) ∧ r = md_sd (md_0 S) (un b) 16 (un a) ∧ u = md_0 S)) := by
  refine hr_of (by decide) (Nat.le_of_ble_eq_true rfl) (fun p e s m below meth c C hr => ?_)
  refine hr_aload_n C dX4_send_0 rfl 0 rfl ?_
  refine hr_iconst (v := 0) C dX4_send_1 (by decide) ?_
  refine hr_put (k := 14) (i := 0) (fld := 0) C (by decide) rfl rfl (by decide) kU_X4 kF_X4_48 rfl tyX4 tyX4_ok nmX4 rfl (by decide +kernel) (Nat.le_of_ble_eq_true rfl) (by simp [hr_cell, hr_w, hr_wA, upd]) rfl dX4_send_2 ?_
  refine hr_st (S1 := md_0 S) rfl ?_
  refine hr_aload_n C dX4_send_5 rfl 0 rfl ?_
  refine hr_iload_n C dX4_send_6 rfl 1 rfl ?_
  refine hr_cSi C (ct_X4_isRouter l E (md_0 S) o a) (cwS 1 C.1.2.2.2.2 (hr_gS kM_X4_120 kT_X4_isRouter kN_X4 kC_X4_isRouter) rfl rfl rfl (by decide +kernel) ⟨Nat.le_of_ble_eq_true rfl, Nat.le_of_ble_eq_true rfl⟩) rfl (Nat.le_of_ble_eq_true rfl) dX4_send_7 ⟨Nat.le_of_ble_eq_true rfl, Nat.le_of_ble_eq_true rfl⟩ (fun r1 S2 h3 => ?_) rfl
  refine hr_tp h3.1 ?_
  refine hr_st (S1 := (md_0 S)) h3.2 ?_
  refine hr_if_eq C 20 dX4_send_10 (by decide) (fun c10 => ?_) (fun c10 => ?_)
  · skip
    have c10 := hr_bz.mp c10
    have c10 : ¬ (0 ≤ a ∧ a ≤ 7) := c10
    refine hr_iconst (v := 1) C dX4_send_20 (by decide) ?_
    refine hr_goto C 25 dX4_send_21 (by decide) ?_
    refine hr_iconst (v := 1) C dX4_send_25 (by decide) ?_
    refine hr_cVi C (ct_X4_refuses1 l E (md_0 S) o 1 (md_0_0 S) (by decide)) (cwV 2 C.1.2.2.2.2 (hr_gV kM_X4_123 kI_X4_refuses kS_X4_refuses kN_X4 kC_X4_refuses) rfl rfl rfl (by decide +kernel) ⟨Nat.le_of_ble_eq_true rfl, Nat.le_of_ble_eq_true rfl⟩) (by decide) rfl rfl rfl (Nat.le_of_ble_eq_true rfl) dX4_send_26 ⟨Nat.le_of_ble_eq_true rfl, Nat.le_of_ble_eq_true rfl⟩ (fun r4 S5 h6 => ?_) rfl
    refine hr_tp h6.1 ?_
    refine hr_st (S1 := (hr_w (md_0 S) 14 0 0 1)) h6.2 ?_
    refine hr_if_eq C 34 dX4_send_29 (by decide) (fun c29 => ?_) (fun c29 => ?_)
    · skip
      have c29 := hr_bz.mp c29
      have c29 : ¬ (True) := c29
      exact (c29 trivial).elim
    · skip
      have c29 := hr_bn.mp c29
      have c29 : True := c29
      refine hr_iconst (v := 0) C dX4_send_32 (by decide) ?_
      exact hr_iret C hr dX4_send_33 (Or.inl ⟨fun h => c10 (nb_07i h.1), rfl⟩)
  · skip
    have c10 := hr_bn.mp c10
    have c10 : 0 ≤ a ∧ a ≤ 7 := c10
    refine hr_iload_n C dX4_send_13 rfl 2 rfl ?_
    refine hr_cSi C (ct_X4_isRouter l E (md_0 S) o b) (cwS 1 C.1.2.2.2.2 (hr_gS kM_X4_120 kT_X4_isRouter kN_X4 kC_X4_isRouter) rfl rfl rfl (by decide +kernel) ⟨Nat.le_of_ble_eq_true rfl, Nat.le_of_ble_eq_true rfl⟩) rfl (Nat.le_of_ble_eq_true rfl) dX4_send_14 ⟨Nat.le_of_ble_eq_true rfl, Nat.le_of_ble_eq_true rfl⟩ (fun r7 S8 h9 => ?_) rfl
    refine hr_tp h9.1 ?_
    refine hr_st (S1 := (md_0 S)) h9.2 ?_
    refine hr_if_ne C 24 dX4_send_17 (by decide) (fun c17 => ?_) (fun c17 => ?_)
    · skip
      have c17 := hr_bn.mp c17
      have c17 : 0 ≤ b ∧ b ≤ 7 := c17
      refine hr_iconst (v := 0) C dX4_send_24 (by decide) ?_
      refine hr_iconst (v := 1) C dX4_send_25 (by decide) ?_
      refine hr_cVi C (ct_X4_refuses0 l E (md_0 S) o 1 (md_0_0 S) (by decide)) (cwV 2 C.1.2.2.2.2 (hr_gV kM_X4_123 kI_X4_refuses kS_X4_refuses kN_X4 kC_X4_refuses) rfl rfl rfl (by decide +kernel) ⟨Nat.le_of_ble_eq_true rfl, Nat.le_of_ble_eq_true rfl⟩) (by decide) rfl rfl rfl (Nat.le_of_ble_eq_true rfl) dX4_send_26 ⟨Nat.le_of_ble_eq_true rfl, Nat.le_of_ble_eq_true rfl⟩ (fun r10 S11 h12 => ?_) rfl
      refine hr_tp h12.1 ?_
      refine hr_st (S1 := (md_0 S)) h12.2 ?_
      refine hr_if_eq C 34 dX4_send_29 (by decide) (fun c29 => ?_) (fun c29 => ?_)
      · skip
        have c29 := hr_bz.mp c29
        have c29 : ¬ (False) := c29
        have fA := nb_07 c10
        have fB := nb_07 c17
        have hA := fA.2
        have hB := fB.2
        refine hr_iload_n C dX4_send_34 rfl 1 rfl ?_
        refine hr_tp (y := nI (un a)) fA.1 ?_
        refine hr_istore_n C [(3, .int (nI (un a))), (0, .ref (hr_ad E 14 0)), (1, .int a), (2, .int b)] dX4_send_35 rfl (by decide) rfl ?_
        refine hr_iconst (v := 0) C dX4_send_36 (by decide) ?_
        refine hr_istore C [(4, .int 0), (3, .int (nI (un a))), (0, .ref (hr_ad E 14 0)), (1, .int a), (2, .int b)] dX4_send_37 (by decide) rfl ?_
        have LP : ∀ (n hop at9 : Nat), hop ≤ 16 → 17 ≤ hop + n → at9 < 8 → md_sd (md_0 S) (un b) (16 - hop) at9 = md_sd (md_0 S) (un b) 16 (un a) → hr_G p l e ({ frames := 2, cells := 0, slots := 0, locals := 42 } : Room) s m #[.ref (hr_ad E 14 0), .int a, .int b] below meth c (MQ below (va_Qi (fun r u => (¬ (nb a 8 ∧ nb b 8) ∧ u = md_r S 1) ∨ ((nb a 8 ∧ nb b 8) ∧ r = md_sd (md_0 S) (un b) 16 (un a) ∧ u = md_0 S)) (fun u t => hr_P E u o t.heap) (hr_A E)) #[.ref (hr_ad E 14 0), .int a, .int b] s 0 0 (hr_A E)) E 6 0 0 (md_0 S) o [(0, .ref (hr_ad E 14 0)), (1, .int a), (2, .int b), (3, .int (nI at9)), (4, .int (nI hop))] 39 [] := by
          intro n
          induction n with
          | zero => intro hop at9 h1 h2; omega
          | succ n ih =>
            intro hop at9 h6 h7 hat hv
            refine hr_iload C dX4_send_39 4 rfl ?_
            refine hr_bipush (v := 17) C dX4_send_41 (by decide) ?_
            refine hr_icmp_ge C 133 dX4_send_43 (by decide) (fun c43 => ?_) (fun c43 => ?_)
            · skip
              have c43 : 17 ≤ hop := (nI_leI (a := 17) (b := hop) (by omega) (by omega)).mp c43
              have c43n : ¬ hop < 17 := Nat.not_lt.mpr c43
              omega
            · skip
              have c43 : ¬ 17 ≤ hop := fun h => c43 ((nI_leI (a := 17) (b := hop) (by omega) (by omega)).mpr h)
              have c43n : hop < 17 := Nat.not_le.mp c43
              refine hr_iload_n C dX4_send_46 rfl 3 rfl ?_
              refine hr_iload_n C dX4_send_47 rfl 2 rfl ?_
              refine hr_tp (y := nI (un b)) fB.1 ?_
              refine hr_icmp_ne C 54 dX4_send_48 (by decide) (fun c48 => ?_) (fun c48 => ?_)
              · skip
                have c48 : ¬ at9 = (un b) := fun h => c48 ((nI_eq (a := at9) (b := (un b)) (by omega) (by omega)).mpr h)
                refine hr_iload C dX4_send_54 4 rfl ?_
                refine hr_bipush (v := 16) C dX4_send_56 (by decide) ?_
                refine hr_icmp_ne C 64 dX4_send_58 (by decide) (fun c58 => ?_) (fun c58 => ?_)
                · skip
                  have c58 : ¬ hop = 16 := fun h => c58 ((nI_eq (a := hop) (b := 16) (by omega) (by omega)).mpr h)
                  refine hr_bipush (v := 8) C dX4_send_64 (by decide) ?_
                  refine hr_iload_n C dX4_send_66 rfl 3 rfl ?_
                  refine hr_imul (v := nI (8 * at9)) C dX4_send_67 (pk_mul 8 at9) ?_
                  refine hr_iload_n C dX4_send_68 rfl 2 rfl ?_
                  refine hr_tp (y := nI (un b)) fB.1 ?_
                  refine hr_iadd (v := nI ((8 * at9) + (un b))) C dX4_send_69 (nI_add (8 * at9) (un b)) ?_
                  refine hr_istore C [(5, .int (nI ((8 * at9) + (un b)))), (0, .ref (hr_ad E 14 0)), (1, .int a), (2, .int b), (3, .int (nI at9)), (4, .int (nI hop))] dX4_send_70 (by decide) rfl ?_
                  refine hr_aload_n C dX4_send_72 rfl 1 rfl ?_
                  refine hr_get (k := 14) (i := 0) (fld := 6) C (by decide) rfl rfl (by decide) kU_X4 kF_X4_13 rfl rfl dX4_send_73 ?_
                  refine hr_iload C dX4_send_76 0 rfl ?_
                  refine hr_iald (k := 16) (i := 0) ((8 * at9) + (un b)) C (by decide) rfl rfl (show (8 * at9) + (un b) < 64 by omega) (by decide) dX4_send_78 ?_
                  refine hr_if_eq C 94 dX4_send_79 (by decide) (fun c79 => ?_) (fun c79 => ?_)
                  · skip
                    refine hr_iconst (v := (-1)) C dX4_send_94 (by decide) ?_
                    exact hr_iret C hr dX4_send_95 (Or.inr ⟨⟨fA, fB⟩, by rw [← hv, md_sd_go c48 (by omega), if_pos (Or.inl c79)], rfl⟩)
                  · skip
                    refine hr_aload_n C dX4_send_82 rfl 1 rfl ?_
                    refine hr_get (k := 14) (i := 0) (fld := 6) C (by decide) rfl rfl (by decide) kU_X4 kF_X4_13 rfl rfl dX4_send_83 ?_
                    refine hr_iload C dX4_send_86 0 rfl ?_
                    refine hr_iald (k := 16) (i := 0) ((8 * at9) + (un b)) C (by decide) rfl rfl (show (8 * at9) + (un b) < 64 by omega) (by decide) dX4_send_88 ?_
                    refine hr_bipush (v := 16) C dX4_send_89 (by decide) ?_
                    refine hr_icmp_ne C 96 dX4_send_91 (by decide) (fun c91 => ?_) (fun c91 => ?_)
                    · skip
                      refine hr_aload_n C dX4_send_96 rfl 1 rfl ?_
                      refine hr_get (k := 14) (i := 0) (fld := 5) C (by decide) rfl rfl (by decide) kU_X4 kF_X4_7 rfl rfl dX4_send_97 ?_
                      refine hr_bipush (v := 8) C dX4_send_100 (by decide) ?_
                      refine hr_iload_n C dX4_send_102 rfl 4 rfl ?_
                      refine hr_imul (v := nI (8 * at9)) C dX4_send_103 (pk_mul 8 at9) ?_
                      refine hr_aload_n C dX4_send_104 rfl 1 rfl ?_
                      refine hr_get (k := 14) (i := 0) (fld := 7) C (by decide) rfl rfl (by decide) kU_X4 kF_X4_17 rfl rfl dX4_send_105 ?_
                      refine hr_iload C dX4_send_108 0 rfl ?_
                      refine hr_iald (k := 17) (i := 0) ((8 * at9) + (un b)) C (by decide) rfl rfl (show (8 * at9) + (un b) < 64 by omega) (by decide) dX4_send_110 ?_
                      refine hr_tp (y := nI (un ((md_0 S) 17 0 ((8 * at9) + (un b))))) ((MI_0 hI).2.2.1 ((8 * at9) + (un b)) (by omega)).1 ?_
                      refine hr_iadd (v := nI ((8 * at9) + (un ((md_0 S) 17 0 ((8 * at9) + (un b)))))) C dX4_send_111 (nI_add (8 * at9) (un ((md_0 S) 17 0 ((8 * at9) + (un b))))) ?_
                      refine hr_zald (k := 15) (i := 0) ((8 * at9) + (un ((md_0 S) 17 0 ((8 * at9) + (un b))))) C (by decide) rfl rfl (by have := ((MI_0 hI).2.2.1 ((8 * at9) + (un b)) (by omega)).2; omega) (by decide) dX4_send_112 ?_
                      refine hr_if_ne C 119 dX4_send_113 (by decide) (fun c113 => ?_) (fun c113 => ?_)
                      · skip
                        refine hr_aload_n C dX4_send_119 rfl 1 rfl ?_
                        refine hr_get (k := 14) (i := 0) (fld := 7) C (by decide) rfl rfl (by decide) kU_X4 kF_X4_17 rfl rfl dX4_send_120 ?_
                        refine hr_iload C dX4_send_123 0 rfl ?_
                        refine hr_iald (k := 17) (i := 0) ((8 * at9) + (un b)) C (by decide) rfl rfl (show (8 * at9) + (un b) < 64 by omega) (by decide) dX4_send_125 ?_
                        refine hr_tp (y := nI (un ((md_0 S) 17 0 ((8 * at9) + (un b))))) ((MI_0 hI).2.2.1 ((8 * at9) + (un b)) (by omega)).1 ?_
                        refine hr_istore_n C [(3, .int (nI (un ((md_0 S) 17 0 ((8 * at9) + (un b)))))), (5, .int (nI ((8 * at9) + (un b)))), (0, .ref (hr_ad E 14 0)), (1, .int a), (2, .int b), (4, .int (nI hop))] dX4_send_126 rfl (by decide) rfl ?_
                        refine hr_iinc (v := nI (hop + 1)) C [(4, .int (nI (hop + 1))), (3, .int (nI (un ((md_0 S) 17 0 ((8 * at9) + (un b)))))), (5, .int (nI ((8 * at9) + (un b)))), (0, .ref (hr_ad E 14 0)), (1, .int a), (2, .int b)] dX4_send_127 5 rfl (nI_add hop 1) (by decide) rfl ?_
                        refine hr_goto C 39 dX4_send_130 (by decide) ?_
                        refine hr_sub [3, 4, 5, 1, 0] rfl ?_
                        exact ih (hop + 1) (un ((md_0 S) 17 0 ((8 * at9) + (un b)))) (by omega) (by omega) ((MI_0 hI).2.2.1 ((8 * at9) + (un b)) (by omega)).2 (by rw [← hv, md_sd_go c48 (by omega), if_neg (not_or.mpr ⟨c79, c91⟩), if_pos c113])
                      · skip
                        refine hr_bipush (v := (-2)) C dX4_send_116 (by decide) ?_
                        exact hr_iret C hr dX4_send_118 (Or.inr ⟨⟨fA, fB⟩, by rw [← hv, md_sd_go c48 (by omega), if_neg (not_or.mpr ⟨c79, c91⟩), if_neg (not_not_intro c113)], rfl⟩)
                    · skip
                      refine hr_iconst (v := (-1)) C dX4_send_94 (by decide) ?_
                      exact hr_iret C hr dX4_send_95 (Or.inr ⟨⟨fA, fB⟩, by rw [← hv, md_sd_go c48 (by omega), if_pos (Or.inr c91)], rfl⟩)
                · skip
                  have c58 : hop = 16 := (nI_eq (a := hop) (b := 16) (by omega) (by omega)).mp c58
                  refine hr_bipush (v := (-3)) C dX4_send_61 (by decide) ?_
                  exact hr_iret C hr dX4_send_63 (Or.inr ⟨⟨fA, fB⟩, by rw [← hv, md_sd_16 c48 (by omega)], rfl⟩)
              · skip
                have c48 : at9 = (un b) := (nI_eq (a := at9) (b := (un b)) (by omega) (by omega)).mp c48
                refine hr_iload C dX4_send_51 4 rfl ?_
                exact hr_iret C hr dX4_send_53 (Or.inr ⟨⟨fA, fB⟩, by rw [← hv, md_sd_at c48 h6], rfl⟩)
        refine hr_sub [2, 3, 4, 1, 0] rfl ?_
        exact LP 17 0 (un a) (by omega) (by omega) hA rfl
      · skip
        have c29 := hr_bn.mp c29
        have c29 : False := c29
        exact c29.elim
    · skip
      have c17 := hr_bz.mp c17
      have c17 : ¬ (0 ≤ b ∧ b ≤ 7) := c17
      refine hr_iconst (v := 1) C dX4_send_20 (by decide) ?_
      refine hr_goto C 25 dX4_send_21 (by decide) ?_
      refine hr_iconst (v := 1) C dX4_send_25 (by decide) ?_
      refine hr_cVi C (ct_X4_refuses1 l E (md_0 S) o 1 (md_0_0 S) (by decide)) (cwV 2 C.1.2.2.2.2 (hr_gV kM_X4_123 kI_X4_refuses kS_X4_refuses kN_X4 kC_X4_refuses) rfl rfl rfl (by decide +kernel) ⟨Nat.le_of_ble_eq_true rfl, Nat.le_of_ble_eq_true rfl⟩) (by decide) rfl rfl rfl (Nat.le_of_ble_eq_true rfl) dX4_send_26 ⟨Nat.le_of_ble_eq_true rfl, Nat.le_of_ble_eq_true rfl⟩ (fun r13 S14 h15 => ?_) rfl
      refine hr_tp h15.1 ?_
      refine hr_st (S1 := (hr_w (md_0 S) 14 0 0 1)) h15.2 ?_
      refine hr_if_eq C 34 dX4_send_29 (by decide) (fun c29 => ?_) (fun c29 => ?_)
      · skip
        have c29 := hr_bz.mp c29
        have c29 : ¬ (True) := c29
        exact (c29 trivial).elim
      · skip
        have c29 := hr_bn.mp c29
        have c29 : True := c29
        refine hr_iconst (v := 0) C dX4_send_32 (by decide) ?_
        exact hr_iret C hr dX4_send_33 (Or.inl ⟨fun h => c17 (nb_07i h.2), rfl⟩)
set_option maxHeartbeats 4000000 in
set_option maxRecDepth 100000 in
theorem ct_X4_count (l : Launch) (E : hr_E) (S : hr_S) (o : Int64) (w9 : Int32) : hr_Mi l E yX4_count (Cond.code yX4_count cX4_count 4 (some .int) :: hr_W) ({ frames := 1, cells := 0, slots := 0, locals := 22 } : Room) [.ref (hr_ad E 14 0), .int w9] S o (fun r u => (¬ nb w9 6 ∧ u = md_r S 1) ∨ (nb w9 6 ∧ r = md_count (md_0 S) (un w9) ∧ u = md_0 S)) := by
  refine hr_of (by decide) (Nat.le_of_ble_eq_true rfl) (fun p e s m below meth c C hr => ?_)
  refine hr_aload_n C dX4_count_0 rfl 0 rfl ?_
  refine hr_iconst (v := 0) C dX4_count_1 (by decide) ?_
  refine hr_put (k := 14) (i := 0) (fld := 0) C (by decide) rfl rfl (by decide) kU_X4 kF_X4_48 rfl tyX4 tyX4_ok nmX4 rfl (by decide +kernel) (Nat.le_of_ble_eq_true rfl) (by simp [hr_cell, hr_w, hr_wA, upd]) rfl dX4_count_2 ?_
  refine hr_st (S1 := md_0 S) rfl ?_
  refine hr_aload_n C dX4_count_5 rfl 0 rfl ?_
  refine hr_iload_n C dX4_count_6 rfl 1 rfl ?_
  refine hr_iconst (v := 0) C dX4_count_7 (by decide) ?_
  refine hr_iconst (v := 5) C dX4_count_8 (by decide) ?_
  refine hr_cSi C (ct_X4_in l E (md_0 S) o w9 0 5) (cwS 3 C.1.2.2.2.2 (hr_gS kM_X4_52 kT_X4_in kN_X4 kC_X4_in) rfl rfl rfl (by decide +kernel) ⟨Nat.le_of_ble_eq_true rfl, Nat.le_of_ble_eq_true rfl⟩) rfl (Nat.le_of_ble_eq_true rfl) dX4_count_9 ⟨Nat.le_of_ble_eq_true rfl, Nat.le_of_ble_eq_true rfl⟩ (fun r1 S2 h3 => ?_) rfl
  refine hr_tp h3.1 ?_
  refine hr_st (S1 := (md_0 S)) h3.2 ?_
  refine hr_if_ne C 19 dX4_count_12 (by decide) (fun c12 => ?_) (fun c12 => ?_)
  · skip
    have c12 := hr_bn.mp c12
    have c12 : 0 ≤ w9 ∧ w9 ≤ 5 := c12
    refine hr_iconst (v := 0) C dX4_count_19 (by decide) ?_
    refine hr_iconst (v := 1) C dX4_count_20 (by decide) ?_
    refine hr_cVi C (ct_X4_refuses0 l E (md_0 S) o 1 (md_0_0 S) (by decide)) (cwV 2 C.1.2.2.2.2 (hr_gV kM_X4_123 kI_X4_refuses kS_X4_refuses kN_X4 kC_X4_refuses) rfl rfl rfl (by decide +kernel) ⟨Nat.le_of_ble_eq_true rfl, Nat.le_of_ble_eq_true rfl⟩) (by decide) rfl rfl rfl (Nat.le_of_ble_eq_true rfl) dX4_count_21 ⟨Nat.le_of_ble_eq_true rfl, Nat.le_of_ble_eq_true rfl⟩ (fun r4 S5 h6 => ?_) rfl
    refine hr_tp h6.1 ?_
    refine hr_st (S1 := (md_0 S)) h6.2 ?_
    refine hr_if_eq C 29 dX4_count_24 (by decide) (fun c24 => ?_) (fun c24 => ?_)
    · skip
      have c24 := hr_bz.mp c24
      have c24 : ¬ (False) := c24
      have fW : nb w9 6 := (nb_in (N := 5) rfl (by decide)).mp c12
      have hW := fW.2
      refine hr_iconst (v := 0) C dX4_count_29 (by decide) ?_
      refine hr_istore_n C [(2, .int 0), (0, .ref (hr_ad E 14 0)), (1, .int w9)] dX4_count_30 rfl (by decide) rfl ?_
      refine hr_iconst (v := 0) C dX4_count_31 (by decide) ?_
      refine hr_istore_n C [(3, .int 0), (2, .int 0), (0, .ref (hr_ad E 14 0)), (1, .int w9)] dX4_count_32 rfl (by decide) rfl ?_
      have LP33 : ∀ (n p9 : Nat) , p9 ≤ 64 → 64 + 1 ≤ p9 + n → hr_G p l e ({ frames := 1, cells := 0, slots := 0, locals := 22 } : Room) s m #[.ref (hr_ad E 14 0), .int w9] below meth c (MQ below (va_Qi (fun r u => (¬ nb w9 6 ∧ u = md_r S 1) ∨ (nb w9 6 ∧ r = md_count (md_0 S) (un w9) ∧ u = md_0 S)) (fun u t => hr_P E u o t.heap) (hr_A E)) #[.ref (hr_ad E 14 0), .int w9] s 0 0 (hr_A E)) E 4 0 0 (md_0 S) o [(0, .ref (hr_ad E 14 0)), (1, .int w9), (2, .int (nI (md_cnt (md_0 S) p9))), (3, .int (nI p9))] 33 [] := by
        intro n
        induction n with
        | zero => intro p9  h1 h2; omega
        | succ n ih =>
          intro p9  hv1 hv2
          refine hr_iload_n C dX4_count_33 rfl 3 rfl ?_
          refine hr_bipush (v := 64) C dX4_count_34 (by decide) ?_
          refine hr_icmp_ge C 73 dX4_count_36 (by decide) (fun c36 => ?_) (fun c36 => ?_)
          · skip
            have c36 : 64 ≤ p9 := (nI_leI (a := 64) (b := p9) (by omega) (by omega)).mp c36
            have c36n : ¬ p9 < 64 := Nat.not_lt.mpr c36
            have e64 : p9 = 64 := (by omega)
            subst e64
            refine hr_iload_n C dX4_count_73 rfl 1 rfl ?_
            refine hr_tp (y := nI (un w9)) fW.1 ?_
            refine hr_if_ne C 84 dX4_count_74 (by decide) (fun c74 => ?_) (fun c74 => ?_)
            · skip
              have c74 : ¬ (un w9) = 0 := fun h => c74 ((nI_eq (a := (un w9)) (b := 0) (by omega) (by omega)).mpr h)
              refine hr_iload_n C dX4_count_84 rfl 1 rfl ?_
              refine hr_tp (y := nI (un w9)) fW.1 ?_
              refine hr_iconst (v := 1) C dX4_count_85 (by decide) ?_
              refine hr_icmp_ne C 96 dX4_count_86 (by decide) (fun c86 => ?_) (fun c86 => ?_)
              · skip
                have c86 : ¬ (un w9) = 1 := fun h => c86 ((nI_eq (a := (un w9)) (b := 1) (by omega) (by omega)).mpr h)
                refine hr_iload_n C dX4_count_96 rfl 1 rfl ?_
                refine hr_tp (y := nI (un w9)) fW.1 ?_
                refine hr_iconst (v := 2) C dX4_count_97 (by decide) ?_
                refine hr_icmp_ne C 108 dX4_count_98 (by decide) (fun c98 => ?_) (fun c98 => ?_)
                · skip
                  have c98 : ¬ (un w9) = 2 := fun h => c98 ((nI_eq (a := (un w9)) (b := 2) (by omega) (by omega)).mpr h)
                  refine hr_iload_n C dX4_count_108 rfl 1 rfl ?_
                  refine hr_tp (y := nI (un w9)) fW.1 ?_
                  refine hr_iconst (v := 3) C dX4_count_109 (by decide) ?_
                  refine hr_icmp_ne C 120 dX4_count_110 (by decide) (fun c110 => ?_) (fun c110 => ?_)
                  · skip
                    have c110 : ¬ (un w9) = 3 := fun h => c110 ((nI_eq (a := (un w9)) (b := 3) (by omega) (by omega)).mpr h)
                    refine hr_iload_n C dX4_count_120 rfl 1 rfl ?_
                    refine hr_tp (y := nI (un w9)) fW.1 ?_
                    refine hr_iconst (v := 4) C dX4_count_121 (by decide) ?_
                    refine hr_icmp_ne C 129 dX4_count_122 (by decide) (fun c122 => ?_) (fun c122 => ?_)
                    · skip
                      have c122 : ¬ (un w9) = 4 := fun h => c122 ((nI_eq (a := (un w9)) (b := 4) (by omega) (by omega)).mpr h)
                      refine hr_aload_n C dX4_count_129 rfl 0 rfl ?_
                      refine hr_get (k := 14) (i := 0) (fld := 4) C (by decide) rfl rfl (by decide) kU_X4 kF_X4_104 rfl rfl dX4_count_130 ?_
                      exact hr_iret C hr dX4_count_133 (Or.inr ⟨fW, by unfold md_count; repeat (first | rw [if_pos c74] | rw [if_neg c74] | rw [if_neg (not_not_intro c74)] | rw [if_pos c86] | rw [if_neg c86] | rw [if_neg (not_not_intro c86)] | rw [if_pos c98] | rw [if_neg c98] | rw [if_neg (not_not_intro c98)] | rw [if_pos c110] | rw [if_neg c110] | rw [if_neg (not_not_intro c110)] | rw [if_pos c122] | rw [if_neg c122] | rw [if_neg (not_not_intro c122)]); try rfl, rfl⟩)
                    · skip
                      have c122 : (un w9) = 4 := (nI_eq (a := (un w9)) (b := 4) (by omega) (by omega)).mp c122
                      refine hr_iload_n C dX4_count_125 rfl 2 rfl ?_
                      refine hr_goto C 133 dX4_count_126 (by decide) ?_
                      exact hr_iret C hr dX4_count_133 (Or.inr ⟨fW, by unfold md_count; repeat (first | rw [if_pos c74] | rw [if_neg c74] | rw [if_neg (not_not_intro c74)] | rw [if_pos c86] | rw [if_neg c86] | rw [if_neg (not_not_intro c86)] | rw [if_pos c98] | rw [if_neg c98] | rw [if_neg (not_not_intro c98)] | rw [if_pos c110] | rw [if_neg c110] | rw [if_neg (not_not_intro c110)] | rw [if_pos c122] | rw [if_neg c122] | rw [if_neg (not_not_intro c122)]); try rfl, rfl⟩)
                  · skip
                    have c110 : (un w9) = 3 := (nI_eq (a := (un w9)) (b := 3) (by omega) (by omega)).mp c110
                    refine hr_aload_n C dX4_count_113 rfl 0 rfl ?_
                    refine hr_get (k := 14) (i := 0) (fld := 1) C (by decide) rfl rfl (by decide) kU_X4 kF_X4_114 rfl rfl dX4_count_114 ?_
                    refine hr_goto C 133 dX4_count_117 (by decide) ?_
                    exact hr_iret C hr dX4_count_133 (Or.inr ⟨fW, by unfold md_count; repeat (first | rw [if_pos c74] | rw [if_neg c74] | rw [if_neg (not_not_intro c74)] | rw [if_pos c86] | rw [if_neg c86] | rw [if_neg (not_not_intro c86)] | rw [if_pos c98] | rw [if_neg c98] | rw [if_neg (not_not_intro c98)] | rw [if_pos c110] | rw [if_neg c110] | rw [if_neg (not_not_intro c110)]); try rfl, rfl⟩)
                · skip
                  have c98 : (un w9) = 2 := (nI_eq (a := (un w9)) (b := 2) (by omega) (by omega)).mp c98
                  refine hr_aload_n C dX4_count_101 rfl 0 rfl ?_
                  refine hr_get (k := 14) (i := 0) (fld := 3) C (by decide) rfl rfl (by decide) kU_X4 kF_X4_63 rfl rfl dX4_count_102 ?_
                  refine hr_goto C 133 dX4_count_105 (by decide) ?_
                  exact hr_iret C hr dX4_count_133 (Or.inr ⟨fW, by unfold md_count; repeat (first | rw [if_pos c74] | rw [if_neg c74] | rw [if_neg (not_not_intro c74)] | rw [if_pos c86] | rw [if_neg c86] | rw [if_neg (not_not_intro c86)] | rw [if_pos c98] | rw [if_neg c98] | rw [if_neg (not_not_intro c98)]); try rfl, rfl⟩)
              · skip
                have c86 : (un w9) = 1 := (nI_eq (a := (un w9)) (b := 1) (by omega) (by omega)).mp c86
                refine hr_aload_n C dX4_count_89 rfl 0 rfl ?_
                refine hr_get (k := 14) (i := 0) (fld := 2) C (by decide) rfl rfl (by decide) kU_X4 kF_X4_69 rfl rfl dX4_count_90 ?_
                refine hr_goto C 133 dX4_count_93 (by decide) ?_
                exact hr_iret C hr dX4_count_133 (Or.inr ⟨fW, by unfold md_count; repeat (first | rw [if_pos c74] | rw [if_neg c74] | rw [if_neg (not_not_intro c74)] | rw [if_pos c86] | rw [if_neg c86] | rw [if_neg (not_not_intro c86)]); try rfl, rfl⟩)
            · skip
              have c74 : (un w9) = 0 := (nI_eq (a := (un w9)) (b := 0) (by omega) (by omega)).mp c74
              refine hr_aload_n C dX4_count_77 rfl 0 rfl ?_
              refine hr_get (k := 14) (i := 0) (fld := 11) C (by decide) rfl rfl (by decide) kU_X4 kF_X4_66 rfl rfl dX4_count_78 ?_
              refine hr_goto C 133 dX4_count_81 (by decide) ?_
              exact hr_iret C hr dX4_count_133 (Or.inr ⟨fW, by unfold md_count; repeat (first | rw [if_pos c74] | rw [if_neg c74] | rw [if_neg (not_not_intro c74)]); try rfl, rfl⟩)
          · skip
            have c36 : ¬ 64 ≤ p9 := fun h => c36 ((nI_leI (a := 64) (b := p9) (by omega) (by omega)).mpr h)
            have c36n : p9 < 64 := Nat.not_le.mp c36
            refine hr_iload_n C dX4_count_39 rfl 2 rfl ?_
            refine hr_aload_n C dX4_count_40 rfl 0 rfl ?_
            refine hr_get (k := 14) (i := 0) (fld := 5) C (by decide) rfl rfl (by decide) kU_X4 kF_X4_7 rfl rfl dX4_count_41 ?_
            refine hr_iload_n C dX4_count_44 rfl 3 rfl ?_
            refine hr_zald (k := 15) (i := 0) p9 C (by decide) rfl rfl (show p9 < 64 by omega) (by decide) dX4_count_45 ?_
            refine hr_if_eq C 64 dX4_count_46 (by decide) (fun c46 => ?_) (fun c46 => ?_)
            · skip
              refine hr_iconst (v := 0) C dX4_count_64 (by decide) ?_
              refine hr_iadd (v := nI ((md_cnt (md_0 S) p9) + 0)) C dX4_count_65 (nI_add (md_cnt (md_0 S) p9) 0) ?_
              refine hr_istore_n C [(2, .int (nI ((md_cnt (md_0 S) p9) + 0))), (0, .ref (hr_ad E 14 0)), (1, .int w9), (3, .int (nI p9))] dX4_count_66 rfl (by decide) rfl ?_
              refine hr_iinc (v := nI (p9 + 1)) C [(3, .int (nI (p9 + 1))), (2, .int (nI ((md_cnt (md_0 S) p9) + 0))), (0, .ref (hr_ad E 14 0)), (1, .int w9)] dX4_count_67 3 rfl (nI_add p9 1) (by decide) rfl ?_
              refine hr_goto C 33 dX4_count_70 (by decide) ?_
              refine hr_sub [2, 3, 1, 0] rfl ?_
              refine hr_lve (lv2 := [(0, .ref (hr_ad E 14 0)), (1, .int w9), (2, .int (nI (md_cnt (md_0 S) (p9 + 1)))), (3, .int (nI (p9 + 1)))]) (by rw [show md_cnt (md_0 S) (p9 + 1) = md_cnt (md_0 S) p9 + 0 by rw [md_cnt, if_neg (fun h => h.1 c46)]]; first | done | rfl) ?_
              refine hr_st (S1 := (md_0 S)) rfl ?_
              exact ih (p9 + 1)  (by omega) (by omega)
            · skip
              refine hr_iload_n C dX4_count_49 rfl 3 rfl ?_
              refine hr_bipush (v := 8) C dX4_count_50 (by decide) ?_
              refine hr_idiv (v := nI (p9 / 8)) C dX4_count_52 (by decide) (pk_div (a := p9) (d := 8) (by omega) (by omega) (by omega)) ?_
              refine hr_iload_n C dX4_count_53 rfl 3 rfl ?_
              refine hr_bipush (v := 8) C dX4_count_54 (by decide) ?_
              refine hr_irem (v := nI (p9 % 8)) C dX4_count_56 (by decide) (pk_rem (a := p9) (d := 8) (by omega) (by omega) (by omega)) ?_
              refine hr_icmp_ge C 64 dX4_count_57 (by decide) (fun c57 => ?_) (fun c57 => ?_)
              · skip
                have c57 : (p9 % 8) ≤ (p9 / 8) := (nI_leI (a := (p9 % 8)) (b := (p9 / 8)) (by omega) (by omega)).mp c57
                have c57n : ¬ (p9 / 8) < (p9 % 8) := Nat.not_lt.mpr c57
                refine hr_iconst (v := 0) C dX4_count_64 (by decide) ?_
                refine hr_iadd (v := nI ((md_cnt (md_0 S) p9) + 0)) C dX4_count_65 (nI_add (md_cnt (md_0 S) p9) 0) ?_
                refine hr_istore_n C [(2, .int (nI ((md_cnt (md_0 S) p9) + 0))), (0, .ref (hr_ad E 14 0)), (1, .int w9), (3, .int (nI p9))] dX4_count_66 rfl (by decide) rfl ?_
                refine hr_iinc (v := nI (p9 + 1)) C [(3, .int (nI (p9 + 1))), (2, .int (nI ((md_cnt (md_0 S) p9) + 0))), (0, .ref (hr_ad E 14 0)), (1, .int w9)] dX4_count_67 3 rfl (nI_add p9 1) (by decide) rfl ?_
                refine hr_goto C 33 dX4_count_70 (by decide) ?_
                refine hr_sub [2, 3, 1, 0] rfl ?_
                refine hr_lve (lv2 := [(0, .ref (hr_ad E 14 0)), (1, .int w9), (2, .int (nI (md_cnt (md_0 S) (p9 + 1)))), (3, .int (nI (p9 + 1)))]) (by rw [show md_cnt (md_0 S) (p9 + 1) = md_cnt (md_0 S) p9 + 0 by rw [md_cnt, if_neg (fun h => by have := h.2; omega)]]; first | done | rfl) ?_
                refine hr_st (S1 := (md_0 S)) rfl ?_
                exact ih (p9 + 1)  (by omega) (by omega)
              · skip
                have c57 : ¬ (p9 % 8) ≤ (p9 / 8) := fun h => c57 ((nI_leI (a := (p9 % 8)) (b := (p9 / 8)) (by omega) (by omega)).mpr h)
                have c57n : (p9 / 8) < (p9 % 8) := Nat.not_le.mp c57
                refine hr_iconst (v := 1) C dX4_count_60 (by decide) ?_
                refine hr_goto C 65 dX4_count_61 (by decide) ?_
                refine hr_iadd (v := nI ((md_cnt (md_0 S) p9) + 1)) C dX4_count_65 (nI_add (md_cnt (md_0 S) p9) 1) ?_
                refine hr_istore_n C [(2, .int (nI ((md_cnt (md_0 S) p9) + 1))), (0, .ref (hr_ad E 14 0)), (1, .int w9), (3, .int (nI p9))] dX4_count_66 rfl (by decide) rfl ?_
                refine hr_iinc (v := nI (p9 + 1)) C [(3, .int (nI (p9 + 1))), (2, .int (nI ((md_cnt (md_0 S) p9) + 1))), (0, .ref (hr_ad E 14 0)), (1, .int w9)] dX4_count_67 3 rfl (nI_add p9 1) (by decide) rfl ?_
                refine hr_goto C 33 dX4_count_70 (by decide) ?_
                refine hr_sub [2, 3, 1, 0] rfl ?_
                refine hr_lve (lv2 := [(0, .ref (hr_ad E 14 0)), (1, .int w9), (2, .int (nI (md_cnt (md_0 S) (p9 + 1)))), (3, .int (nI (p9 + 1)))]) (by rw [show md_cnt (md_0 S) (p9 + 1) = md_cnt (md_0 S) p9 + 1 by rw [md_cnt, if_pos ⟨c46, c57n⟩]]; first | done | rfl) ?_
                refine hr_st (S1 := (md_0 S)) rfl ?_
                exact ih (p9 + 1)  (by omega) (by omega)
      refine hr_sub [2, 3, 1, 0] rfl ?_
      refine hr_lve (lv2 := [(0, .ref (hr_ad E 14 0)), (1, .int w9), (2, .int (nI (md_cnt (md_0 S) 0))), (3, .int (nI 0))]) rfl ?_
      refine hr_st (S1 := (md_0 S)) rfl ?_
      exact LP33 (64 + 1) 0  (by omega) (by omega)
    · skip
      have c24 := hr_bn.mp c24
      have c24 : False := c24
      exact c24.elim
  · skip
    have c12 := hr_bz.mp c12
    have c12 : ¬ (0 ≤ w9 ∧ w9 ≤ 5) := c12
    refine hr_iconst (v := 1) C dX4_count_15 (by decide) ?_
    refine hr_goto C 20 dX4_count_16 (by decide) ?_
    refine hr_iconst (v := 1) C dX4_count_20 (by decide) ?_
    refine hr_cVi C (ct_X4_refuses1 l E (md_0 S) o 1 (md_0_0 S) (by decide)) (cwV 2 C.1.2.2.2.2 (hr_gV kM_X4_123 kI_X4_refuses kS_X4_refuses kN_X4 kC_X4_refuses) rfl rfl rfl (by decide +kernel) ⟨Nat.le_of_ble_eq_true rfl, Nat.le_of_ble_eq_true rfl⟩) (by decide) rfl rfl rfl (Nat.le_of_ble_eq_true rfl) dX4_count_21 ⟨Nat.le_of_ble_eq_true rfl, Nat.le_of_ble_eq_true rfl⟩ (fun r7 S8 h9 => ?_) rfl
    refine hr_tp h9.1 ?_
    refine hr_st (S1 := (hr_w (md_0 S) 14 0 0 1)) h9.2 ?_
    refine hr_if_eq C 29 dX4_count_24 (by decide) (fun c24 => ?_) (fun c24 => ?_)
    · skip
      have c24 := hr_bz.mp c24
      have c24 : ¬ (True) := c24
      exact (c24 trivial).elim
    · skip
      have c24 := hr_bn.mp c24
      have c24 : True := c24
      refine hr_iconst (v := 0) C dX4_count_27 (by decide) ?_
      exact hr_iret C hr dX4_count_28 (Or.inl ⟨fun h => c12 ((nb_in (N := 5) rfl (by decide)).mpr h), rfl⟩)
