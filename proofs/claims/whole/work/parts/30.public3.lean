theorem cl_sd_at {S : hr_S} {d h9 at9 : Nat} (h : at9 = d) (hh : h9 ≤ 16) : cl_sd S d (16 - h9) at9 = nI h9 := by
  cases e : 16 - h9 with
  | zero =>
    have : h9 = 16 := by omega
    subst this
    unfold cl_sd
    rw [if_pos h]; rfl
  | succ f =>
    unfold cl_sd
    rw [if_pos h, show 16 - (f + 1) = h9 by omega]
theorem cl_sd_16 {S : hr_S} {d h9 at9 : Nat} (h : ¬ at9 = d) (hh : 16 ≤ h9) : cl_sd S d (16 - h9) at9 = -3 := by
  rw [show 16 - h9 = 0 by omega]
  unfold cl_sd
  rw [if_neg h]
theorem cl_sd_go {S : hr_S} {d h9 at9 : Nat} (h : ¬ at9 = d) (hh : h9 < 16) : cl_sd S d (16 - h9) at9 = if (¬ S 9 at9 d = -1) ∧ S 9 at9 d < 16 then (if ¬ S 1 0 (at9 * 8 + un (S 10 at9 d)) = 0 then cl_sd S d (16 - (h9 + 1)) (un (S 10 at9 d)) else -2) else -1 := by
  rw [show 16 - h9 = (16 - (h9 + 1)) + 1 by omega, cl_sd, if_neg h]
set_option maxHeartbeats 4000000 in
set_option maxRecDepth 100000 in
theorem ct_X3_send (l : Launch) (htr : l.stackTraces = false) (E : hr_E) (S : hr_S) (o : Int64) (a b : Int32) (hI : hr_CI S) : hr_Xi l E yX3_send (Cond.code yX3_send cX3_send 7 (some .int) :: hr_W) ({ frames := 7, cells := 2, slots := 12, locals := 110 } : Room) [.ref (hr_ad E 0 0), .int a, .int b] S o (fun r u => (r = cl_sd S (un b) 16 (un a) ∧ u = S) ∧ nb a 8 ∧ nb b 8) (fun X => X = "java/lang/IndexOutOfBoundsException" ∧ ¬ (nb a 8 ∧ nb b 8)) 2 12 := by
  refine hr_ofX (by decide) (Nat.le_of_ble_eq_true rfl) (fun p e s m below meth c C hr htab => ?_)
  refine hr_iload_n C dX3_send_0 rfl 1 rfl ?_
  refine hr_xSv C htab (ct_X3_checkRouter l htr E S o a) (cwS 1 C.1.2.2.2.2 (hr_gS kM_X3_60 kT_X3_checkRouter kN_X3 kC_X3_checkRouter) rfl rfl rfl (by decide +kernel) ⟨Nat.le_of_ble_eq_true rfl, Nat.le_of_ble_eq_true rfl⟩) rfl (Nat.le_of_ble_eq_true rfl) dX3_send_1 ⟨Nat.le_of_ble_eq_true rfl, Nat.le_of_ble_eq_true rfl⟩ ⟨Nat.le_of_ble_eq_true rfl, Nat.le_of_ble_eq_true rfl⟩ (fun X h => ⟨h.1, fun z => h.2 z.1⟩) (fun S2 h3 => ?_) rfl
  obtain ⟨h3, fA⟩ := h3
  refine hr_st (S1 := S) h3 ?_
  refine hr_iload_n C dX3_send_4 rfl 2 rfl ?_
  refine hr_xSv C htab (ct_X3_checkRouter l htr E S o b) (cwS 1 C.1.2.2.2.2 (hr_gS kM_X3_60 kT_X3_checkRouter kN_X3 kC_X3_checkRouter) rfl rfl rfl (by decide +kernel) ⟨Nat.le_of_ble_eq_true rfl, Nat.le_of_ble_eq_true rfl⟩) rfl (Nat.le_of_ble_eq_true rfl) dX3_send_5 ⟨Nat.le_of_ble_eq_true rfl, Nat.le_of_ble_eq_true rfl⟩ ⟨Nat.le_of_ble_eq_true rfl, Nat.le_of_ble_eq_true rfl⟩ (fun X h => ⟨h.1, fun z => h.2 z.2⟩) (fun S5 h6 => ?_) rfl
  obtain ⟨h6, fB⟩ := h6
  refine hr_st (S1 := S) h6 ?_
  have hA := fA.2
  have hB := fB.2
  refine hr_iload_n C dX3_send_8 rfl 1 rfl ?_
  refine hr_tp (y := nI (un a)) fA.1 ?_
  refine hr_istore_n C [(3, .int (nI (un a))), (0, .ref (hr_ad E 0 0)), (1, .int a), (2, .int b)] dX3_send_9 rfl (by decide) rfl ?_
  refine hr_iconst (v := 0) C dX3_send_10 (by decide) ?_
  refine hr_istore C [(4, .int 0), (3, .int (nI (un a))), (0, .ref (hr_ad E 0 0)), (1, .int a), (2, .int b)] dX3_send_11 (by decide) rfl ?_
  have LP : ∀ (n hop at9 : Nat), hop ≤ 16 → 17 ≤ hop + n → at9 < 8 → cl_sd S (un b) (16 - hop) at9 = cl_sd S (un b) 16 (un a) → hr_G p l e ({ frames := 7, cells := 2, slots := 12, locals := 110 } : Room) s m #[.ref (hr_ad E 0 0), .int a, .int b] below meth c (vx_MQ below (va_Qi (fun r u => (r = cl_sd S (un b) 16 (un a) ∧ u = S) ∧ nb a 8 ∧ nb b 8) (fun u t => hr_P E u o t.heap) (hr_A E)) (vx_X (fun _ : Unit => True) (fun X _ t => (fun X => X = "java/lang/IndexOutOfBoundsException" ∧ ¬ (nb a 8 ∧ nb b 8)) X ∧ hr_P E S o t.heap) (hr_A E)) #[.ref (hr_ad E 0 0), .int a, .int b] s 2 12 (hr_A E)) E 7 2 12 S o [(0, .ref (hr_ad E 0 0)), (1, .int a), (2, .int b), (3, .int (nI at9)), (4, .int (nI hop))] 13 [] := by
    intro n
    induction n with
    | zero => intro hop at9 h1 h2; omega
    | succ n ih =>
      intro hop at9 h6 h7 hat hv
      refine hr_iload_n C dX3_send_13 rfl 3 rfl ?_
      refine hr_iload_n C dX3_send_14 rfl 2 rfl ?_
      refine hr_tp (y := nI (un b)) fB.1 ?_
      refine hr_icmp_eq C 75 dX3_send_15 (by decide) (fun c15 => ?_) (fun c15 => ?_)
      · skip
        have c15 : at9 = (un b) := (nI_eq (a := at9) (b := (un b)) (by omega) (by omega)).mp c15
        refine hr_iload_n C dX3_send_75 rfl 3 rfl ?_
        refine hr_iload_n C dX3_send_76 rfl 2 rfl ?_
        refine hr_tp (y := nI (un b)) fB.1 ?_
        refine hr_icmp_ne C 85 dX3_send_77 (by decide) (fun c77 => ?_) (fun c77 => ?_)
        · skip
          have c77 : ¬ at9 = (un b) := fun h => c77 ((nI_eq (a := at9) (b := (un b)) (by omega) (by omega)).mpr h)
          omega
        · skip
          have c77 : at9 = (un b) := (nI_eq (a := at9) (b := (un b)) (by omega) (by omega)).mp c77
          refine hr_iload C dX3_send_80 4 rfl ?_
          refine hr_goto C 87 dX3_send_82 (by decide) ?_
          refine hr_xr ?_ (Nat.le_of_ble_eq_true rfl) (Nat.le_of_ble_eq_true rfl)
          exact hr_iret C hr dX3_send_87 ⟨⟨by rw [← hv, cl_sd_at c77 h6], rfl⟩, fA, fB⟩
      · skip
        have c15 : ¬ at9 = (un b) := fun h => c15 ((nI_eq (a := at9) (b := (un b)) (by omega) (by omega)).mpr h)
        refine hr_iload C dX3_send_18 4 rfl ?_
        refine hr_bipush (v := 16) C dX3_send_20 (by decide) ?_
        refine hr_icmp_ge C 75 dX3_send_22 (by decide) (fun c22 => ?_) (fun c22 => ?_)
        · skip
          have c22 : 16 ≤ hop := (nI_leI (a := 16) (b := hop) (by omega) (by omega)).mp c22
          have c22n : ¬ hop < 16 := Nat.not_lt.mpr c22
          refine hr_iload_n C dX3_send_75 rfl 3 rfl ?_
          refine hr_iload_n C dX3_send_76 rfl 2 rfl ?_
          refine hr_tp (y := nI (un b)) fB.1 ?_
          refine hr_icmp_ne C 85 dX3_send_77 (by decide) (fun c77 => ?_) (fun c77 => ?_)
          · skip
            have c77 : ¬ at9 = (un b) := fun h => c77 ((nI_eq (a := at9) (b := (un b)) (by omega) (by omega)).mpr h)
            refine hr_bipush (v := (-3)) C dX3_send_85 (by decide) ?_
            refine hr_xr ?_ (Nat.le_of_ble_eq_true rfl) (Nat.le_of_ble_eq_true rfl)
            exact hr_iret C hr dX3_send_87 ⟨⟨by rw [← hv, cl_sd_16 c77 (by omega)], rfl⟩, fA, fB⟩
          · skip
            have c77 : at9 = (un b) := (nI_eq (a := at9) (b := (un b)) (by omega) (by omega)).mp c77
            omega
        · skip
          have c22 : ¬ 16 ≤ hop := fun h => c22 ((nI_leI (a := 16) (b := hop) (by omega) (by omega)).mpr h)
          have c22n : hop < 16 := Nat.not_le.mp c22
          refine hr_aload_n C dX3_send_25 rfl 0 rfl ?_
          refine hr_get (k := 0) (i := 0) (fld := 1) C (by decide) rfl rfl (by decide) kU_X3 kF_X3_15 rfl rfl dX3_send_26 ?_
          refine hr_iload_n C dX3_send_29 rfl 3 rfl ?_
          refine hr_aald (k := 2) (i := 0) (t0 := 4) (k2 := 8) at9 C (by decide) rfl rfl rfl (show at9 < 8 by omega) (by decide) dX3_send_30 ?_
          refine hr_astore C [(5, .ref (hr_ad E 8 at9)), (0, .ref (hr_ad E 0 0)), (1, .int a), (2, .int b), (3, .int (nI at9)), (4, .int (nI hop))] dX3_send_31 (by decide) rfl ?_
          refine hr_aload C dX3_send_33 0 rfl ?_
          refine hr_iload_n C dX3_send_35 rfl 3 rfl ?_
          refine hr_tp (y := nI (un b)) fB.1 ?_
          refine hr_cVi C (ct_X2_reaches l E S o at9 (by omega) (un b) (by omega)) (cwV 1 C.1.2.2.2.2 (hr_gV kM_X3_140 kI_X2_reaches kS_X2_reaches kN_X2 kC_X2_reaches) rfl rfl rfl (by decide +kernel) ⟨Nat.le_of_ble_eq_true rfl, Nat.le_of_ble_eq_true rfl⟩) (show at9 < 8 by omega) rfl rfl rfl (Nat.le_of_ble_eq_true rfl) dX3_send_36 ⟨Nat.le_of_ble_eq_true rfl, Nat.le_of_ble_eq_true rfl⟩ (fun r7 S8 h9 => ?_) rfl
          refine hr_tp h9.1 ?_
          refine hr_st (S1 := S) h9.2 ?_
          refine hr_if_ne C 44 dX3_send_39 (by decide) (fun c39 => ?_) (fun c39 => ?_)
          · skip
            have c39 := hr_bn.mp c39
            have c39 : (¬ S 9 at9 (un b) = -1) ∧ S 9 at9 (un b) < 16 := c39
            refine hr_aload C dX3_send_44 0 rfl ?_
            refine hr_get (k := 8) (i := at9) (fld := 1) C (show at9 < 8 by omega) rfl rfl (by decide) kU_X2 kF_X3_143 rfl rfl dX3_send_46 ?_
            refine hr_iload_n C dX3_send_49 rfl 3 rfl ?_
            refine hr_tp (y := nI (un b)) fB.1 ?_
            refine hr_iald (k := 10) (i := at9) (un b) C (show at9 < 8 by omega) rfl rfl (show un b < 8 by omega) (by decide) dX3_send_50 ?_
            refine hr_tp (y := nI (un (S 10 at9 (un b)))) (hI.2.2.2.2.1 at9 (un b) hat hB).1 ?_
            refine hr_istore C [(6, .int (nI (un (S 10 at9 (un b))))), (5, .ref (hr_ad E 8 at9)), (0, .ref (hr_ad E 0 0)), (1, .int a), (2, .int b), (3, .int (nI at9)), (4, .int (nI hop))] dX3_send_51 (by decide) rfl ?_
            refine hr_aload_n C dX3_send_53 rfl 2 rfl ?_
            refine hr_iload_n C dX3_send_54 rfl 5 rfl ?_
            refine hr_iload C dX3_send_55 0 rfl ?_
            refine hr_cVi C (ct_X3_isUp l E S o at9 (un (S 10 at9 (un b))) (by omega) ((hI.2.2.2.2.1 at9 (un b) hat hB).2) (hI.2.2.2.2.2 _ (by have := (hI.2.2.2.2.1 at9 (un b) hat hB).2; omega))) (cwV 2 C.1.2.2.2.2 (hr_gV kM_X3_41 kI_X3_isUp kS_X3_isUp kN_X3 kC_X3_isUp) rfl rfl rfl (by decide +kernel) ⟨Nat.le_of_ble_eq_true rfl, Nat.le_of_ble_eq_true rfl⟩) (by decide) rfl rfl rfl (Nat.le_of_ble_eq_true rfl) dX3_send_57 ⟨Nat.le_of_ble_eq_true rfl, Nat.le_of_ble_eq_true rfl⟩ (fun r10 S11 h12 => ?_) rfl
            refine hr_tp h12.1 ?_
            refine hr_st (S1 := S) h12.2 ?_
            refine hr_if_ne C 66 dX3_send_60 (by decide) (fun c60 => ?_) (fun c60 => ?_)
            · skip
              have c60 := hr_bn.mp c60
              have c60 : ¬ S 1 0 (at9 * 8 + (un (S 10 at9 (un b)))) = 0 := c60
              refine hr_iload C dX3_send_66 0 rfl ?_
              refine hr_istore_n C [(3, .int (nI (un (S 10 at9 (un b))))), (6, .int (nI (un (S 10 at9 (un b))))), (5, .ref (hr_ad E 8 at9)), (0, .ref (hr_ad E 0 0)), (1, .int a), (2, .int b), (4, .int (nI hop))] dX3_send_68 rfl (by decide) rfl ?_
              refine hr_iinc (v := nI (hop + 1)) C [(4, .int (nI (hop + 1))), (3, .int (nI (un (S 10 at9 (un b))))), (6, .int (nI (un (S 10 at9 (un b))))), (5, .ref (hr_ad E 8 at9)), (0, .ref (hr_ad E 0 0)), (1, .int a), (2, .int b)] dX3_send_69 6 rfl (nI_add hop 1) (by decide) rfl ?_
              refine hr_goto C 13 dX3_send_72 (by decide) ?_
              refine hr_sub [4, 5, 6, 1, 0] rfl ?_
              exact ih (hop + 1) (un (S 10 at9 (un b))) (by omega) (by omega) (hI.2.2.2.2.1 at9 (un b) hat hB).2 (by rw [← hv, cl_sd_go c15 c22n, if_pos c39, if_pos c60])
            · skip
              have c60 := hr_bz.mp c60
              have c60 : ¬ (¬ S 1 0 (at9 * 8 + (un (S 10 at9 (un b)))) = 0) := c60
              refine hr_bipush (v := (-2)) C dX3_send_63 (by decide) ?_
              refine hr_xr ?_ (Nat.le_of_ble_eq_true rfl) (Nat.le_of_ble_eq_true rfl)
              exact hr_iret C hr dX3_send_65 ⟨⟨by rw [← hv, cl_sd_go c15 c22n, if_pos c39, if_neg c60], rfl⟩, fA, fB⟩
          · skip
            have c39 := hr_bz.mp c39
            have c39 : ¬ ((¬ S 9 at9 (un b) = -1) ∧ S 9 at9 (un b) < 16) := c39
            refine hr_iconst (v := (-1)) C dX3_send_42 (by decide) ?_
            refine hr_xr ?_ (Nat.le_of_ble_eq_true rfl) (Nat.le_of_ble_eq_true rfl)
            exact hr_iret C hr dX3_send_43 ⟨⟨by rw [← hv, cl_sd_go c15 c22n, if_neg c39], rfl⟩, fA, fB⟩
  refine hr_sub [2, 3, 4, 1, 0] rfl ?_
  exact LP 17 0 (un a) (by omega) (by omega) hA rfl
def cl_count (S : hr_S) (w : Nat) : Int32 := if w = 0 then S 3 0 2 else if w = 1 then S 3 0 4 else if w = 2 then S 3 0 3 else if w = 3 then S 0 0 5 else if w = 4 then S 0 0 6 else S 0 0 7
set_option maxHeartbeats 4000000 in
set_option maxRecDepth 100000 in
theorem ct_X3_count (l : Launch) (htr : l.stackTraces = false) (E : hr_E) (S : hr_S) (o : Int64) (w9 : Int32) : hr_Xi l E yX3_count (Cond.code yX3_count cX3_count 2 (some .int) :: hr_W) ({ frames := 6, cells := 1, slots := 6, locals := 90 } : Room) [.ref (hr_ad E 0 0), .int w9] S o (fun r u => (r = cl_count S (un w9) ∧ u = S) ∧ nb w9 6) (fun X => X = "java/lang/IndexOutOfBoundsException" ∧ ¬ nb w9 6) 1 6 := by
  refine hr_ofX (by decide) (Nat.le_of_ble_eq_true rfl) (fun p e s m below meth c C hr htab => ?_)
  refine hr_iload_n C dX3_count_0 rfl 1 rfl ?_
  by_cases fW : nb w9 6
  · skip
    have hW := fW.2
    rcases (show un w9 = 0 ∨ un w9 = 1 ∨ un w9 = 2 ∨ un w9 = 3 ∨ un w9 = 4 ∨ un w9 = 5 by omega) with e9 | e9 | e9 | e9 | e9 | e9
    · skip
      refine hr_tp (y := nI 0) (nb_eq fW e9) ?_
      refine hr_tabIn C 40 dX3_count_1 (by decide) (by decide) rfl (by decide) ?_
      refine hr_aload_n C dX3_count_40 rfl 0 rfl ?_
      refine hr_get (k := 0) (i := 0) (fld := 2) C (by decide) rfl rfl (by decide) kU_X3 kF_X3_22 rfl rfl dX3_count_41 ?_
      refine hr_get (k := 3) (i := 0) (fld := 2) C (by decide) rfl rfl (by decide) kU_X0 kF_X3_79 rfl rfl dX3_count_44 ?_
      refine hr_xr ?_ (Nat.le_of_ble_eq_true rfl) (Nat.le_of_ble_eq_true rfl)
      exact hr_iret C hr dX3_count_47 ⟨⟨by unfold cl_count; rw [e9]; rfl, rfl⟩, fW⟩
    · skip
      refine hr_tp (y := nI 1) (nb_eq fW e9) ?_
      refine hr_tabIn C 48 dX3_count_1 (by decide) (by decide) rfl (by decide) ?_
      refine hr_aload_n C dX3_count_48 rfl 0 rfl ?_
      refine hr_get (k := 0) (i := 0) (fld := 2) C (by decide) rfl rfl (by decide) kU_X3 kF_X3_22 rfl rfl dX3_count_49 ?_
      refine hr_get (k := 3) (i := 0) (fld := 4) C (by decide) rfl rfl (by decide) kU_X0 kF_X3_147 rfl rfl dX3_count_52 ?_
      refine hr_xr ?_ (Nat.le_of_ble_eq_true rfl) (Nat.le_of_ble_eq_true rfl)
      exact hr_iret C hr dX3_count_55 ⟨⟨by unfold cl_count; rw [e9]; rfl, rfl⟩, fW⟩
    · skip
      refine hr_tp (y := nI 2) (nb_eq fW e9) ?_
      refine hr_tabIn C 56 dX3_count_1 (by decide) (by decide) rfl (by decide) ?_
      refine hr_aload_n C dX3_count_56 rfl 0 rfl ?_
      refine hr_get (k := 0) (i := 0) (fld := 2) C (by decide) rfl rfl (by decide) kU_X3 kF_X3_22 rfl rfl dX3_count_57 ?_
      refine hr_get (k := 3) (i := 0) (fld := 3) C (by decide) rfl rfl (by decide) kU_X0 kF_X3_150 rfl rfl dX3_count_60 ?_
      refine hr_xr ?_ (Nat.le_of_ble_eq_true rfl) (Nat.le_of_ble_eq_true rfl)
      exact hr_iret C hr dX3_count_63 ⟨⟨by unfold cl_count; rw [e9]; rfl, rfl⟩, fW⟩
    · skip
      refine hr_tp (y := nI 3) (nb_eq fW e9) ?_
      refine hr_tabIn C 64 dX3_count_1 (by decide) (by decide) rfl (by decide) ?_
      refine hr_aload_n C dX3_count_64 rfl 0 rfl ?_
      refine hr_get (k := 0) (i := 0) (fld := 5) C (by decide) rfl rfl (by decide) kU_X3 kF_X3_153 rfl rfl dX3_count_65 ?_
      refine hr_xr ?_ (Nat.le_of_ble_eq_true rfl) (Nat.le_of_ble_eq_true rfl)
      exact hr_iret C hr dX3_count_68 ⟨⟨by unfold cl_count; rw [e9]; rfl, rfl⟩, fW⟩
    · skip
      refine hr_tp (y := nI 4) (nb_eq fW e9) ?_
      refine hr_tabIn C 69 dX3_count_1 (by decide) (by decide) rfl (by decide) ?_
      refine hr_aload_n C dX3_count_69 rfl 0 rfl ?_
      refine hr_get (k := 0) (i := 0) (fld := 6) C (by decide) rfl rfl (by decide) kU_X3 kF_X3_45 rfl rfl dX3_count_70 ?_
      refine hr_xr ?_ (Nat.le_of_ble_eq_true rfl) (Nat.le_of_ble_eq_true rfl)
      exact hr_iret C hr dX3_count_73 ⟨⟨by unfold cl_count; rw [e9]; rfl, rfl⟩, fW⟩
    · skip
      refine hr_tp (y := nI 5) (nb_eq fW e9) ?_
      refine hr_tabIn C 74 dX3_count_1 (by decide) (by decide) rfl (by decide) ?_
      refine hr_aload_n C dX3_count_74 rfl 0 rfl ?_
      refine hr_get (k := 0) (i := 0) (fld := 7) C (by decide) rfl rfl (by decide) kU_X3 kF_X3_156 rfl rfl dX3_count_75 ?_
      refine hr_xr ?_ (Nat.le_of_ble_eq_true rfl) (Nat.le_of_ble_eq_true rfl)
      exact hr_iret C hr dX3_count_78 ⟨⟨by unfold cl_count; rw [e9]; rfl, rfl⟩, fW⟩
  · skip
    refine hr_tabOut C 79 dX3_count_1 (nb_out fW (by decide)) (by decide) ?_
    exact hr_throw (text := "no such what") C htr htab (by decide) ⟨rfl, fW⟩ kL_X3_131 kN_IndexOutOfBoundsException (by decide) (hr_at_135 C) hr_good_135 dX3_count_79 dX3_count_82 dX3_count_83 dX3_count_85 dX3_count_88 (Nat.le_of_ble_eq_true rfl) (Nat.le_of_ble_eq_true rfl) (Nat.le_of_ble_eq_true rfl) (Nat.le_of_ble_eq_true rfl) (Nat.le_of_ble_eq_true rfl) (Nat.le_of_ble_eq_true rfl) rfl
