set_option maxHeartbeats 4000000 in
set_option maxRecDepth 100000 in
theorem ct_X4_turnRouter (l : Launch) (E : hr_E) (S : hr_S) (o : Int64) (r9 : Nat) (hr9 : r9 < 8) (hI : hr_MI S) : hr_Mv l E yX4_turnRouter (Cond.code yX4_turnRouter cX4_turnRouter 5 none :: hr_W) ({ frames := 3, cells := 0, slots := 0, locals := 72 } : Room) [.ref (hr_ad E 14 0), .int (nI r9)] S o (fun u => u = md_tr S r9) := by
  refine hr_of (by decide) (Nat.le_of_ble_eq_true rfl) (fun p e s m below meth c C hr => ?_)
  refine hr_iconst (v := 0) C dX4_turnRouter_0 (by decide) ?_
  refine hr_istore_n C [(2, .int 0), (0, .ref (hr_ad E 14 0)), (1, .int (nI r9))] dX4_turnRouter_1 rfl (by decide) rfl ?_
  refine hr_iconst (v := 0) C dX4_turnRouter_2 (by decide) ?_
  refine hr_istore_n C [(3, .int 0), (2, .int 0), (0, .ref (hr_ad E 14 0)), (1, .int (nI r9))] dX4_turnRouter_3 rfl (by decide) rfl ?_
  have LP4 : ∀ (n1 d : Nat) , d ≤ 8 → 8 + 1 ≤ d + n1 → hr_G p l e ({ frames := 3, cells := 0, slots := 0, locals := 72 } : Room) s m #[.ref (hr_ad E 14 0), .int (nI r9)] below meth c (MQ below (va_Qv (fun u => u = md_tr S r9) (fun u t => hr_P E u o t.heap) (hr_A E)) #[.ref (hr_ad E 14 0), .int (nI r9)] s 0 0 (hr_A E)) E 5 0 0 S o [(0, .ref (hr_ad E 14 0)), (1, .int (nI r9)), (2, .int (if md_some S r9 d = true then 1 else 0)), (3, .int (nI d))] 4 [] := by
    intro n1
    induction n1 with
    | zero => intro d  h1 h2; omega
    | succ n1 ihA =>
      intro d  hv1 hv2
      refine hr_iload_n C dX4_turnRouter_4 rfl 3 rfl ?_
      refine hr_bipush (v := 8) C dX4_turnRouter_5 (by decide) ?_
      refine hr_icmp_ge C 54 dX4_turnRouter_7 (by decide) (fun c7 => ?_) (fun c7 => ?_)
      · skip
        have c7 : 8 ≤ d := (nI_leI (a := 8) (b := d) (by omega) (by omega)).mp c7
        have c7n : ¬ d < 8 := Nat.not_lt.mpr c7
        have e8 : d = 8 := (by omega)
        subst e8
        refine hr_aload_n C dX4_turnRouter_54 rfl 0 rfl ?_
        refine hr_get (k := 14) (i := 0) (fld := 1) C (by decide) rfl rfl (by decide) kU_X4 kF_X4_114 rfl rfl dX4_turnRouter_55 ?_
        refine hr_iload_n C dX4_turnRouter_58 rfl 1 rfl ?_
        refine hr_iadd C dX4_turnRouter_59 rfl ?_
        refine hr_bipush (v := 10) C dX4_turnRouter_60 (by decide) ?_
        refine hr_irem C dX4_turnRouter_62 (by decide) rfl ?_
        refine hr_if_ne C 70 dX4_turnRouter_63 (by decide) (fun c63 => ?_) (fun c63 => ?_)
        · skip
          refine hr_iconst (v := 0) C dX4_turnRouter_70 (by decide) ?_
          refine hr_istore_n C [(3, .int 0), (0, .ref (hr_ad E 14 0)), (1, .int (nI r9)), (2, .int (if md_some S r9 8 = true then 1 else 0))] dX4_turnRouter_71 rfl (by decide) rfl ?_
          by_cases hs : md_some S r9 8 = true
          · skip
            refine hr_iconst (v := 0) C dX4_turnRouter_72 (by decide) ?_
            refine hr_istore C [(4, .int 0), (3, .int 0), (0, .ref (hr_ad E 14 0)), (1, .int (nI r9)), (2, .int (if md_some S r9 8 = true then 1 else 0))] dX4_turnRouter_73 (by decide) rfl ?_
            have LP75 : ∀ (n2 x9 : Nat) , x9 ≤ 8 → 8 + 1 ≤ x9 + n2 → hr_G p l e ({ frames := 3, cells := 0, slots := 0, locals := 72 } : Room) s m #[.ref (hr_ad E 14 0), .int (nI r9)] below meth c (MQ below (va_Qv (fun u => u = md_tr S r9) (fun u t => hr_P E u o t.heap) (hr_A E)) #[.ref (hr_ad E 14 0), .int (nI r9)] s 0 0 (hr_A E)) E 5 0 0 (md_trL S r9 0 x9) o [(0, .ref (hr_ad E 14 0)), (1, .int (nI r9)), (2, .int (if md_some S r9 8 = true then 1 else 0)), (3, .int 0), (4, .int (nI x9))] 75 [] := by
              intro n2
              induction n2 with
              | zero => intro x9  h1 h2; omega
              | succ n2 ihB =>
                intro x9  hv1 hv2
                refine hr_iload C dX4_turnRouter_75 4 rfl ?_
                refine hr_bipush (v := 8) C dX4_turnRouter_77 (by decide) ?_
                refine hr_icmp_ge C 120 dX4_turnRouter_79 (by decide) (fun c79 => ?_) (fun c79 => ?_)
                · skip
                  have c79 : 8 ≤ x9 := (nI_leI (a := 8) (b := x9) (by omega) (by omega)).mp c79
                  have c79n : ¬ x9 < 8 := Nat.not_lt.mpr c79
                  refine hr_st (S1 := md_trL S r9 0 8) (by rw [show x9 = 8 by omega]) ?_
                  refine hr_iconst (v := 0) C dX4_turnRouter_120 (by decide) ?_
                  refine hr_istore C [(4, .int 0), (0, .ref (hr_ad E 14 0)), (1, .int (nI r9)), (2, .int (if md_some S r9 8 = true then 1 else 0)), (3, .int 0)] dX4_turnRouter_121 (by decide) rfl ?_
                  have LP123 : ∀ (n3 d9 : Nat) , d9 ≤ 8 → 8 + 1 ≤ d9 + n3 → hr_G p l e ({ frames := 3, cells := 0, slots := 0, locals := 72 } : Room) s m #[.ref (hr_ad E 14 0), .int (nI r9)] below meth c (MQ below (va_Qv (fun u => u = md_tr S r9) (fun u t => hr_P E u o t.heap) (hr_A E)) #[.ref (hr_ad E 14 0), .int (nI r9)] s 0 0 (hr_A E)) E 5 0 0 (md_clr (md_trL S r9 0 8) r9 d9) o [(0, .ref (hr_ad E 14 0)), (1, .int (nI r9)), (4, .int (nI d9))] 123 [] := by
                    intro n3
                    induction n3 with
                    | zero => intro d9  h1 h2; omega
                    | succ n3 ihC =>
                      intro d9  hv1 hv2
                      refine hr_iload C dX4_turnRouter_123 2 rfl ?_
                      refine hr_bipush (v := 8) C dX4_turnRouter_125 (by decide) ?_
                      refine hr_icmp_ge C 149 dX4_turnRouter_127 (by decide) (fun c127 => ?_) (fun c127 => ?_)
                      · skip
                        have c127 : 8 ≤ d9 := (nI_leI (a := 8) (b := d9) (by omega) (by omega)).mp c127
                        have c127n : ¬ d9 < 8 := Nat.not_lt.mpr c127
                        exact hr_vret C hr dX4_turnRouter_149 (by unfold md_tr; rw [if_neg (show ¬ md_ten S r9 = 0 from c63), if_pos hs]; rw [show d9 = 8 by omega])
                      · skip
                        have c127 : ¬ 8 ≤ d9 := fun h => c127 ((nI_leI (a := 8) (b := d9) (by omega) (by omega)).mpr h)
                        have c127n : d9 < 8 := Nat.not_le.mp c127
                        refine hr_aload_n C dX4_turnRouter_130 rfl 0 rfl ?_
                        refine hr_get (k := 14) (i := 0) (fld := 9) C (by decide) rfl rfl (by decide) kU_X4 kF_X4_23 rfl rfl dX4_turnRouter_131 ?_
                        refine hr_bipush (v := 8) C dX4_turnRouter_134 (by decide) ?_
                        refine hr_iload_n C dX4_turnRouter_136 rfl 1 rfl ?_
                        refine hr_imul (v := nI (8 * r9)) C dX4_turnRouter_137 (pk_mul 8 r9) ?_
                        refine hr_iload C dX4_turnRouter_138 2 rfl ?_
                        refine hr_iadd (v := nI ((8 * r9) + d9)) C dX4_turnRouter_140 (nI_add (8 * r9) d9) ?_
                        refine hr_iconst (v := 0) C dX4_turnRouter_141 (by decide) ?_
                        refine hr_zast (k := 19) (i := 0) ((8 * r9) + d9) C (by decide) rfl rfl (show (8 * r9) + d9 < 64 by omega) (by decide) (by simp [hr_cell, hr_wA]) rfl dX4_turnRouter_142 ?_
                        refine hr_iinc (v := nI (d9 + 1)) C [(4, .int (nI (d9 + 1))), (0, .ref (hr_ad E 14 0)), (1, .int (nI r9))] dX4_turnRouter_143 2 rfl (nI_add d9 1) (by decide) rfl ?_
                        refine hr_goto C 123 dX4_turnRouter_146 (by decide) ?_
                        refine hr_sub [1, 2, 0] rfl ?_
                        refine hr_st (S1 := md_clr (md_trL S r9 0 8) r9 (d9 + 1)) rfl ?_
                        exact ihC (d9 + 1)  (by omega) (by omega)
                  refine hr_sub [1, 2, 0] rfl ?_
                  refine hr_st (S1 := md_clr (md_trL S r9 0 8) r9 0) rfl ?_
                  exact LP123 (8 + 1) 0  (by omega) (by omega)
                · skip
                  have c79 : ¬ 8 ≤ x9 := fun h => c79 ((nI_leI (a := 8) (b := x9) (by omega) (by omega)).mpr h)
                  have c79n : x9 < 8 := Nat.not_le.mp c79
                  refine hr_iload_n C dX4_turnRouter_82 rfl 3 rfl ?_
                  refine hr_if_ne C 90 dX4_turnRouter_83 (by decide) (fun c83 => ?_) (fun c83 => ?_)
                  · skip
                    exact absurd c83 (by decide)
                  · skip
                    have c83 : 0 = 0 := (nI_eq (a := 0) (b := 0) (by omega) (by omega)).mp c83
                    refine hr_iload_n C dX4_turnRouter_86 rfl 2 rfl ?_
                    refine hr_if_eq C 120 dX4_turnRouter_87 (by decide) (fun c87 => ?_) (fun c87 => ?_)
                    · skip
                      have c87 := hr_bz.mp c87
                      have c87 : ¬ (md_some S r9 8 = true) := c87
                      exact absurd hs c87
                    · skip
                      have c87 := hr_bn.mp c87
                      have c87 : md_some S r9 8 = true := c87
                      refine hr_aload_n C dX4_turnRouter_90 rfl 0 rfl ?_
                      refine hr_get (k := 14) (i := 0) (fld := 5) C (by decide) rfl rfl (by decide) kU_X4 kF_X4_7 rfl rfl dX4_turnRouter_91 ?_
                      refine hr_bipush (v := 8) C dX4_turnRouter_94 (by decide) ?_
                      refine hr_iload_n C dX4_turnRouter_96 rfl 1 rfl ?_
                      refine hr_imul (v := nI (8 * r9)) C dX4_turnRouter_97 (pk_mul 8 r9) ?_
                      refine hr_iload C dX4_turnRouter_98 4 rfl ?_
                      refine hr_iadd (v := nI ((8 * r9) + x9)) C dX4_turnRouter_100 (nI_add (8 * r9) x9) ?_
                      refine hr_zald (k := 15) (i := 0) ((8 * r9) + x9) C (by decide) rfl rfl (show (8 * r9) + x9 < 64 by omega) (by decide) dX4_turnRouter_101 ?_
                      refine hr_if_eq C 114 dX4_turnRouter_102 (by decide) (fun c102 => ?_) (fun c102 => ?_)
                      · skip
                        refine hr_iinc (v := nI (x9 + 1)) C [(4, .int (nI (x9 + 1))), (0, .ref (hr_ad E 14 0)), (1, .int (nI r9)), (2, .int (if md_some S r9 8 = true then 1 else 0)), (3, .int 0)] dX4_turnRouter_114 4 rfl (nI_add x9 1) (by decide) rfl ?_
                        refine hr_goto C 75 dX4_turnRouter_117 (by decide) ?_
                        refine hr_sub [1, 2, 3, 4, 0] rfl ?_
                        refine hr_st (S1 := md_trL S r9 0 (x9 + 1)) (by rw [md_trL, if_neg (not_not_intro c102)]) ?_
                        exact ihB (x9 + 1)  (by omega) (by omega)
                      · skip
                        refine hr_aload_n C dX4_turnRouter_105 rfl 0 rfl ?_
                        refine hr_iload_n C dX4_turnRouter_106 rfl 1 rfl ?_
                        refine hr_iload C dX4_turnRouter_107 4 rfl ?_
                        refine hr_iload_n C dX4_turnRouter_109 rfl 3 rfl ?_
                        refine hr_iload_n C dX4_turnRouter_110 rfl 3 rfl ?_
                        refine hr_cVv C (ct_X4_tell l E (md_trL S r9 0 x9) o r9 (by omega) (nI x9) 0 0 (MI_trL hI hr9 x9 (by omega)) (nb_nI (show x9 < 8 by omega) (by decide))) (cwV 4 C.1.2.2.2.2 (hr_gV kM_X4_93 kI_X4_tell kS_X4_tell kN_X4 kC_X4_tell) rfl rfl rfl (by decide +kernel) ⟨Nat.le_of_ble_eq_true rfl, Nat.le_of_ble_eq_true rfl⟩) (by decide) rfl rfl rfl (Nat.le_of_ble_eq_true rfl) dX4_turnRouter_111 ⟨Nat.le_of_ble_eq_true rfl, Nat.le_of_ble_eq_true rfl⟩ (fun S2 h3 => ?_) rfl
                        refine hr_st (S1 := (md_tell (md_trL S r9 0 x9) r9 (nI x9) 0 0)) h3 ?_
                        refine hr_iinc (v := nI (x9 + 1)) C [(4, .int (nI (x9 + 1))), (0, .ref (hr_ad E 14 0)), (1, .int (nI r9)), (2, .int (if md_some S r9 8 = true then 1 else 0)), (3, .int 0)] dX4_turnRouter_114 4 rfl (nI_add x9 1) (by decide) rfl ?_
                        refine hr_goto C 75 dX4_turnRouter_117 (by decide) ?_
                        refine hr_sub [1, 2, 3, 4, 0] rfl ?_
                        refine hr_st (S1 := md_trL S r9 0 (x9 + 1)) (by rw [md_trL, if_pos c102]) ?_
                        exact ihB (x9 + 1)  (by omega) (by omega)
            refine hr_sub [2, 3, 4, 1, 0] rfl ?_
            refine hr_st (S1 := md_trL S r9 0 0) rfl ?_
            exact LP75 (8 + 1) 0  (by omega) (by omega)
          · skip
            refine hr_iconst (v := 0) C dX4_turnRouter_72 (by decide) ?_
            refine hr_istore C [(4, .int 0), (3, .int 0), (0, .ref (hr_ad E 14 0)), (1, .int (nI r9)), (2, .int (if md_some S r9 8 = true then 1 else 0))] dX4_turnRouter_73 (by decide) rfl ?_
            refine hr_iload C dX4_turnRouter_75 0 rfl ?_
            refine hr_bipush (v := 8) C dX4_turnRouter_77 (by decide) ?_
            refine hr_icmp_ge C 120 dX4_turnRouter_79 (by decide) (fun c79 => ?_) (fun c79 => ?_)
            · skip
              exact absurd c79 (by decide)
            · skip
              have c79 : ¬ 8 ≤ 0 := fun h => c79 ((nI_leI (a := 8) (b := 0) (by omega) (by omega)).mpr h)
              have c79n : 0 < 8 := Nat.not_le.mp c79
              refine hr_iload_n C dX4_turnRouter_82 rfl 1 rfl ?_
              refine hr_if_ne C 90 dX4_turnRouter_83 (by decide) (fun c83 => ?_) (fun c83 => ?_)
              · skip
                exact absurd c83 (by decide)
              · skip
                have c83 : 0 = 0 := (nI_eq (a := 0) (b := 0) (by omega) (by omega)).mp c83
                refine hr_iload_n C dX4_turnRouter_86 rfl 4 rfl ?_
                refine hr_if_eq C 120 dX4_turnRouter_87 (by decide) (fun c87 => ?_) (fun c87 => ?_)
                · skip
                  have c87 := hr_bz.mp c87
                  have c87 : ¬ (md_some S r9 8 = true) := c87
                  refine hr_iconst (v := 0) C dX4_turnRouter_120 (by decide) ?_
                  refine hr_istore C [(4, .int 0), (3, .int 0), (0, .ref (hr_ad E 14 0)), (1, .int (nI r9)), (2, .int (if md_some S r9 8 = true then 1 else 0))] dX4_turnRouter_121 (by decide) rfl ?_
                  have LP123 : ∀ (n3 d9 : Nat) , d9 ≤ 8 → 8 + 1 ≤ d9 + n3 → hr_G p l e ({ frames := 3, cells := 0, slots := 0, locals := 72 } : Room) s m #[.ref (hr_ad E 14 0), .int (nI r9)] below meth c (MQ below (va_Qv (fun u => u = md_tr S r9) (fun u t => hr_P E u o t.heap) (hr_A E)) #[.ref (hr_ad E 14 0), .int (nI r9)] s 0 0 (hr_A E)) E 5 0 0 (md_clr S r9 d9) o [(0, .ref (hr_ad E 14 0)), (1, .int (nI r9)), (4, .int (nI d9))] 123 [] := by
                    intro n3
                    induction n3 with
                    | zero => intro d9  h1 h2; omega
                    | succ n3 ihC =>
                      intro d9  hv1 hv2
                      refine hr_iload C dX4_turnRouter_123 2 rfl ?_
                      refine hr_bipush (v := 8) C dX4_turnRouter_125 (by decide) ?_
                      refine hr_icmp_ge C 149 dX4_turnRouter_127 (by decide) (fun c127 => ?_) (fun c127 => ?_)
                      · skip
                        have c127 : 8 ≤ d9 := (nI_leI (a := 8) (b := d9) (by omega) (by omega)).mp c127
                        have c127n : ¬ d9 < 8 := Nat.not_lt.mpr c127
                        exact hr_vret C hr dX4_turnRouter_149 (by unfold md_tr; rw [if_neg (show ¬ md_ten S r9 = 0 from c63), if_neg hs]; rw [show d9 = 8 by omega])
                      · skip
                        have c127 : ¬ 8 ≤ d9 := fun h => c127 ((nI_leI (a := 8) (b := d9) (by omega) (by omega)).mpr h)
                        have c127n : d9 < 8 := Nat.not_le.mp c127
                        refine hr_aload_n C dX4_turnRouter_130 rfl 0 rfl ?_
                        refine hr_get (k := 14) (i := 0) (fld := 9) C (by decide) rfl rfl (by decide) kU_X4 kF_X4_23 rfl rfl dX4_turnRouter_131 ?_
                        refine hr_bipush (v := 8) C dX4_turnRouter_134 (by decide) ?_
                        refine hr_iload_n C dX4_turnRouter_136 rfl 1 rfl ?_
                        refine hr_imul (v := nI (8 * r9)) C dX4_turnRouter_137 (pk_mul 8 r9) ?_
                        refine hr_iload C dX4_turnRouter_138 2 rfl ?_
                        refine hr_iadd (v := nI ((8 * r9) + d9)) C dX4_turnRouter_140 (nI_add (8 * r9) d9) ?_
                        refine hr_iconst (v := 0) C dX4_turnRouter_141 (by decide) ?_
                        refine hr_zast (k := 19) (i := 0) ((8 * r9) + d9) C (by decide) rfl rfl (show (8 * r9) + d9 < 64 by omega) (by decide) (by simp [hr_cell, hr_wA]) rfl dX4_turnRouter_142 ?_
                        refine hr_iinc (v := nI (d9 + 1)) C [(4, .int (nI (d9 + 1))), (0, .ref (hr_ad E 14 0)), (1, .int (nI r9))] dX4_turnRouter_143 2 rfl (nI_add d9 1) (by decide) rfl ?_
                        refine hr_goto C 123 dX4_turnRouter_146 (by decide) ?_
                        refine hr_sub [1, 2, 0] rfl ?_
                        refine hr_st (S1 := md_clr S r9 (d9 + 1)) rfl ?_
                        exact ihC (d9 + 1)  (by omega) (by omega)
                  refine hr_sub [2, 3, 0] rfl ?_
                  refine hr_st (S1 := md_clr S r9 0) rfl ?_
                  exact LP123 (8 + 1) 0  (by omega) (by omega)
                · skip
                  have c87 := hr_bn.mp c87
                  have c87 : md_some S r9 8 = true := c87
                  exact absurd c87 hs
        · skip
          refine hr_iconst (v := 1) C dX4_turnRouter_66 (by decide) ?_
          refine hr_goto C 71 dX4_turnRouter_67 (by decide) ?_
          refine hr_istore_n C [(3, .int 1), (0, .ref (hr_ad E 14 0)), (1, .int (nI r9)), (2, .int (if md_some S r9 8 = true then 1 else 0))] dX4_turnRouter_71 rfl (by decide) rfl ?_
          refine hr_iconst (v := 0) C dX4_turnRouter_72 (by decide) ?_
          refine hr_istore C [(4, .int 0), (3, .int 1), (0, .ref (hr_ad E 14 0)), (1, .int (nI r9)), (2, .int (if md_some S r9 8 = true then 1 else 0))] dX4_turnRouter_73 (by decide) rfl ?_
          have LP75 : ∀ (n2 x9 : Nat) , x9 ≤ 8 → 8 + 1 ≤ x9 + n2 → hr_G p l e ({ frames := 3, cells := 0, slots := 0, locals := 72 } : Room) s m #[.ref (hr_ad E 14 0), .int (nI r9)] below meth c (MQ below (va_Qv (fun u => u = md_tr S r9) (fun u t => hr_P E u o t.heap) (hr_A E)) #[.ref (hr_ad E 14 0), .int (nI r9)] s 0 0 (hr_A E)) E 5 0 0 (md_trL S r9 1 x9) o [(0, .ref (hr_ad E 14 0)), (1, .int (nI r9)), (2, .int (if md_some S r9 8 = true then 1 else 0)), (3, .int 1), (4, .int (nI x9))] 75 [] := by
            intro n2
            induction n2 with
            | zero => intro x9  h1 h2; omega
            | succ n2 ihB =>
              intro x9  hv1 hv2
              refine hr_iload C dX4_turnRouter_75 4 rfl ?_
              refine hr_bipush (v := 8) C dX4_turnRouter_77 (by decide) ?_
              refine hr_icmp_ge C 120 dX4_turnRouter_79 (by decide) (fun c79 => ?_) (fun c79 => ?_)
              · skip
                have c79 : 8 ≤ x9 := (nI_leI (a := 8) (b := x9) (by omega) (by omega)).mp c79
                have c79n : ¬ x9 < 8 := Nat.not_lt.mpr c79
                refine hr_st (S1 := md_trL S r9 1 8) (by rw [show x9 = 8 by omega]) ?_
                refine hr_iconst (v := 0) C dX4_turnRouter_120 (by decide) ?_
                refine hr_istore C [(4, .int 0), (0, .ref (hr_ad E 14 0)), (1, .int (nI r9)), (2, .int (if md_some S r9 8 = true then 1 else 0)), (3, .int 1)] dX4_turnRouter_121 (by decide) rfl ?_
                have LP123 : ∀ (n3 d9 : Nat) , d9 ≤ 8 → 8 + 1 ≤ d9 + n3 → hr_G p l e ({ frames := 3, cells := 0, slots := 0, locals := 72 } : Room) s m #[.ref (hr_ad E 14 0), .int (nI r9)] below meth c (MQ below (va_Qv (fun u => u = md_tr S r9) (fun u t => hr_P E u o t.heap) (hr_A E)) #[.ref (hr_ad E 14 0), .int (nI r9)] s 0 0 (hr_A E)) E 5 0 0 (md_clr (md_trL S r9 1 8) r9 d9) o [(0, .ref (hr_ad E 14 0)), (1, .int (nI r9)), (4, .int (nI d9))] 123 [] := by
                  intro n3
                  induction n3 with
                  | zero => intro d9  h1 h2; omega
                  | succ n3 ihC =>
                    intro d9  hv1 hv2
                    refine hr_iload C dX4_turnRouter_123 2 rfl ?_
                    refine hr_bipush (v := 8) C dX4_turnRouter_125 (by decide) ?_
                    refine hr_icmp_ge C 149 dX4_turnRouter_127 (by decide) (fun c127 => ?_) (fun c127 => ?_)
                    · skip
                      have c127 : 8 ≤ d9 := (nI_leI (a := 8) (b := d9) (by omega) (by omega)).mp c127
                      have c127n : ¬ d9 < 8 := Nat.not_lt.mpr c127
                      exact hr_vret C hr dX4_turnRouter_149 (by unfold md_tr; rw [if_pos (show md_ten S r9 = 0 from c63)]; rw [show d9 = 8 by omega])
                    · skip
                      have c127 : ¬ 8 ≤ d9 := fun h => c127 ((nI_leI (a := 8) (b := d9) (by omega) (by omega)).mpr h)
                      have c127n : d9 < 8 := Nat.not_le.mp c127
                      refine hr_aload_n C dX4_turnRouter_130 rfl 0 rfl ?_
                      refine hr_get (k := 14) (i := 0) (fld := 9) C (by decide) rfl rfl (by decide) kU_X4 kF_X4_23 rfl rfl dX4_turnRouter_131 ?_
                      refine hr_bipush (v := 8) C dX4_turnRouter_134 (by decide) ?_
                      refine hr_iload_n C dX4_turnRouter_136 rfl 1 rfl ?_
                      refine hr_imul (v := nI (8 * r9)) C dX4_turnRouter_137 (pk_mul 8 r9) ?_
                      refine hr_iload C dX4_turnRouter_138 2 rfl ?_
                      refine hr_iadd (v := nI ((8 * r9) + d9)) C dX4_turnRouter_140 (nI_add (8 * r9) d9) ?_
                      refine hr_iconst (v := 0) C dX4_turnRouter_141 (by decide) ?_
                      refine hr_zast (k := 19) (i := 0) ((8 * r9) + d9) C (by decide) rfl rfl (show (8 * r9) + d9 < 64 by omega) (by decide) (by simp [hr_cell, hr_wA]) rfl dX4_turnRouter_142 ?_
                      refine hr_iinc (v := nI (d9 + 1)) C [(4, .int (nI (d9 + 1))), (0, .ref (hr_ad E 14 0)), (1, .int (nI r9))] dX4_turnRouter_143 2 rfl (nI_add d9 1) (by decide) rfl ?_
                      refine hr_goto C 123 dX4_turnRouter_146 (by decide) ?_
                      refine hr_sub [1, 2, 0] rfl ?_
                      refine hr_st (S1 := md_clr (md_trL S r9 1 8) r9 (d9 + 1)) rfl ?_
                      exact ihC (d9 + 1)  (by omega) (by omega)
                refine hr_sub [1, 2, 0] rfl ?_
                refine hr_st (S1 := md_clr (md_trL S r9 1 8) r9 0) rfl ?_
                exact LP123 (8 + 1) 0  (by omega) (by omega)
              · skip
                have c79 : ¬ 8 ≤ x9 := fun h => c79 ((nI_leI (a := 8) (b := x9) (by omega) (by omega)).mpr h)
                have c79n : x9 < 8 := Nat.not_le.mp c79
                refine hr_iload_n C dX4_turnRouter_82 rfl 3 rfl ?_
                refine hr_if_ne C 90 dX4_turnRouter_83 (by decide) (fun c83 => ?_) (fun c83 => ?_)
                · skip
                  have c83 : ¬ 1 = 0 := fun h => c83 ((nI_eq (a := 1) (b := 0) (by omega) (by omega)).mpr h)
                  refine hr_aload_n C dX4_turnRouter_90 rfl 0 rfl ?_
                  refine hr_get (k := 14) (i := 0) (fld := 5) C (by decide) rfl rfl (by decide) kU_X4 kF_X4_7 rfl rfl dX4_turnRouter_91 ?_
                  refine hr_bipush (v := 8) C dX4_turnRouter_94 (by decide) ?_
                  refine hr_iload_n C dX4_turnRouter_96 rfl 1 rfl ?_
                  refine hr_imul (v := nI (8 * r9)) C dX4_turnRouter_97 (pk_mul 8 r9) ?_
                  refine hr_iload C dX4_turnRouter_98 4 rfl ?_
                  refine hr_iadd (v := nI ((8 * r9) + x9)) C dX4_turnRouter_100 (nI_add (8 * r9) x9) ?_
                  refine hr_zald (k := 15) (i := 0) ((8 * r9) + x9) C (by decide) rfl rfl (show (8 * r9) + x9 < 64 by omega) (by decide) dX4_turnRouter_101 ?_
                  refine hr_if_eq C 114 dX4_turnRouter_102 (by decide) (fun c102 => ?_) (fun c102 => ?_)
                  · skip
                    refine hr_iinc (v := nI (x9 + 1)) C [(4, .int (nI (x9 + 1))), (0, .ref (hr_ad E 14 0)), (1, .int (nI r9)), (2, .int (if md_some S r9 8 = true then 1 else 0)), (3, .int 1)] dX4_turnRouter_114 4 rfl (nI_add x9 1) (by decide) rfl ?_
                    refine hr_goto C 75 dX4_turnRouter_117 (by decide) ?_
                    refine hr_sub [1, 2, 3, 4, 0] rfl ?_
                    refine hr_st (S1 := md_trL S r9 1 (x9 + 1)) (by rw [md_trL, if_neg (not_not_intro c102)]) ?_
                    exact ihB (x9 + 1)  (by omega) (by omega)
                  · skip
                    refine hr_aload_n C dX4_turnRouter_105 rfl 0 rfl ?_
                    refine hr_iload_n C dX4_turnRouter_106 rfl 1 rfl ?_
                    refine hr_iload C dX4_turnRouter_107 4 rfl ?_
                    refine hr_iload_n C dX4_turnRouter_109 rfl 3 rfl ?_
                    refine hr_iload_n C dX4_turnRouter_110 rfl 3 rfl ?_
                    refine hr_cVv C (ct_X4_tell l E (md_trL S r9 1 x9) o r9 (by omega) (nI x9) 1 1 (MI_trL hI hr9 x9 (by omega)) (nb_nI (show x9 < 8 by omega) (by decide))) (cwV 4 C.1.2.2.2.2 (hr_gV kM_X4_93 kI_X4_tell kS_X4_tell kN_X4 kC_X4_tell) rfl rfl rfl (by decide +kernel) ⟨Nat.le_of_ble_eq_true rfl, Nat.le_of_ble_eq_true rfl⟩) (by decide) rfl rfl rfl (Nat.le_of_ble_eq_true rfl) dX4_turnRouter_111 ⟨Nat.le_of_ble_eq_true rfl, Nat.le_of_ble_eq_true rfl⟩ (fun S5 h6 => ?_) rfl
                    refine hr_st (S1 := (md_tell (md_trL S r9 1 x9) r9 (nI x9) 1 1)) h6 ?_
                    refine hr_iinc (v := nI (x9 + 1)) C [(4, .int (nI (x9 + 1))), (0, .ref (hr_ad E 14 0)), (1, .int (nI r9)), (2, .int (if md_some S r9 8 = true then 1 else 0)), (3, .int 1)] dX4_turnRouter_114 4 rfl (nI_add x9 1) (by decide) rfl ?_
                    refine hr_goto C 75 dX4_turnRouter_117 (by decide) ?_
                    refine hr_sub [1, 2, 3, 4, 0] rfl ?_
                    refine hr_st (S1 := md_trL S r9 1 (x9 + 1)) (by rw [md_trL, if_pos c102]) ?_
                    exact ihB (x9 + 1)  (by omega) (by omega)
                · skip
                  exact absurd c83 (by decide)
          refine hr_sub [2, 3, 4, 1, 0] rfl ?_
          refine hr_st (S1 := md_trL S r9 1 0) rfl ?_
          exact LP75 (8 + 1) 0  (by omega) (by omega)
      · skip
        have c7 : ¬ 8 ≤ d := fun h => c7 ((nI_leI (a := 8) (b := d) (by omega) (by omega)).mpr h)
        have c7n : d < 8 := Nat.not_le.mp c7
        refine hr_iload_n C dX4_turnRouter_10 rfl 2 rfl ?_
        refine hr_if_ne C 42 dX4_turnRouter_11 (by decide) (fun c11 => ?_) (fun c11 => ?_)
        · skip
          have c11 := hr_bn.mp c11
          have c11 : md_some S r9 d = true := c11
          refine hr_iconst (v := 1) C dX4_turnRouter_42 (by decide) ?_
          refine hr_goto C 47 dX4_turnRouter_43 (by decide) ?_
          refine hr_istore_n C [(2, .int 1), (0, .ref (hr_ad E 14 0)), (1, .int (nI r9)), (3, .int (nI d))] dX4_turnRouter_47 rfl (by decide) rfl ?_
          refine hr_iinc (v := nI (d + 1)) C [(3, .int (nI (d + 1))), (2, .int 1), (0, .ref (hr_ad E 14 0)), (1, .int (nI r9))] dX4_turnRouter_48 3 rfl (nI_add d 1) (by decide) rfl ?_
          refine hr_goto C 4 dX4_turnRouter_51 (by decide) ?_
          refine hr_sub [2, 3, 1, 0] rfl ?_
          refine hr_lve (lv2 := [(0, .ref (hr_ad E 14 0)), (1, .int (nI r9)), (2, .int (if md_some S r9 (d + 1) = true then 1 else 0)), (3, .int (nI (d + 1)))]) (by rw [md_some, c11]; rfl) ?_
          refine hr_st (S1 := S) rfl ?_
          exact ihA (d + 1)  (by omega) (by omega)
        · skip
          have c11 := hr_bz.mp c11
          have c11 : ¬ (md_some S r9 d = true) := c11
          refine hr_aload_n C dX4_turnRouter_14 rfl 0 rfl ?_
          refine hr_get (k := 14) (i := 0) (fld := 6) C (by decide) rfl rfl (by decide) kU_X4 kF_X4_13 rfl rfl dX4_turnRouter_15 ?_
          refine hr_bipush (v := 8) C dX4_turnRouter_18 (by decide) ?_
          refine hr_iload_n C dX4_turnRouter_20 rfl 1 rfl ?_
          refine hr_imul (v := nI (8 * r9)) C dX4_turnRouter_21 (pk_mul 8 r9) ?_
          refine hr_iload_n C dX4_turnRouter_22 rfl 3 rfl ?_
          refine hr_iadd (v := nI ((8 * r9) + d)) C dX4_turnRouter_23 (nI_add (8 * r9) d) ?_
          refine hr_iald (k := 16) (i := 0) ((8 * r9) + d) C (by decide) rfl rfl (show (8 * r9) + d < 64 by omega) (by decide) dX4_turnRouter_24 ?_
          refine hr_if_le C 46 dX4_turnRouter_25 (by decide) (fun c25 => ?_) (fun c25 => ?_)
          · skip
            have c25n : ¬ 0 < (S 16 0 ((8 * r9) + d)) := Int32.not_lt.mpr c25
            refine hr_iconst (v := 0) C dX4_turnRouter_46 (by decide) ?_
            refine hr_istore_n C [(2, .int 0), (0, .ref (hr_ad E 14 0)), (1, .int (nI r9)), (3, .int (nI d))] dX4_turnRouter_47 rfl (by decide) rfl ?_
            refine hr_iinc (v := nI (d + 1)) C [(3, .int (nI (d + 1))), (2, .int 0), (0, .ref (hr_ad E 14 0)), (1, .int (nI r9))] dX4_turnRouter_48 3 rfl (nI_add d 1) (by decide) rfl ?_
            refine hr_goto C 4 dX4_turnRouter_51 (by decide) ?_
            refine hr_sub [2, 3, 1, 0] rfl ?_
            refine hr_lve (lv2 := [(0, .ref (hr_ad E 14 0)), (1, .int (nI r9)), (2, .int (if md_some S r9 (d + 1) = true then 1 else 0)), (3, .int (nI (d + 1)))]) (by rw [md_some, Bool.eq_false_iff.mpr c11, decide_eq_false (fun h => h.1 c25)]; rfl) ?_
            refine hr_st (S1 := S) rfl ?_
            exact ihA (d + 1)  (by omega) (by omega)
          · skip
            have c25n : 0 < (S 16 0 ((8 * r9) + d)) := Int32.not_le.mp c25
            refine hr_aload_n C dX4_turnRouter_28 rfl 0 rfl ?_
            refine hr_get (k := 14) (i := 0) (fld := 9) C (by decide) rfl rfl (by decide) kU_X4 kF_X4_23 rfl rfl dX4_turnRouter_29 ?_
            refine hr_bipush (v := 8) C dX4_turnRouter_32 (by decide) ?_
            refine hr_iload_n C dX4_turnRouter_34 rfl 1 rfl ?_
            refine hr_imul (v := nI (8 * r9)) C dX4_turnRouter_35 (pk_mul 8 r9) ?_
            refine hr_iload_n C dX4_turnRouter_36 rfl 3 rfl ?_
            refine hr_iadd (v := nI ((8 * r9) + d)) C dX4_turnRouter_37 (nI_add (8 * r9) d) ?_
            refine hr_zald (k := 19) (i := 0) ((8 * r9) + d) C (by decide) rfl rfl (show (8 * r9) + d < 64 by omega) (by decide) dX4_turnRouter_38 ?_
            refine hr_if_eq C 46 dX4_turnRouter_39 (by decide) (fun c39 => ?_) (fun c39 => ?_)
            · skip
              refine hr_iconst (v := 0) C dX4_turnRouter_46 (by decide) ?_
              refine hr_istore_n C [(2, .int 0), (0, .ref (hr_ad E 14 0)), (1, .int (nI r9)), (3, .int (nI d))] dX4_turnRouter_47 rfl (by decide) rfl ?_
              refine hr_iinc (v := nI (d + 1)) C [(3, .int (nI (d + 1))), (2, .int 0), (0, .ref (hr_ad E 14 0)), (1, .int (nI r9))] dX4_turnRouter_48 3 rfl (nI_add d 1) (by decide) rfl ?_
              refine hr_goto C 4 dX4_turnRouter_51 (by decide) ?_
              refine hr_sub [2, 3, 1, 0] rfl ?_
              refine hr_lve (lv2 := [(0, .ref (hr_ad E 14 0)), (1, .int (nI r9)), (2, .int (if md_some S r9 (d + 1) = true then 1 else 0)), (3, .int (nI (d + 1)))]) (by rw [md_some, Bool.eq_false_iff.mpr c11, decide_eq_false (fun h => h.2 c39)]; rfl) ?_
              refine hr_st (S1 := S) rfl ?_
              exact ihA (d + 1)  (by omega) (by omega)
            · skip
              refine hr_iconst (v := 1) C dX4_turnRouter_42 (by decide) ?_
              refine hr_goto C 47 dX4_turnRouter_43 (by decide) ?_
              refine hr_istore_n C [(2, .int 1), (0, .ref (hr_ad E 14 0)), (1, .int (nI r9)), (3, .int (nI d))] dX4_turnRouter_47 rfl (by decide) rfl ?_
              refine hr_iinc (v := nI (d + 1)) C [(3, .int (nI (d + 1))), (2, .int 1), (0, .ref (hr_ad E 14 0)), (1, .int (nI r9))] dX4_turnRouter_48 3 rfl (nI_add d 1) (by decide) rfl ?_
              refine hr_goto C 4 dX4_turnRouter_51 (by decide) ?_
              refine hr_sub [2, 3, 1, 0] rfl ?_
              refine hr_lve (lv2 := [(0, .ref (hr_ad E 14 0)), (1, .int (nI r9)), (2, .int (if md_some S r9 (d + 1) = true then 1 else 0)), (3, .int (nI (d + 1)))]) (by rw [md_some, Bool.eq_false_iff.mpr c11, decide_eq_true ⟨c25, c39⟩]; rfl) ?_
              refine hr_st (S1 := S) rfl ?_
              exact ihA (d + 1)  (by omega) (by omega)
  refine hr_sub [2, 3, 1, 0] rfl ?_
  refine hr_lve (lv2 := [(0, .ref (hr_ad E 14 0)), (1, .int (nI r9)), (2, .int (if md_some S r9 0 = true then 1 else 0)), (3, .int (nI 0))]) rfl ?_
  refine hr_st (S1 := S) rfl ?_
  exact LP4 (8 + 1) 0  (by omega) (by omega)
set_option maxHeartbeats 4000000 in
set_option maxRecDepth 100000 in
theorem ct_X4_turn (l : Launch) (E : hr_E) (S : hr_S) (o : Int64) (hI : hr_MI S) : hr_Mv l E yX4_turn (Cond.code yX4_turn cX4_turn 2 none :: hr_W) ({ frames := 4, cells := 0, slots := 0, locals := 96 } : Room) [.ref (hr_ad E 14 0)] S o (fun u => u = md_turn S) := by
  refine hr_of (by decide) (Nat.le_of_ble_eq_true rfl) (fun p e s m below meth c C hr => ?_)
  refine hr_aload_n C dX4_turn_0 rfl 0 rfl ?_
  refine hr_dup C dX4_turn_1 rfl ?_
  refine hr_get (k := 14) (i := 0) (fld := 1) C (by decide) rfl rfl (by decide) kU_X4 kF_X4_114 rfl rfl dX4_turn_2 ?_
  refine hr_iconst (v := 1) C dX4_turn_5 (by decide) ?_
  refine hr_iadd C dX4_turn_6 rfl ?_
  refine hr_put (k := 14) (i := 0) (fld := 1) C (by decide) rfl rfl (by decide) kU_X4 kF_X4_114 rfl tyX4 tyX4_ok nmX4 rfl (by decide +kernel) (Nat.le_of_ble_eq_true rfl) (by simp [hr_cell, hr_w, hr_wA, upd]) rfl dX4_turn_7 ?_
  refine hr_iconst (v := 0) C dX4_turn_10 (by decide) ?_
  refine hr_istore_n C [(1, .int 0), (0, .ref (hr_ad E 14 0))] dX4_turn_11 rfl (by decide) rfl ?_
  have LP12 : ∀ (n q9 : Nat) , q9 ≤ 64 → 64 + 1 ≤ q9 + n → hr_G p l e ({ frames := 4, cells := 0, slots := 0, locals := 96 } : Room) s m #[.ref (hr_ad E 14 0)] below meth c (MQ below (va_Qv (fun u => u = md_turn S) (fun u t => hr_P E u o t.heap) (hr_A E)) #[.ref (hr_ad E 14 0)] s 0 0 (hr_A E)) E 2 0 0 (md_agL (hr_w S 14 0 1 ((S 14 0 1) + 1)) q9) o [(0, .ref (hr_ad E 14 0)), (1, .int (nI q9))] 12 [] := by
    intro n
    induction n with
    | zero => intro q9  h1 h2; omega
    | succ n ih =>
      intro q9  hv1 hv2
      refine hr_iload_n C dX4_turn_12 rfl 1 rfl ?_
      refine hr_bipush (v := 64) C dX4_turn_13 (by decide) ?_
      refine hr_icmp_ge C 135 dX4_turn_15 (by decide) (fun c15 => ?_) (fun c15 => ?_)
      · skip
        have c15 : 64 ≤ q9 := (nI_leI (a := 64) (b := q9) (by omega) (by omega)).mp c15
        have c15n : ¬ q9 < 64 := Nat.not_lt.mpr c15
        refine hr_iconst (v := 0) C dX4_turn_135 (by decide) ?_
        refine hr_istore_n C [(1, .int 0), (0, .ref (hr_ad E 14 0))] dX4_turn_136 rfl (by decide) rfl ?_
        have LP137 : ∀ (n r9 : Nat) , r9 ≤ 8 → 8 + 1 ≤ r9 + n → hr_G p l e ({ frames := 4, cells := 0, slots := 0, locals := 96 } : Room) s m #[.ref (hr_ad E 14 0)] below meth c (MQ below (va_Qv (fun u => u = md_turn S) (fun u t => hr_P E u o t.heap) (hr_A E)) #[.ref (hr_ad E 14 0)] s 0 0 (hr_A E)) E 2 0 0 (md_t (md_agL (hr_w S 14 0 1 ((S 14 0 1) + 1)) 64) r9) o [(0, .ref (hr_ad E 14 0)), (1, .int (nI r9))] 137 [] := by
          intro n
          induction n with
          | zero => intro r9  h1 h2; omega
          | succ n ih =>
            intro r9  hv1 hv2
            refine hr_iload_n C dX4_turn_137 rfl 1 rfl ?_
            refine hr_bipush (v := 8) C dX4_turn_138 (by decide) ?_
            refine hr_icmp_ge C 154 dX4_turn_140 (by decide) (fun c140 => ?_) (fun c140 => ?_)
            · skip
              have c140 : 8 ≤ r9 := (nI_leI (a := 8) (b := r9) (by omega) (by omega)).mp c140
              have c140n : ¬ r9 < 8 := Nat.not_lt.mpr c140
              exact hr_vret C hr dX4_turn_154 (by rw [show r9 = 8 by omega]; rfl)
            · skip
              have c140 : ¬ 8 ≤ r9 := fun h => c140 ((nI_leI (a := 8) (b := r9) (by omega) (by omega)).mpr h)
              have c140n : r9 < 8 := Nat.not_le.mp c140
              refine hr_aload_n C dX4_turn_143 rfl 0 rfl ?_
              refine hr_iload_n C dX4_turn_144 rfl 1 rfl ?_
              refine hr_cVv C (ct_X4_turnRouter l E (md_t (md_agL (hr_w S 14 0 1 ((S 14 0 1) + 1)) 64) r9) o r9 (by omega) (MI_t (MI_agL (MI_1 hI) 64) r9 (by omega))) (cwV 1 C.1.2.2.2.2 (hr_gV kM_X4_117 kI_X4_turnRouter kS_X4_turnRouter kN_X4 kC_X4_turnRouter) rfl rfl rfl (by decide +kernel) ⟨Nat.le_of_ble_eq_true rfl, Nat.le_of_ble_eq_true rfl⟩) (by decide) rfl rfl rfl (Nat.le_of_ble_eq_true rfl) dX4_turn_145 ⟨Nat.le_of_ble_eq_true rfl, Nat.le_of_ble_eq_true rfl⟩ (fun S2 h3 => ?_) rfl
              refine hr_st (S1 := (md_tr (md_t (md_agL (hr_w S 14 0 1 ((S 14 0 1) + 1)) 64) r9) r9)) h3 ?_
              refine hr_iinc (v := nI (r9 + 1)) C [(1, .int (nI (r9 + 1))), (0, .ref (hr_ad E 14 0))] dX4_turn_148 1 rfl (nI_add r9 1) (by decide) rfl ?_
              refine hr_goto C 137 dX4_turn_151 (by decide) ?_
              refine hr_sub [1, 0] rfl ?_
              refine hr_st (S1 := md_t (md_agL (hr_w S 14 0 1 ((S 14 0 1) + 1)) 64) (r9 + 1)) rfl ?_
              exact ih (r9 + 1)  (by omega) (by omega)
        refine hr_sub [1, 0] rfl ?_
        refine hr_st (S1 := md_t (md_agL (hr_w S 14 0 1 ((S 14 0 1) + 1)) 64) 0) (by rw [show q9 = 64 by omega]; rfl) ?_
        exact LP137 (8 + 1) 0  (by omega) (by omega)
      · skip
        have c15 : ¬ 64 ≤ q9 := fun h => c15 ((nI_leI (a := 64) (b := q9) (by omega) (by omega)).mpr h)
        have c15n : q9 < 64 := Nat.not_le.mp c15
        refine hr_aload_n C dX4_turn_18 rfl 0 rfl ?_
        refine hr_get (k := 14) (i := 0) (fld := 6) C (by decide) rfl rfl (by decide) kU_X4 kF_X4_13 rfl rfl dX4_turn_19 ?_
        refine hr_iload_n C dX4_turn_22 rfl 1 rfl ?_
        refine hr_iald (k := 16) (i := 0) q9 C (by decide) rfl rfl (show q9 < 64 by omega) (by decide) dX4_turn_23 ?_
        refine hr_if_ne C 30 dX4_turn_24 (by decide) (fun c24 => ?_) (fun c24 => ?_)
        · skip
          refine hr_aload_n C dX4_turn_30 rfl 0 rfl ?_
          refine hr_get (k := 14) (i := 0) (fld := 8) C (by decide) rfl rfl (by decide) kU_X4 kF_X4_20 rfl rfl dX4_turn_31 ?_
          refine hr_iload_n C dX4_turn_34 rfl 1 rfl ?_
          refine hr_dup2 C dX4_turn_35 rfl rfl ?_
          refine hr_iald (k := 18) (i := 0) q9 C (by decide) rfl rfl (show q9 < 64 by omega) (by decide) dX4_turn_36 ?_
          refine hr_iconst (v := 1) C dX4_turn_37 (by decide) ?_
          refine hr_iadd C dX4_turn_38 rfl ?_
          refine hr_iast (k := 18) (i := 0) q9 C (by decide) rfl rfl (show q9 < 64 by omega) (by decide) (by simp [hr_cell, hr_wA]) rfl dX4_turn_39 ?_
          refine hr_aload_n C dX4_turn_40 rfl 0 rfl ?_
          refine hr_get (k := 14) (i := 0) (fld := 10) C (by decide) rfl rfl (by decide) kU_X4 kF_X4_26 rfl rfl dX4_turn_41 ?_
          refine hr_iload_n C dX4_turn_44 rfl 1 rfl ?_
          refine hr_dup2 C dX4_turn_45 rfl rfl ?_
          refine hr_iald (k := 20) (i := 0) q9 C (by decide) rfl rfl (show q9 < 64 by omega) (by decide) dX4_turn_46 ?_
          refine hr_tp (y := (md_agL (hr_w S 14 0 1 ((S 14 0 1) + 1)) q9) 20 0 q9) rfl ?_
          refine hr_aload_n C dX4_turn_47 rfl 0 rfl ?_
          refine hr_get (k := 14) (i := 0) (fld := 10) C (by decide) rfl rfl (by decide) kU_X4 kF_X4_26 rfl rfl dX4_turn_48 ?_
          refine hr_iload_n C dX4_turn_51 rfl 1 rfl ?_
          refine hr_iald (k := 20) (i := 0) q9 C (by decide) rfl rfl (show q9 < 64 by omega) (by decide) dX4_turn_52 ?_
          refine hr_tp (y := (md_agL (hr_w S 14 0 1 ((S 14 0 1) + 1)) q9) 20 0 q9) rfl ?_
          refine hr_if_le C 60 dX4_turn_53 (by decide) (fun c53 => ?_) (fun c53 => ?_)
          · skip
            have c53n : ¬ 0 < ((md_agL (hr_w S 14 0 1 ((S 14 0 1) + 1)) q9) 20 0 q9) := Int32.not_lt.mpr c53
            refine hr_iconst (v := 0) C dX4_turn_60 (by decide) ?_
            refine hr_isub C dX4_turn_61 rfl ?_
            refine hr_iast (k := 20) (i := 0) q9 C (by decide) rfl rfl (show q9 < 64 by omega) (by decide) (by simp [hr_cell, hr_wA]) rfl dX4_turn_62 ?_
            refine hr_aload_n C dX4_turn_63 rfl 0 rfl ?_
            refine hr_get (k := 14) (i := 0) (fld := 6) C (by decide) rfl rfl (by decide) kU_X4 kF_X4_13 rfl rfl dX4_turn_64 ?_
            refine hr_iload_n C dX4_turn_67 rfl 1 rfl ?_
            refine hr_iald (k := 16) (i := 0) q9 C (by decide) rfl rfl (show q9 < 64 by omega) (by decide) dX4_turn_68 ?_
            refine hr_tp (y := (md_agL (hr_w S 14 0 1 ((S 14 0 1) + 1)) q9) 16 0 q9) rfl ?_
            refine hr_bipush (v := 16) C dX4_turn_69 (by decide) ?_
            refine hr_icmp_ge C 93 dX4_turn_71 (by decide) (fun c71 => ?_) (fun c71 => ?_)
            · skip
              have c71n : ¬ ((md_agL (hr_w S 14 0 1 ((S 14 0 1) + 1)) q9) 16 0 q9) < 16 := Int32.not_lt.mpr c71
              refine hr_aload_n C dX4_turn_93 rfl 0 rfl ?_
              refine hr_get (k := 14) (i := 0) (fld := 6) C (by decide) rfl rfl (by decide) kU_X4 kF_X4_13 rfl rfl dX4_turn_94 ?_
              refine hr_iload_n C dX4_turn_97 rfl 1 rfl ?_
              refine hr_iald (k := 16) (i := 0) q9 C (by decide) rfl rfl (show q9 < 64 by omega) (by decide) dX4_turn_98 ?_
              refine hr_tp (y := (md_agL (hr_w S 14 0 1 ((S 14 0 1) + 1)) q9) 16 0 q9) rfl ?_
              refine hr_bipush (v := 16) C dX4_turn_99 (by decide) ?_
              refine hr_icmp_ne C 129 dX4_turn_101 (by decide) (fun c101 => ?_) (fun c101 => ?_)
              · skip
                refine hr_iinc (v := nI (q9 + 1)) C [(1, .int (nI (q9 + 1))), (0, .ref (hr_ad E 14 0))] dX4_turn_129 1 rfl (nI_add q9 1) (by decide) rfl ?_
                refine hr_goto C 12 dX4_turn_132 (by decide) ?_
                refine hr_sub [1, 0] rfl ?_
                refine hr_st (S1 := md_agL (hr_w S 14 0 1 ((S 14 0 1) + 1)) (q9 + 1)) (by rw [md_agL, if_neg c24]; unfold md_age md_lt md_ag1; repeat (first | rw [if_pos c53] | rw [if_neg c53] | rw [if_neg (not_not_intro c53)] | rw [if_pos c71] | rw [if_neg c71] | rw [if_neg (not_not_intro c71)] | rw [if_pos c101] | rw [if_neg c101] | rw [if_neg (not_not_intro c101)]); try rfl) ?_
                exact ih (q9 + 1)  (by omega) (by omega)
              · skip
                refine hr_aload_n C dX4_turn_104 rfl 0 rfl ?_
                refine hr_get (k := 14) (i := 0) (fld := 8) C (by decide) rfl rfl (by decide) kU_X4 kF_X4_20 rfl rfl dX4_turn_105 ?_
                refine hr_iload_n C dX4_turn_108 rfl 1 rfl ?_
                refine hr_iald (k := 18) (i := 0) q9 C (by decide) rfl rfl (show q9 < 64 by omega) (by decide) dX4_turn_109 ?_
                refine hr_tp (y := ((md_agL (hr_w S 14 0 1 ((S 14 0 1) + 1)) q9) 18 0 q9) + 1) (by simp [hr_w, hr_wA, upd]) ?_
                refine hr_bipush (v := 50) C dX4_turn_110 (by decide) ?_
                refine hr_icmp_ne C 129 dX4_turn_112 (by decide) (fun c112 => ?_) (fun c112 => ?_)
                · skip
                  refine hr_iinc (v := nI (q9 + 1)) C [(1, .int (nI (q9 + 1))), (0, .ref (hr_ad E 14 0))] dX4_turn_129 1 rfl (nI_add q9 1) (by decide) rfl ?_
                  refine hr_goto C 12 dX4_turn_132 (by decide) ?_
                  refine hr_sub [1, 0] rfl ?_
                  refine hr_st (S1 := md_agL (hr_w S 14 0 1 ((S 14 0 1) + 1)) (q9 + 1)) (by rw [md_agL, if_neg c24]; unfold md_age md_lt md_ag1; repeat (first | rw [if_pos c53] | rw [if_neg c53] | rw [if_neg (not_not_intro c53)] | rw [if_pos c71] | rw [if_neg c71] | rw [if_neg (not_not_intro c71)] | rw [if_pos c101] | rw [if_neg c101] | rw [if_neg (not_not_intro c101)] | rw [if_pos c112] | rw [if_neg c112] | rw [if_neg (not_not_intro c112)]); try rfl) ?_
                  exact ih (q9 + 1)  (by omega) (by omega)
                · skip
                  refine hr_aload_n C dX4_turn_115 rfl 0 rfl ?_
                  refine hr_get (k := 14) (i := 0) (fld := 6) C (by decide) rfl rfl (by decide) kU_X4 kF_X4_13 rfl rfl dX4_turn_116 ?_
                  refine hr_iload_n C dX4_turn_119 rfl 1 rfl ?_
                  refine hr_iconst (v := 0) C dX4_turn_120 (by decide) ?_
                  refine hr_iast (k := 16) (i := 0) q9 C (by decide) rfl rfl (show q9 < 64 by omega) (by decide) (by simp [hr_cell, hr_wA]) rfl dX4_turn_121 ?_
                  refine hr_aload_n C dX4_turn_122 rfl 0 rfl ?_
                  refine hr_get (k := 14) (i := 0) (fld := 9) C (by decide) rfl rfl (by decide) kU_X4 kF_X4_23 rfl rfl dX4_turn_123 ?_
                  refine hr_iload_n C dX4_turn_126 rfl 1 rfl ?_
                  refine hr_iconst (v := 0) C dX4_turn_127 (by decide) ?_
                  refine hr_zast (k := 19) (i := 0) q9 C (by decide) rfl rfl (show q9 < 64 by omega) (by decide) (by simp [hr_cell, hr_wA]) rfl dX4_turn_128 ?_
                  refine hr_iinc (v := nI (q9 + 1)) C [(1, .int (nI (q9 + 1))), (0, .ref (hr_ad E 14 0))] dX4_turn_129 1 rfl (nI_add q9 1) (by decide) rfl ?_
                  refine hr_goto C 12 dX4_turn_132 (by decide) ?_
                  refine hr_sub [1, 0] rfl ?_
                  refine hr_st (S1 := md_agL (hr_w S 14 0 1 ((S 14 0 1) + 1)) (q9 + 1)) (by rw [md_agL, if_neg c24]; unfold md_age md_lt md_ag1; repeat (first | rw [if_pos c53] | rw [if_neg c53] | rw [if_neg (not_not_intro c53)] | rw [if_pos c71] | rw [if_neg c71] | rw [if_neg (not_not_intro c71)] | rw [if_pos c101] | rw [if_neg c101] | rw [if_neg (not_not_intro c101)] | rw [if_pos c112] | rw [if_neg c112] | rw [if_neg (not_not_intro c112)]); try rfl) ?_
                  exact ih (q9 + 1)  (by omega) (by omega)
            · skip
              have c71n : ((md_agL (hr_w S 14 0 1 ((S 14 0 1) + 1)) q9) 16 0 q9) < 16 := Int32.not_le.mp c71
              refine hr_aload_n C dX4_turn_74 rfl 0 rfl ?_
              refine hr_get (k := 14) (i := 0) (fld := 8) C (by decide) rfl rfl (by decide) kU_X4 kF_X4_20 rfl rfl dX4_turn_75 ?_
              refine hr_iload_n C dX4_turn_78 rfl 1 rfl ?_
              refine hr_iald (k := 18) (i := 0) q9 C (by decide) rfl rfl (show q9 < 64 by omega) (by decide) dX4_turn_79 ?_
              refine hr_tp (y := ((md_agL (hr_w S 14 0 1 ((S 14 0 1) + 1)) q9) 18 0 q9) + 1) (by simp [hr_w, hr_wA, upd]) ?_
              refine hr_bipush (v := 60) C dX4_turn_80 (by decide) ?_
              refine hr_icmp_ne C 93 dX4_turn_82 (by decide) (fun c82 => ?_) (fun c82 => ?_)
              · skip
                refine hr_aload_n C dX4_turn_93 rfl 0 rfl ?_
                refine hr_get (k := 14) (i := 0) (fld := 6) C (by decide) rfl rfl (by decide) kU_X4 kF_X4_13 rfl rfl dX4_turn_94 ?_
                refine hr_iload_n C dX4_turn_97 rfl 1 rfl ?_
                refine hr_iald (k := 16) (i := 0) q9 C (by decide) rfl rfl (show q9 < 64 by omega) (by decide) dX4_turn_98 ?_
                refine hr_tp (y := (md_agL (hr_w S 14 0 1 ((S 14 0 1) + 1)) q9) 16 0 q9) rfl ?_
                refine hr_bipush (v := 16) C dX4_turn_99 (by decide) ?_
                refine hr_icmp_ne C 129 dX4_turn_101 (by decide) (fun c101 => ?_) (fun c101 => ?_)
                · skip
                  refine hr_iinc (v := nI (q9 + 1)) C [(1, .int (nI (q9 + 1))), (0, .ref (hr_ad E 14 0))] dX4_turn_129 1 rfl (nI_add q9 1) (by decide) rfl ?_
                  refine hr_goto C 12 dX4_turn_132 (by decide) ?_
                  refine hr_sub [1, 0] rfl ?_
                  refine hr_st (S1 := md_agL (hr_w S 14 0 1 ((S 14 0 1) + 1)) (q9 + 1)) (by rw [md_agL, if_neg c24]; unfold md_age md_lt md_ag1; repeat (first | rw [if_pos c53] | rw [if_neg c53] | rw [if_neg (not_not_intro c53)] | rw [if_pos c71] | rw [if_neg c71] | rw [if_neg (not_not_intro c71)] | rw [if_pos c82] | rw [if_neg c82] | rw [if_neg (not_not_intro c82)] | rw [if_pos c101] | rw [if_neg c101] | rw [if_neg (not_not_intro c101)]); try rfl) ?_
                  exact ih (q9 + 1)  (by omega) (by omega)
                · skip
                  refine hr_aload_n C dX4_turn_104 rfl 0 rfl ?_
                  refine hr_get (k := 14) (i := 0) (fld := 8) C (by decide) rfl rfl (by decide) kU_X4 kF_X4_20 rfl rfl dX4_turn_105 ?_
                  refine hr_iload_n C dX4_turn_108 rfl 1 rfl ?_
                  refine hr_iald (k := 18) (i := 0) q9 C (by decide) rfl rfl (show q9 < 64 by omega) (by decide) dX4_turn_109 ?_
                  refine hr_tp (y := ((md_agL (hr_w S 14 0 1 ((S 14 0 1) + 1)) q9) 18 0 q9) + 1) (by simp [hr_w, hr_wA, upd]) ?_
                  refine hr_bipush (v := 50) C dX4_turn_110 (by decide) ?_
                  refine hr_icmp_ne C 129 dX4_turn_112 (by decide) (fun c112 => ?_) (fun c112 => ?_)
                  · skip
                    refine hr_iinc (v := nI (q9 + 1)) C [(1, .int (nI (q9 + 1))), (0, .ref (hr_ad E 14 0))] dX4_turn_129 1 rfl (nI_add q9 1) (by decide) rfl ?_
                    refine hr_goto C 12 dX4_turn_132 (by decide) ?_
                    refine hr_sub [1, 0] rfl ?_
                    refine hr_st (S1 := md_agL (hr_w S 14 0 1 ((S 14 0 1) + 1)) (q9 + 1)) (by rw [md_agL, if_neg c24]; unfold md_age md_lt md_ag1; repeat (first | rw [if_pos c53] | rw [if_neg c53] | rw [if_neg (not_not_intro c53)] | rw [if_pos c71] | rw [if_neg c71] | rw [if_neg (not_not_intro c71)] | rw [if_pos c82] | rw [if_neg c82] | rw [if_neg (not_not_intro c82)] | rw [if_pos c101] | rw [if_neg c101] | rw [if_neg (not_not_intro c101)] | rw [if_pos c112] | rw [if_neg c112] | rw [if_neg (not_not_intro c112)]); try rfl) ?_
                    exact ih (q9 + 1)  (by omega) (by omega)
                  · skip
                    refine hr_aload_n C dX4_turn_115 rfl 0 rfl ?_
                    refine hr_get (k := 14) (i := 0) (fld := 6) C (by decide) rfl rfl (by decide) kU_X4 kF_X4_13 rfl rfl dX4_turn_116 ?_
                    refine hr_iload_n C dX4_turn_119 rfl 1 rfl ?_
                    refine hr_iconst (v := 0) C dX4_turn_120 (by decide) ?_
                    refine hr_iast (k := 16) (i := 0) q9 C (by decide) rfl rfl (show q9 < 64 by omega) (by decide) (by simp [hr_cell, hr_wA]) rfl dX4_turn_121 ?_
                    refine hr_aload_n C dX4_turn_122 rfl 0 rfl ?_
                    refine hr_get (k := 14) (i := 0) (fld := 9) C (by decide) rfl rfl (by decide) kU_X4 kF_X4_23 rfl rfl dX4_turn_123 ?_
                    refine hr_iload_n C dX4_turn_126 rfl 1 rfl ?_
                    refine hr_iconst (v := 0) C dX4_turn_127 (by decide) ?_
                    refine hr_zast (k := 19) (i := 0) q9 C (by decide) rfl rfl (show q9 < 64 by omega) (by decide) (by simp [hr_cell, hr_wA]) rfl dX4_turn_128 ?_
                    refine hr_iinc (v := nI (q9 + 1)) C [(1, .int (nI (q9 + 1))), (0, .ref (hr_ad E 14 0))] dX4_turn_129 1 rfl (nI_add q9 1) (by decide) rfl ?_
                    refine hr_goto C 12 dX4_turn_132 (by decide) ?_
                    refine hr_sub [1, 0] rfl ?_
                    refine hr_st (S1 := md_agL (hr_w S 14 0 1 ((S 14 0 1) + 1)) (q9 + 1)) (by rw [md_agL, if_neg c24]; unfold md_age md_lt md_ag1; repeat (first | rw [if_pos c53] | rw [if_neg c53] | rw [if_neg (not_not_intro c53)] | rw [if_pos c71] | rw [if_neg c71] | rw [if_neg (not_not_intro c71)] | rw [if_pos c82] | rw [if_neg c82] | rw [if_neg (not_not_intro c82)] | rw [if_pos c101] | rw [if_neg c101] | rw [if_neg (not_not_intro c101)] | rw [if_pos c112] | rw [if_neg c112] | rw [if_neg (not_not_intro c112)]); try rfl) ?_
                    exact ih (q9 + 1)  (by omega) (by omega)
              · skip
                refine hr_aload_n C dX4_turn_85 rfl 0 rfl ?_
                refine hr_iload_n C dX4_turn_86 rfl 1 rfl ?_
                refine hr_cVv C (ct_X4_gone l E (hr_w (hr_w (md_agL (hr_w S 14 0 1 ((S 14 0 1) + 1)) q9) 18 0 q9 (((md_agL (hr_w S 14 0 1 ((S 14 0 1) + 1)) q9) 18 0 q9) + 1)) 20 0 q9 (((md_agL (hr_w S 14 0 1 ((S 14 0 1) + 1)) q9) 20 0 q9) - 0)) o q9 (by omega)) (cwV 1 C.1.2.2.2.2 (hr_gV kM_X4_87 kI_X4_gone kS_X4_gone kN_X4 kC_X4_gone) rfl rfl rfl (by decide +kernel) ⟨Nat.le_of_ble_eq_true rfl, Nat.le_of_ble_eq_true rfl⟩) (by decide) rfl rfl rfl (Nat.le_of_ble_eq_true rfl) dX4_turn_87 ⟨Nat.le_of_ble_eq_true rfl, Nat.le_of_ble_eq_true rfl⟩ (fun S5 h6 => ?_) rfl
                refine hr_st (S1 := (md_gone (hr_w (hr_w (md_agL (hr_w S 14 0 1 ((S 14 0 1) + 1)) q9) 18 0 q9 (((md_agL (hr_w S 14 0 1 ((S 14 0 1) + 1)) q9) 18 0 q9) + 1)) 20 0 q9 (((md_agL (hr_w S 14 0 1 ((S 14 0 1) + 1)) q9) 20 0 q9) - 0)) q9)) h6 ?_
                refine hr_goto C 129 dX4_turn_90 (by decide) ?_
                refine hr_iinc (v := nI (q9 + 1)) C [(1, .int (nI (q9 + 1))), (0, .ref (hr_ad E 14 0))] dX4_turn_129 1 rfl (nI_add q9 1) (by decide) rfl ?_
                refine hr_goto C 12 dX4_turn_132 (by decide) ?_
                refine hr_sub [1, 0] rfl ?_
                refine hr_st (S1 := md_agL (hr_w S 14 0 1 ((S 14 0 1) + 1)) (q9 + 1)) (by rw [md_agL, if_neg c24]; unfold md_age md_lt md_ag1; repeat (first | rw [if_pos c53] | rw [if_neg c53] | rw [if_neg (not_not_intro c53)] | rw [if_pos c71] | rw [if_neg c71] | rw [if_neg (not_not_intro c71)] | rw [if_pos c82] | rw [if_neg c82] | rw [if_neg (not_not_intro c82)]); try rfl) ?_
                exact ih (q9 + 1)  (by omega) (by omega)
          · skip
            have c53n : 0 < ((md_agL (hr_w S 14 0 1 ((S 14 0 1) + 1)) q9) 20 0 q9) := Int32.not_le.mp c53
            refine hr_iconst (v := 1) C dX4_turn_56 (by decide) ?_
            refine hr_goto C 61 dX4_turn_57 (by decide) ?_
            refine hr_isub C dX4_turn_61 rfl ?_
            refine hr_iast (k := 20) (i := 0) q9 C (by decide) rfl rfl (show q9 < 64 by omega) (by decide) (by simp [hr_cell, hr_wA]) rfl dX4_turn_62 ?_
            refine hr_aload_n C dX4_turn_63 rfl 0 rfl ?_
            refine hr_get (k := 14) (i := 0) (fld := 6) C (by decide) rfl rfl (by decide) kU_X4 kF_X4_13 rfl rfl dX4_turn_64 ?_
            refine hr_iload_n C dX4_turn_67 rfl 1 rfl ?_
            refine hr_iald (k := 16) (i := 0) q9 C (by decide) rfl rfl (show q9 < 64 by omega) (by decide) dX4_turn_68 ?_
            refine hr_tp (y := (md_agL (hr_w S 14 0 1 ((S 14 0 1) + 1)) q9) 16 0 q9) rfl ?_
            refine hr_bipush (v := 16) C dX4_turn_69 (by decide) ?_
            refine hr_icmp_ge C 93 dX4_turn_71 (by decide) (fun c71 => ?_) (fun c71 => ?_)
            · skip
              have c71n : ¬ ((md_agL (hr_w S 14 0 1 ((S 14 0 1) + 1)) q9) 16 0 q9) < 16 := Int32.not_lt.mpr c71
              refine hr_aload_n C dX4_turn_93 rfl 0 rfl ?_
              refine hr_get (k := 14) (i := 0) (fld := 6) C (by decide) rfl rfl (by decide) kU_X4 kF_X4_13 rfl rfl dX4_turn_94 ?_
              refine hr_iload_n C dX4_turn_97 rfl 1 rfl ?_
              refine hr_iald (k := 16) (i := 0) q9 C (by decide) rfl rfl (show q9 < 64 by omega) (by decide) dX4_turn_98 ?_
              refine hr_tp (y := (md_agL (hr_w S 14 0 1 ((S 14 0 1) + 1)) q9) 16 0 q9) rfl ?_
              refine hr_bipush (v := 16) C dX4_turn_99 (by decide) ?_
              refine hr_icmp_ne C 129 dX4_turn_101 (by decide) (fun c101 => ?_) (fun c101 => ?_)
              · skip
                refine hr_iinc (v := nI (q9 + 1)) C [(1, .int (nI (q9 + 1))), (0, .ref (hr_ad E 14 0))] dX4_turn_129 1 rfl (nI_add q9 1) (by decide) rfl ?_
                refine hr_goto C 12 dX4_turn_132 (by decide) ?_
                refine hr_sub [1, 0] rfl ?_
                refine hr_st (S1 := md_agL (hr_w S 14 0 1 ((S 14 0 1) + 1)) (q9 + 1)) (by rw [md_agL, if_neg c24]; unfold md_age md_lt md_ag1; repeat (first | rw [if_pos c53] | rw [if_neg c53] | rw [if_neg (not_not_intro c53)] | rw [if_pos c71] | rw [if_neg c71] | rw [if_neg (not_not_intro c71)] | rw [if_pos c101] | rw [if_neg c101] | rw [if_neg (not_not_intro c101)]); try rfl) ?_
                exact ih (q9 + 1)  (by omega) (by omega)
              · skip
                refine hr_aload_n C dX4_turn_104 rfl 0 rfl ?_
                refine hr_get (k := 14) (i := 0) (fld := 8) C (by decide) rfl rfl (by decide) kU_X4 kF_X4_20 rfl rfl dX4_turn_105 ?_
                refine hr_iload_n C dX4_turn_108 rfl 1 rfl ?_
                refine hr_iald (k := 18) (i := 0) q9 C (by decide) rfl rfl (show q9 < 64 by omega) (by decide) dX4_turn_109 ?_
                refine hr_tp (y := ((md_agL (hr_w S 14 0 1 ((S 14 0 1) + 1)) q9) 18 0 q9) + 1) (by simp [hr_w, hr_wA, upd]) ?_
                refine hr_bipush (v := 50) C dX4_turn_110 (by decide) ?_
                refine hr_icmp_ne C 129 dX4_turn_112 (by decide) (fun c112 => ?_) (fun c112 => ?_)
                · skip
                  refine hr_iinc (v := nI (q9 + 1)) C [(1, .int (nI (q9 + 1))), (0, .ref (hr_ad E 14 0))] dX4_turn_129 1 rfl (nI_add q9 1) (by decide) rfl ?_
                  refine hr_goto C 12 dX4_turn_132 (by decide) ?_
                  refine hr_sub [1, 0] rfl ?_
                  refine hr_st (S1 := md_agL (hr_w S 14 0 1 ((S 14 0 1) + 1)) (q9 + 1)) (by rw [md_agL, if_neg c24]; unfold md_age md_lt md_ag1; repeat (first | rw [if_pos c53] | rw [if_neg c53] | rw [if_neg (not_not_intro c53)] | rw [if_pos c71] | rw [if_neg c71] | rw [if_neg (not_not_intro c71)] | rw [if_pos c101] | rw [if_neg c101] | rw [if_neg (not_not_intro c101)] | rw [if_pos c112] | rw [if_neg c112] | rw [if_neg (not_not_intro c112)]); try rfl) ?_
                  exact ih (q9 + 1)  (by omega) (by omega)
                · skip
                  refine hr_aload_n C dX4_turn_115 rfl 0 rfl ?_
                  refine hr_get (k := 14) (i := 0) (fld := 6) C (by decide) rfl rfl (by decide) kU_X4 kF_X4_13 rfl rfl dX4_turn_116 ?_
                  refine hr_iload_n C dX4_turn_119 rfl 1 rfl ?_
                  refine hr_iconst (v := 0) C dX4_turn_120 (by decide) ?_
                  refine hr_iast (k := 16) (i := 0) q9 C (by decide) rfl rfl (show q9 < 64 by omega) (by decide) (by simp [hr_cell, hr_wA]) rfl dX4_turn_121 ?_
                  refine hr_aload_n C dX4_turn_122 rfl 0 rfl ?_
                  refine hr_get (k := 14) (i := 0) (fld := 9) C (by decide) rfl rfl (by decide) kU_X4 kF_X4_23 rfl rfl dX4_turn_123 ?_
                  refine hr_iload_n C dX4_turn_126 rfl 1 rfl ?_
                  refine hr_iconst (v := 0) C dX4_turn_127 (by decide) ?_
                  refine hr_zast (k := 19) (i := 0) q9 C (by decide) rfl rfl (show q9 < 64 by omega) (by decide) (by simp [hr_cell, hr_wA]) rfl dX4_turn_128 ?_
                  refine hr_iinc (v := nI (q9 + 1)) C [(1, .int (nI (q9 + 1))), (0, .ref (hr_ad E 14 0))] dX4_turn_129 1 rfl (nI_add q9 1) (by decide) rfl ?_
                  refine hr_goto C 12 dX4_turn_132 (by decide) ?_
                  refine hr_sub [1, 0] rfl ?_
                  refine hr_st (S1 := md_agL (hr_w S 14 0 1 ((S 14 0 1) + 1)) (q9 + 1)) (by rw [md_agL, if_neg c24]; unfold md_age md_lt md_ag1; repeat (first | rw [if_pos c53] | rw [if_neg c53] | rw [if_neg (not_not_intro c53)] | rw [if_pos c71] | rw [if_neg c71] | rw [if_neg (not_not_intro c71)] | rw [if_pos c101] | rw [if_neg c101] | rw [if_neg (not_not_intro c101)] | rw [if_pos c112] | rw [if_neg c112] | rw [if_neg (not_not_intro c112)]); try rfl) ?_
                  exact ih (q9 + 1)  (by omega) (by omega)
            · skip
              have c71n : ((md_agL (hr_w S 14 0 1 ((S 14 0 1) + 1)) q9) 16 0 q9) < 16 := Int32.not_le.mp c71
              refine hr_aload_n C dX4_turn_74 rfl 0 rfl ?_
              refine hr_get (k := 14) (i := 0) (fld := 8) C (by decide) rfl rfl (by decide) kU_X4 kF_X4_20 rfl rfl dX4_turn_75 ?_
              refine hr_iload_n C dX4_turn_78 rfl 1 rfl ?_
              refine hr_iald (k := 18) (i := 0) q9 C (by decide) rfl rfl (show q9 < 64 by omega) (by decide) dX4_turn_79 ?_
              refine hr_tp (y := ((md_agL (hr_w S 14 0 1 ((S 14 0 1) + 1)) q9) 18 0 q9) + 1) (by simp [hr_w, hr_wA, upd]) ?_
              refine hr_bipush (v := 60) C dX4_turn_80 (by decide) ?_
              refine hr_icmp_ne C 93 dX4_turn_82 (by decide) (fun c82 => ?_) (fun c82 => ?_)
              · skip
                refine hr_aload_n C dX4_turn_93 rfl 0 rfl ?_
                refine hr_get (k := 14) (i := 0) (fld := 6) C (by decide) rfl rfl (by decide) kU_X4 kF_X4_13 rfl rfl dX4_turn_94 ?_
                refine hr_iload_n C dX4_turn_97 rfl 1 rfl ?_
                refine hr_iald (k := 16) (i := 0) q9 C (by decide) rfl rfl (show q9 < 64 by omega) (by decide) dX4_turn_98 ?_
                refine hr_tp (y := (md_agL (hr_w S 14 0 1 ((S 14 0 1) + 1)) q9) 16 0 q9) rfl ?_
                refine hr_bipush (v := 16) C dX4_turn_99 (by decide) ?_
                refine hr_icmp_ne C 129 dX4_turn_101 (by decide) (fun c101 => ?_) (fun c101 => ?_)
                · skip
                  refine hr_iinc (v := nI (q9 + 1)) C [(1, .int (nI (q9 + 1))), (0, .ref (hr_ad E 14 0))] dX4_turn_129 1 rfl (nI_add q9 1) (by decide) rfl ?_
                  refine hr_goto C 12 dX4_turn_132 (by decide) ?_
                  refine hr_sub [1, 0] rfl ?_
                  refine hr_st (S1 := md_agL (hr_w S 14 0 1 ((S 14 0 1) + 1)) (q9 + 1)) (by rw [md_agL, if_neg c24]; unfold md_age md_lt md_ag1; repeat (first | rw [if_pos c53] | rw [if_neg c53] | rw [if_neg (not_not_intro c53)] | rw [if_pos c71] | rw [if_neg c71] | rw [if_neg (not_not_intro c71)] | rw [if_pos c82] | rw [if_neg c82] | rw [if_neg (not_not_intro c82)] | rw [if_pos c101] | rw [if_neg c101] | rw [if_neg (not_not_intro c101)]); try rfl) ?_
                  exact ih (q9 + 1)  (by omega) (by omega)
                · skip
                  refine hr_aload_n C dX4_turn_104 rfl 0 rfl ?_
                  refine hr_get (k := 14) (i := 0) (fld := 8) C (by decide) rfl rfl (by decide) kU_X4 kF_X4_20 rfl rfl dX4_turn_105 ?_
                  refine hr_iload_n C dX4_turn_108 rfl 1 rfl ?_
                  refine hr_iald (k := 18) (i := 0) q9 C (by decide) rfl rfl (show q9 < 64 by omega) (by decide) dX4_turn_109 ?_
                  refine hr_tp (y := ((md_agL (hr_w S 14 0 1 ((S 14 0 1) + 1)) q9) 18 0 q9) + 1) (by simp [hr_w, hr_wA, upd]) ?_
                  refine hr_bipush (v := 50) C dX4_turn_110 (by decide) ?_
                  refine hr_icmp_ne C 129 dX4_turn_112 (by decide) (fun c112 => ?_) (fun c112 => ?_)
                  · skip
                    refine hr_iinc (v := nI (q9 + 1)) C [(1, .int (nI (q9 + 1))), (0, .ref (hr_ad E 14 0))] dX4_turn_129 1 rfl (nI_add q9 1) (by decide) rfl ?_
                    refine hr_goto C 12 dX4_turn_132 (by decide) ?_
                    refine hr_sub [1, 0] rfl ?_
                    refine hr_st (S1 := md_agL (hr_w S 14 0 1 ((S 14 0 1) + 1)) (q9 + 1)) (by rw [md_agL, if_neg c24]; unfold md_age md_lt md_ag1; repeat (first | rw [if_pos c53] | rw [if_neg c53] | rw [if_neg (not_not_intro c53)] | rw [if_pos c71] | rw [if_neg c71] | rw [if_neg (not_not_intro c71)] | rw [if_pos c82] | rw [if_neg c82] | rw [if_neg (not_not_intro c82)] | rw [if_pos c101] | rw [if_neg c101] | rw [if_neg (not_not_intro c101)] | rw [if_pos c112] | rw [if_neg c112] | rw [if_neg (not_not_intro c112)]); try rfl) ?_
                    exact ih (q9 + 1)  (by omega) (by omega)
                  · skip
                    refine hr_aload_n C dX4_turn_115 rfl 0 rfl ?_
                    refine hr_get (k := 14) (i := 0) (fld := 6) C (by decide) rfl rfl (by decide) kU_X4 kF_X4_13 rfl rfl dX4_turn_116 ?_
                    refine hr_iload_n C dX4_turn_119 rfl 1 rfl ?_
                    refine hr_iconst (v := 0) C dX4_turn_120 (by decide) ?_
                    refine hr_iast (k := 16) (i := 0) q9 C (by decide) rfl rfl (show q9 < 64 by omega) (by decide) (by simp [hr_cell, hr_wA]) rfl dX4_turn_121 ?_
                    refine hr_aload_n C dX4_turn_122 rfl 0 rfl ?_
                    refine hr_get (k := 14) (i := 0) (fld := 9) C (by decide) rfl rfl (by decide) kU_X4 kF_X4_23 rfl rfl dX4_turn_123 ?_
                    refine hr_iload_n C dX4_turn_126 rfl 1 rfl ?_
                    refine hr_iconst (v := 0) C dX4_turn_127 (by decide) ?_
                    refine hr_zast (k := 19) (i := 0) q9 C (by decide) rfl rfl (show q9 < 64 by omega) (by decide) (by simp [hr_cell, hr_wA]) rfl dX4_turn_128 ?_
                    refine hr_iinc (v := nI (q9 + 1)) C [(1, .int (nI (q9 + 1))), (0, .ref (hr_ad E 14 0))] dX4_turn_129 1 rfl (nI_add q9 1) (by decide) rfl ?_
                    refine hr_goto C 12 dX4_turn_132 (by decide) ?_
                    refine hr_sub [1, 0] rfl ?_
                    refine hr_st (S1 := md_agL (hr_w S 14 0 1 ((S 14 0 1) + 1)) (q9 + 1)) (by rw [md_agL, if_neg c24]; unfold md_age md_lt md_ag1; repeat (first | rw [if_pos c53] | rw [if_neg c53] | rw [if_neg (not_not_intro c53)] | rw [if_pos c71] | rw [if_neg c71] | rw [if_neg (not_not_intro c71)] | rw [if_pos c82] | rw [if_neg c82] | rw [if_neg (not_not_intro c82)] | rw [if_pos c101] | rw [if_neg c101] | rw [if_neg (not_not_intro c101)] | rw [if_pos c112] | rw [if_neg c112] | rw [if_neg (not_not_intro c112)]); try rfl) ?_
                    exact ih (q9 + 1)  (by omega) (by omega)
              · skip
                refine hr_aload_n C dX4_turn_85 rfl 0 rfl ?_
                refine hr_iload_n C dX4_turn_86 rfl 1 rfl ?_
                refine hr_cVv C (ct_X4_gone l E (hr_w (hr_w (md_agL (hr_w S 14 0 1 ((S 14 0 1) + 1)) q9) 18 0 q9 (((md_agL (hr_w S 14 0 1 ((S 14 0 1) + 1)) q9) 18 0 q9) + 1)) 20 0 q9 (((md_agL (hr_w S 14 0 1 ((S 14 0 1) + 1)) q9) 20 0 q9) - 1)) o q9 (by omega)) (cwV 1 C.1.2.2.2.2 (hr_gV kM_X4_87 kI_X4_gone kS_X4_gone kN_X4 kC_X4_gone) rfl rfl rfl (by decide +kernel) ⟨Nat.le_of_ble_eq_true rfl, Nat.le_of_ble_eq_true rfl⟩) (by decide) rfl rfl rfl (Nat.le_of_ble_eq_true rfl) dX4_turn_87 ⟨Nat.le_of_ble_eq_true rfl, Nat.le_of_ble_eq_true rfl⟩ (fun S8 h9 => ?_) rfl
                refine hr_st (S1 := (md_gone (hr_w (hr_w (md_agL (hr_w S 14 0 1 ((S 14 0 1) + 1)) q9) 18 0 q9 (((md_agL (hr_w S 14 0 1 ((S 14 0 1) + 1)) q9) 18 0 q9) + 1)) 20 0 q9 (((md_agL (hr_w S 14 0 1 ((S 14 0 1) + 1)) q9) 20 0 q9) - 1)) q9)) h9 ?_
                refine hr_goto C 129 dX4_turn_90 (by decide) ?_
                refine hr_iinc (v := nI (q9 + 1)) C [(1, .int (nI (q9 + 1))), (0, .ref (hr_ad E 14 0))] dX4_turn_129 1 rfl (nI_add q9 1) (by decide) rfl ?_
                refine hr_goto C 12 dX4_turn_132 (by decide) ?_
                refine hr_sub [1, 0] rfl ?_
                refine hr_st (S1 := md_agL (hr_w S 14 0 1 ((S 14 0 1) + 1)) (q9 + 1)) (by rw [md_agL, if_neg c24]; unfold md_age md_lt md_ag1; repeat (first | rw [if_pos c53] | rw [if_neg c53] | rw [if_neg (not_not_intro c53)] | rw [if_pos c71] | rw [if_neg c71] | rw [if_neg (not_not_intro c71)] | rw [if_pos c82] | rw [if_neg c82] | rw [if_neg (not_not_intro c82)]); try rfl) ?_
                exact ih (q9 + 1)  (by omega) (by omega)
        · skip
          refine hr_goto C 129 dX4_turn_27 (by decide) ?_
          refine hr_iinc (v := nI (q9 + 1)) C [(1, .int (nI (q9 + 1))), (0, .ref (hr_ad E 14 0))] dX4_turn_129 1 rfl (nI_add q9 1) (by decide) rfl ?_
          refine hr_goto C 12 dX4_turn_132 (by decide) ?_
          refine hr_sub [1, 0] rfl ?_
          refine hr_st (S1 := md_agL (hr_w S 14 0 1 ((S 14 0 1) + 1)) (q9 + 1)) (by rw [md_agL, if_pos c24]) ?_
          exact ih (q9 + 1)  (by omega) (by omega)
  refine hr_sub [1, 0] rfl ?_
  refine hr_st (S1 := md_agL (hr_w S 14 0 1 ((S 14 0 1) + 1)) 0) rfl ?_
  exact LP12 (64 + 1) 0  (by omega) (by omega)
set_option maxHeartbeats 4000000 in
set_option maxRecDepth 100000 in
theorem ct_X4_answer (l : Launch) (E : hr_E) (S : hr_S) (o : Int64) (r9 : Nat) (hr9 : r9 < 8) (x : Int32) (hI : hr_MI S) (hx : nb x 8) (hc : nb (S 14 0 18) 165) (h24 : 24 ≤ un (S 14 0 18)) (h20 : (un (S 14 0 18) - 4) % 20 = 0) : hr_Mv l E yX4_answer (Cond.code yX4_answer cX4_answer 6 none :: hr_W) ({ frames := 3, cells := 0, slots := 0, locals := 72 } : Room) [.ref (hr_ad E 14 0), .int (nI r9), .int x] S o (fun u => u = md_ans S r9 x) := by
  refine hr_of (by decide) (Nat.le_of_ble_eq_true rfl) (fun p e s m below meth c C hr => ?_)
  have hc2 := hc.2
  refine hr_aload_n C dX4_answer_0 rfl 0 rfl ?_
  refine hr_get (k := 14) (i := 0) (fld := 18) C (by decide) rfl rfl (by decide) kU_X4 kF_X4_90 rfl rfl dX4_answer_1 ?_
  refine hr_tp (y := nI (un (S 14 0 18))) hc.1 ?_
  refine hr_bipush (v := 24) C dX4_answer_4 (by decide) ?_
  refine hr_icmp_ne C 39 dX4_answer_6 (by decide) (fun c6 => ?_) (fun c6 => ?_)
  · skip
    have c6 : ¬ (un (S 14 0 18)) = 24 := fun h => c6 ((nI_eq (a := (un (S 14 0 18))) (b := 24) (by omega) (by omega)).mpr h)
    refine hr_aload_n C dX4_answer_39 rfl 0 rfl ?_
    refine hr_iconst (v := 2) C dX4_answer_40 (by decide) ?_
    refine hr_cVv C (ct_X4_begin l E S o 2) (cwV 1 C.1.2.2.2.2 (hr_gV kM_X4_72 kI_X4_begin kS_X4_begin kN_X4 kC_X4_begin) rfl rfl rfl (by decide +kernel) ⟨Nat.le_of_ble_eq_true rfl, Nat.le_of_ble_eq_true rfl⟩) (by decide) rfl rfl rfl (Nat.le_of_ble_eq_true rfl) dX4_answer_41 ⟨Nat.le_of_ble_eq_true rfl, Nat.le_of_ble_eq_true rfl⟩ (fun S2 h3 => ?_) rfl
    refine hr_st (S1 := (md_begin S 2)) h3 ?_
    refine hr_iconst (v := 4) C dX4_answer_44 (by decide) ?_
    refine hr_istore_n C [(3, .int 4), (0, .ref (hr_ad E 14 0)), (1, .int (nI r9)), (2, .int x)] dX4_answer_45 rfl (by decide) rfl ?_
    have LP46 : ∀ (n j9 : Nat) , j9 ≤ ((un (S 14 0 18) - 4) / 20) → ((un (S 14 0 18) - 4) / 20) + 1 ≤ j9 + n → hr_G p l e ({ frames := 3, cells := 0, slots := 0, locals := 72 } : Room) s m #[.ref (hr_ad E 14 0), .int (nI r9), .int x] below meth c (MQ below (va_Qv (fun u => u = md_ans S r9 x) (fun u t => hr_P E u o t.heap) (hr_A E)) #[.ref (hr_ad E 14 0), .int (nI r9), .int x] s 0 0 (hr_A E)) E 6 0 0 (md_anL (md_begin S 2) r9 j9) o [(0, .ref (hr_ad E 14 0)), (1, .int (nI r9)), (2, .int x), (3, .int (nI (4 + (20 * j9))))] 46 [] := by
      intro n
      induction n with
      | zero => intro j9  h1 h2; omega
      | succ n ih =>
        intro j9  hv1 hv2
        refine hr_iload_n C dX4_answer_46 rfl 3 rfl ?_
        refine hr_aload_n C dX4_answer_47 rfl 0 rfl ?_
        refine hr_get (k := 14) (i := 0) (fld := 18) C (by decide) rfl rfl (by decide) kU_X4 kF_X4_90 rfl rfl dX4_answer_48 ?_
        refine hr_tp (y := nI (un (S 14 0 18))) (by rw [md_anL_o (by decide) (by decide), md_begin_o (by decide) (by decide)]; exact hc.1) ?_
        refine hr_icmp_ge C 132 dX4_answer_51 (by decide) (fun c51 => ?_) (fun c51 => ?_)
        · skip
          have c51 : (un (S 14 0 18)) ≤ (4 + (20 * j9)) := (nI_leI (a := (un (S 14 0 18))) (b := (4 + (20 * j9))) (by omega) (by omega)).mp c51
          have c51n : ¬ (4 + (20 * j9)) < (un (S 14 0 18)) := Nat.not_lt.mpr c51
          have hmm := (mk_anL (mk_begin S 2) r9 j9 (by omega)).2.1
          refine hr_aload_n C dX4_answer_132 rfl 0 rfl ?_
          refine hr_get (k := 14) (i := 0) (fld := 16) C (by decide) rfl rfl (by decide) kU_X4 kF_X4_56 rfl rfl dX4_answer_133 ?_
          refine hr_tp (y := nI (md_m (md_anL (md_begin S 2) r9 j9))) (mk_anL (mk_begin S 2) r9 j9 (by omega)).1 ?_
          refine hr_iconst (v := 4) C dX4_answer_136 (by decide) ?_
          refine hr_icmp_le C 146 dX4_answer_137 (by decide) (fun c137 => ?_) (fun c137 => ?_)
          · skip
            have c137 : (md_m (md_anL (md_begin S 2) r9 j9)) ≤ 4 := (nI_leI (a := (md_m (md_anL (md_begin S 2) r9 j9))) (b := 4) (by omega) (by omega)).mp c137
            have c137n : ¬ 4 < (md_m (md_anL (md_begin S 2) r9 j9)) := Nat.not_lt.mpr c137
            exact hr_vret C hr dX4_answer_146 (by have e8 : md_ans1 S r9 = md_anL (md_begin S 2) r9 j9 := (by rw [show j9 = (un (S 14 0 18) - 4) / 20 by omega]; rfl); unfold md_ans; rw [if_neg (fun h => c6 h.1), e8, if_neg (by omega)])
          · skip
            have c137 : ¬ (md_m (md_anL (md_begin S 2) r9 j9)) ≤ 4 := fun h => c137 ((nI_leI (a := (md_m (md_anL (md_begin S 2) r9 j9))) (b := 4) (by omega) (by omega)).mpr h)
            have c137n : 4 < (md_m (md_anL (md_begin S 2) r9 j9)) := Nat.not_le.mp c137
            refine hr_aload_n C dX4_answer_140 rfl 0 rfl ?_
            refine hr_iload_n C dX4_answer_141 rfl 1 rfl ?_
            refine hr_iload_n C dX4_answer_142 rfl 2 rfl ?_
            refine hr_cVv C (ct_X4_post l E (md_anL (md_begin S 2) r9 j9) o (nI r9) x (MI_anL (MI_begin hI) j9) (mk_nb (B := 164) (mk_up (mk_anL (mk_begin S 2) r9 j9 (by omega)) (by omega)) (by decide))) (cwV 2 C.1.2.2.2.2 (hr_gV kM_X4_79 kI_X4_post kS_X4_post kN_X4 kC_X4_post) rfl rfl rfl (by decide +kernel) ⟨Nat.le_of_ble_eq_true rfl, Nat.le_of_ble_eq_true rfl⟩) (by decide) rfl rfl rfl (Nat.le_of_ble_eq_true rfl) dX4_answer_143 ⟨Nat.le_of_ble_eq_true rfl, Nat.le_of_ble_eq_true rfl⟩ (fun S5 h6 => ?_) rfl
            refine hr_st (S1 := (md_post (md_anL (md_begin S 2) r9 j9) (nI r9) x)) h6 ?_
            exact hr_vret C hr dX4_answer_146 (by have e8 : md_ans1 S r9 = md_anL (md_begin S 2) r9 j9 := (by rw [show j9 = (un (S 14 0 18) - 4) / 20 by omega]; rfl); unfold md_ans; rw [if_neg (fun h => c6 h.1), e8, if_pos (by omega)])
        · skip
          have c51 : ¬ (un (S 14 0 18)) ≤ (4 + (20 * j9)) := fun h => c51 ((nI_leI (a := (un (S 14 0 18))) (b := (4 + (20 * j9))) (by omega) (by omega)).mpr h)
          have c51n : (4 + (20 * j9)) < (un (S 14 0 18)) := Nat.not_le.mp c51
          refine hr_aload_n C dX4_answer_54 rfl 0 rfl ?_
          refine hr_iload_n C dX4_answer_55 rfl 3 rfl ?_
          refine hr_cVi C (ct_X4_isSound l E (md_anL (md_begin S 2) r9 j9) o (4 + (20 * j9)) (by omega)) (cwV 1 C.1.2.2.2.2 (hr_gV kM_X4_97 kI_X4_isSound kS_X4_isSound kN_X4 kC_X4_isSound) rfl rfl rfl (by decide +kernel) ⟨Nat.le_of_ble_eq_true rfl, Nat.le_of_ble_eq_true rfl⟩) (by decide) rfl rfl rfl (Nat.le_of_ble_eq_true rfl) dX4_answer_56 ⟨Nat.le_of_ble_eq_true rfl, Nat.le_of_ble_eq_true rfl⟩ (fun r7 S8 h9 => ?_) rfl
          refine hr_tp h9.1 ?_
          refine hr_st (S1 := (md_anL (md_begin S 2) r9 j9)) h9.2 ?_
          refine hr_if_eq C 126 dX4_answer_59 (by decide) (fun c59 => ?_) (fun c59 => ?_)
          · skip
            have c59 := hr_bz.mp c59
            have c59 : ¬ (md_sE (md_anL (md_begin S 2) r9 j9) (4 + (20 * j9))) := c59
            refine hr_iinc (v := nI (4 + (20 * j9) + 20)) C [(3, .int (nI (4 + (20 * j9) + 20))), (0, .ref (hr_ad E 14 0)), (1, .int (nI r9)), (2, .int x)] dX4_answer_126 3 rfl (nI_add (4 + (20 * j9)) 20) (by decide) rfl ?_
            refine hr_goto C 46 dX4_answer_129 (by decide) ?_
            refine hr_sub [1, 2, 3, 0] rfl ?_
            refine hr_lve (lv2 := [(0, .ref (hr_ad E 14 0)), (1, .int (nI r9)), (2, .int x), (3, .int (nI (4 + (20 * (j9 + 1)))))]) (by rw [show 4 + (20 * (j9 + 1)) = 4 + (20 * j9) + 20 by omega]; rfl) ?_
            refine hr_st (S1 := md_anL (md_begin S 2) r9 (j9 + 1)) (by rw [md_anL, if_neg c59]) ?_
            exact ih (j9 + 1)  (by omega) (by omega)
          · skip
            have c59 := hr_bn.mp c59
            have c59 : md_sE (md_anL (md_begin S 2) r9 j9) (4 + (20 * j9)) := c59
            have hd9 := (nb_07 c59.2.1).2
            refine hr_aload_n C dX4_answer_62 rfl 0 rfl ?_
            refine hr_get (k := 14) (i := 0) (fld := 19) C (by decide) rfl rfl (by decide) kU_X4 kF_X4_45 rfl rfl dX4_answer_63 ?_
            refine hr_iload_n C dX4_answer_66 rfl 3 rfl ?_
            refine hr_bipush (v := 6) C dX4_answer_67 (by decide) ?_
            refine hr_iadd (v := nI ((4 + (20 * j9)) + 6)) C dX4_answer_69 (nI_add (4 + (20 * j9)) 6) ?_
            refine hr_iald (k := 26) (i := 0) ((4 + (20 * j9)) + 6) C (by decide) rfl rfl (show (4 + (20 * j9)) + 6 < 164 by omega) (by decide) dX4_answer_70 ?_
            refine hr_tp (y := nI (un ((md_anL (md_begin S 2) r9 j9) 26 0 ((4 + (20 * j9)) + 6)))) (nb_07 c59.2.1).1 ?_
            refine hr_istore C [(4, .int (nI (un ((md_anL (md_begin S 2) r9 j9) 26 0 ((4 + (20 * j9)) + 6))))), (0, .ref (hr_ad E 14 0)), (1, .int (nI r9)), (2, .int x), (3, .int (nI (4 + (20 * j9))))] dX4_answer_71 (by decide) rfl ?_
            refine hr_iload C dX4_answer_73 0 rfl ?_
            refine hr_iload_n C dX4_answer_75 rfl 2 rfl ?_
            refine hr_icmp_ne C 83 dX4_answer_76 (by decide) (fun c76 => ?_) (fun c76 => ?_)
            · skip
              have c76 : ¬ (un ((md_anL (md_begin S 2) r9 j9) 26 0 ((4 + (20 * j9)) + 6))) = r9 := fun h => c76 ((nI_eq (a := (un ((md_anL (md_begin S 2) r9 j9) 26 0 ((4 + (20 * j9)) + 6)))) (b := r9) (by omega) (by omega)).mpr h)
              refine hr_aload_n C dX4_answer_83 rfl 1 rfl ?_
              refine hr_get (k := 14) (i := 0) (fld := 6) C (by decide) rfl rfl (by decide) kU_X4 kF_X4_13 rfl rfl dX4_answer_84 ?_
              refine hr_bipush (v := 8) C dX4_answer_87 (by decide) ?_
              refine hr_iload_n C dX4_answer_89 rfl 2 rfl ?_
              refine hr_imul (v := nI (8 * r9)) C dX4_answer_90 (pk_mul 8 r9) ?_
              refine hr_iload C dX4_answer_91 0 rfl ?_
              refine hr_iadd (v := nI ((8 * r9) + (un ((md_anL (md_begin S 2) r9 j9) 26 0 ((4 + (20 * j9)) + 6))))) C dX4_answer_93 (nI_add (8 * r9) (un ((md_anL (md_begin S 2) r9 j9) 26 0 ((4 + (20 * j9)) + 6)))) ?_
              refine hr_iald (k := 16) (i := 0) ((8 * r9) + (un ((md_anL (md_begin S 2) r9 j9) 26 0 ((4 + (20 * j9)) + 6)))) C (by decide) rfl rfl (show (8 * r9) + (un ((md_anL (md_begin S 2) r9 j9) 26 0 ((4 + (20 * j9)) + 6))) < 64 by omega) (by decide) dX4_answer_94 ?_
              refine hr_if_ne C 103 dX4_answer_95 (by decide) (fun c95 => ?_) (fun c95 => ?_)
              · skip
                refine hr_aload_n C dX4_answer_103 rfl 1 rfl ?_
                refine hr_get (k := 14) (i := 0) (fld := 6) C (by decide) rfl rfl (by decide) kU_X4 kF_X4_13 rfl rfl dX4_answer_104 ?_
                refine hr_bipush (v := 8) C dX4_answer_107 (by decide) ?_
                refine hr_iload_n C dX4_answer_109 rfl 2 rfl ?_
                refine hr_imul (v := nI (8 * r9)) C dX4_answer_110 (pk_mul 8 r9) ?_
                refine hr_iload C dX4_answer_111 0 rfl ?_
                refine hr_iadd (v := nI ((8 * r9) + (un ((md_anL (md_begin S 2) r9 j9) 26 0 ((4 + (20 * j9)) + 6))))) C dX4_answer_113 (nI_add (8 * r9) (un ((md_anL (md_begin S 2) r9 j9) 26 0 ((4 + (20 * j9)) + 6)))) ?_
                refine hr_iald (k := 16) (i := 0) ((8 * r9) + (un ((md_anL (md_begin S 2) r9 j9) 26 0 ((4 + (20 * j9)) + 6)))) C (by decide) rfl rfl (show (8 * r9) + (un ((md_anL (md_begin S 2) r9 j9) 26 0 ((4 + (20 * j9)) + 6))) < 64 by omega) (by decide) dX4_answer_114 ?_
                refine hr_istore C [(5, .int ((md_anL (md_begin S 2) r9 j9) 16 0 ((8 * r9) + (un ((md_anL (md_begin S 2) r9 j9) 26 0 ((4 + (20 * j9)) + 6)))))), (4, .int (nI (un ((md_anL (md_begin S 2) r9 j9) 26 0 ((4 + (20 * j9)) + 6))))), (0, .ref (hr_ad E 14 0)), (1, .int (nI r9)), (2, .int x), (3, .int (nI (4 + (20 * j9))))] dX4_answer_115 (by decide) rfl ?_
                refine hr_aload_n C dX4_answer_117 rfl 2 rfl ?_
                refine hr_iconst (v := 2) C dX4_answer_118 (by decide) ?_
                refine hr_iload C dX4_answer_119 1 rfl ?_
                refine hr_iload C dX4_answer_121 0 rfl ?_
                refine hr_cVv C (ct_X4_entry l E (md_anL (md_begin S 2) r9 j9) o 2 (nI (un ((md_anL (md_begin S 2) r9 j9) 26 0 ((4 + (20 * j9)) + 6)))) ((md_anL (md_begin S 2) r9 j9) 16 0 ((8 * r9) + (un ((md_anL (md_begin S 2) r9 j9) 26 0 ((4 + (20 * j9)) + 6))))) (md_m (md_anL (md_begin S 2) r9 j9)) ((mk_anL (mk_begin S 2) r9 j9 (by omega)).1) (by have := (mk_anL (mk_begin S 2) r9 j9 (by omega)).2.1; omega)) (cwV 3 C.1.2.2.2.2 (hr_gV kM_X4_75 kI_X4_entry kS_X4_entry kN_X4 kC_X4_entry) rfl rfl rfl (by decide +kernel) ⟨Nat.le_of_ble_eq_true rfl, Nat.le_of_ble_eq_true rfl⟩) (by decide) rfl rfl rfl (Nat.le_of_ble_eq_true rfl) dX4_answer_123 ⟨Nat.le_of_ble_eq_true rfl, Nat.le_of_ble_eq_true rfl⟩ (fun S11 h12 => ?_) rfl
                refine hr_st (S1 := (md_entry (md_anL (md_begin S 2) r9 j9) (md_m (md_anL (md_begin S 2) r9 j9)) 2 (nI (un ((md_anL (md_begin S 2) r9 j9) 26 0 ((4 + (20 * j9)) + 6)))) ((md_anL (md_begin S 2) r9 j9) 16 0 ((8 * r9) + (un ((md_anL (md_begin S 2) r9 j9) 26 0 ((4 + (20 * j9)) + 6))))))) h12 ?_
                refine hr_iinc (v := nI (4 + (20 * j9) + 20)) C [(3, .int (nI (4 + (20 * j9) + 20))), (5, .int ((md_anL (md_begin S 2) r9 j9) 16 0 ((8 * r9) + (un ((md_anL (md_begin S 2) r9 j9) 26 0 ((4 + (20 * j9)) + 6)))))), (4, .int (nI (un ((md_anL (md_begin S 2) r9 j9) 26 0 ((4 + (20 * j9)) + 6))))), (0, .ref (hr_ad E 14 0)), (1, .int (nI r9)), (2, .int x)] dX4_answer_126 5 rfl (nI_add (4 + (20 * j9)) 20) (by decide) rfl ?_
                refine hr_goto C 46 dX4_answer_129 (by decide) ?_
                refine hr_sub [3, 4, 5, 0] rfl ?_
                refine hr_lve (lv2 := [(0, .ref (hr_ad E 14 0)), (1, .int (nI r9)), (2, .int x), (3, .int (nI (4 + (20 * (j9 + 1)))))]) (by rw [show 4 + (20 * (j9 + 1)) = 4 + (20 * j9) + 20 by omega]; rfl) ?_
                refine hr_st (S1 := md_anL (md_begin S 2) r9 (j9 + 1)) (by rw [md_anL, if_pos c59]; unfold md_mans; rw [if_neg c76, if_neg c95]) ?_
                exact ih (j9 + 1)  (by omega) (by omega)
              · skip
                refine hr_bipush (v := 16) C dX4_answer_98 (by decide) ?_
                refine hr_goto C 115 dX4_answer_100 (by decide) ?_
                refine hr_istore C [(5, .int 16), (4, .int (nI (un ((md_anL (md_begin S 2) r9 j9) 26 0 ((4 + (20 * j9)) + 6))))), (0, .ref (hr_ad E 14 0)), (1, .int (nI r9)), (2, .int x), (3, .int (nI (4 + (20 * j9))))] dX4_answer_115 (by decide) rfl ?_
                refine hr_aload_n C dX4_answer_117 rfl 2 rfl ?_
                refine hr_iconst (v := 2) C dX4_answer_118 (by decide) ?_
                refine hr_iload C dX4_answer_119 1 rfl ?_
                refine hr_iload C dX4_answer_121 0 rfl ?_
                refine hr_cVv C (ct_X4_entry l E (md_anL (md_begin S 2) r9 j9) o 2 (nI (un ((md_anL (md_begin S 2) r9 j9) 26 0 ((4 + (20 * j9)) + 6)))) 16 (md_m (md_anL (md_begin S 2) r9 j9)) ((mk_anL (mk_begin S 2) r9 j9 (by omega)).1) (by have := (mk_anL (mk_begin S 2) r9 j9 (by omega)).2.1; omega)) (cwV 3 C.1.2.2.2.2 (hr_gV kM_X4_75 kI_X4_entry kS_X4_entry kN_X4 kC_X4_entry) rfl rfl rfl (by decide +kernel) ⟨Nat.le_of_ble_eq_true rfl, Nat.le_of_ble_eq_true rfl⟩) (by decide) rfl rfl rfl (Nat.le_of_ble_eq_true rfl) dX4_answer_123 ⟨Nat.le_of_ble_eq_true rfl, Nat.le_of_ble_eq_true rfl⟩ (fun S14 h15 => ?_) rfl
                refine hr_st (S1 := (md_entry (md_anL (md_begin S 2) r9 j9) (md_m (md_anL (md_begin S 2) r9 j9)) 2 (nI (un ((md_anL (md_begin S 2) r9 j9) 26 0 ((4 + (20 * j9)) + 6)))) 16)) h15 ?_
                refine hr_iinc (v := nI (4 + (20 * j9) + 20)) C [(3, .int (nI (4 + (20 * j9) + 20))), (5, .int 16), (4, .int (nI (un ((md_anL (md_begin S 2) r9 j9) 26 0 ((4 + (20 * j9)) + 6))))), (0, .ref (hr_ad E 14 0)), (1, .int (nI r9)), (2, .int x)] dX4_answer_126 5 rfl (nI_add (4 + (20 * j9)) 20) (by decide) rfl ?_
                refine hr_goto C 46 dX4_answer_129 (by decide) ?_
                refine hr_sub [3, 4, 5, 0] rfl ?_
                refine hr_lve (lv2 := [(0, .ref (hr_ad E 14 0)), (1, .int (nI r9)), (2, .int x), (3, .int (nI (4 + (20 * (j9 + 1)))))]) (by rw [show 4 + (20 * (j9 + 1)) = 4 + (20 * j9) + 20 by omega]; rfl) ?_
                refine hr_st (S1 := md_anL (md_begin S 2) r9 (j9 + 1)) (by rw [md_anL, if_pos c59]; unfold md_mans; rw [if_neg c76, if_pos c95]) ?_
                exact ih (j9 + 1)  (by omega) (by omega)
            · skip
              have c76 : (un ((md_anL (md_begin S 2) r9 j9) 26 0 ((4 + (20 * j9)) + 6))) = r9 := (nI_eq (a := (un ((md_anL (md_begin S 2) r9 j9) 26 0 ((4 + (20 * j9)) + 6)))) (b := r9) (by omega) (by omega)).mp c76
              refine hr_iconst (v := 1) C dX4_answer_79 (by decide) ?_
              refine hr_goto C 115 dX4_answer_80 (by decide) ?_
              refine hr_istore C [(5, .int 1), (4, .int (nI (un ((md_anL (md_begin S 2) r9 j9) 26 0 ((4 + (20 * j9)) + 6))))), (0, .ref (hr_ad E 14 0)), (1, .int (nI r9)), (2, .int x), (3, .int (nI (4 + (20 * j9))))] dX4_answer_115 (by decide) rfl ?_
              refine hr_aload_n C dX4_answer_117 rfl 2 rfl ?_
              refine hr_iconst (v := 2) C dX4_answer_118 (by decide) ?_
              refine hr_iload C dX4_answer_119 1 rfl ?_
              refine hr_iload C dX4_answer_121 0 rfl ?_
              refine hr_cVv C (ct_X4_entry l E (md_anL (md_begin S 2) r9 j9) o 2 (nI (un ((md_anL (md_begin S 2) r9 j9) 26 0 ((4 + (20 * j9)) + 6)))) 1 (md_m (md_anL (md_begin S 2) r9 j9)) ((mk_anL (mk_begin S 2) r9 j9 (by omega)).1) (by have := (mk_anL (mk_begin S 2) r9 j9 (by omega)).2.1; omega)) (cwV 3 C.1.2.2.2.2 (hr_gV kM_X4_75 kI_X4_entry kS_X4_entry kN_X4 kC_X4_entry) rfl rfl rfl (by decide +kernel) ⟨Nat.le_of_ble_eq_true rfl, Nat.le_of_ble_eq_true rfl⟩) (by decide) rfl rfl rfl (Nat.le_of_ble_eq_true rfl) dX4_answer_123 ⟨Nat.le_of_ble_eq_true rfl, Nat.le_of_ble_eq_true rfl⟩ (fun S17 h18 => ?_) rfl
              refine hr_st (S1 := (md_entry (md_anL (md_begin S 2) r9 j9) (md_m (md_anL (md_begin S 2) r9 j9)) 2 (nI (un ((md_anL (md_begin S 2) r9 j9) 26 0 ((4 + (20 * j9)) + 6)))) 1)) h18 ?_
              refine hr_iinc (v := nI (4 + (20 * j9) + 20)) C [(3, .int (nI (4 + (20 * j9) + 20))), (5, .int 1), (4, .int (nI (un ((md_anL (md_begin S 2) r9 j9) 26 0 ((4 + (20 * j9)) + 6))))), (0, .ref (hr_ad E 14 0)), (1, .int (nI r9)), (2, .int x)] dX4_answer_126 5 rfl (nI_add (4 + (20 * j9)) 20) (by decide) rfl ?_
              refine hr_goto C 46 dX4_answer_129 (by decide) ?_
              refine hr_sub [3, 4, 5, 0] rfl ?_
              refine hr_lve (lv2 := [(0, .ref (hr_ad E 14 0)), (1, .int (nI r9)), (2, .int x), (3, .int (nI (4 + (20 * (j9 + 1)))))]) (by rw [show 4 + (20 * (j9 + 1)) = 4 + (20 * j9) + 20 by omega]; rfl) ?_
              refine hr_st (S1 := md_anL (md_begin S 2) r9 (j9 + 1)) (by rw [md_anL, if_pos c59]; unfold md_mans; rw [if_pos c76]) ?_
              exact ih (j9 + 1)  (by omega) (by omega)
    refine hr_sub [1, 2, 3, 0] rfl ?_
    refine hr_lve (lv2 := [(0, .ref (hr_ad E 14 0)), (1, .int (nI r9)), (2, .int x), (3, .int (nI (4 + (20 * 0))))]) rfl ?_
    refine hr_st (S1 := md_anL (md_begin S 2) r9 0) rfl ?_
    exact LP46 (((un (S 14 0 18) - 4) / 20) + 1) 0  (by omega) (by omega)
  · skip
    have c6 : (un (S 14 0 18)) = 24 := (nI_eq (a := (un (S 14 0 18))) (b := 24) (by omega) (by omega)).mp c6
    refine hr_aload_n C dX4_answer_9 rfl 0 rfl ?_
    refine hr_iconst (v := 4) C dX4_answer_10 (by decide) ?_
    refine hr_iconst (v := 0) C dX4_answer_11 (by decide) ?_
    refine hr_cVi C (ct_X4_isFilled l E S o 4 (by omega) 0) (cwV 2 C.1.2.2.2.2 (hr_gV kM_X4_83 kI_X4_isFilled kS_X4_isFilled kN_X4 kC_X4_isFilled) rfl rfl rfl (by decide +kernel) ⟨Nat.le_of_ble_eq_true rfl, Nat.le_of_ble_eq_true rfl⟩) (by decide) rfl rfl rfl (Nat.le_of_ble_eq_true rfl) dX4_answer_12 ⟨Nat.le_of_ble_eq_true rfl, Nat.le_of_ble_eq_true rfl⟩ (fun r19 S20 h21 => ?_) rfl
    refine hr_tp h21.1 ?_
    refine hr_st (S1 := S) h21.2 ?_
    refine hr_if_eq C 39 dX4_answer_15 (by decide) (fun c15 => ?_) (fun c15 => ?_)
    · skip
      have c15 := hr_bz.mp c15
      have c15 : ¬ (md_fb S 4 0 11 = true) := c15
      refine hr_aload_n C dX4_answer_39 rfl 0 rfl ?_
      refine hr_iconst (v := 2) C dX4_answer_40 (by decide) ?_
      refine hr_cVv C (ct_X4_begin l E S o 2) (cwV 1 C.1.2.2.2.2 (hr_gV kM_X4_72 kI_X4_begin kS_X4_begin kN_X4 kC_X4_begin) rfl rfl rfl (by decide +kernel) ⟨Nat.le_of_ble_eq_true rfl, Nat.le_of_ble_eq_true rfl⟩) (by decide) rfl rfl rfl (Nat.le_of_ble_eq_true rfl) dX4_answer_41 ⟨Nat.le_of_ble_eq_true rfl, Nat.le_of_ble_eq_true rfl⟩ (fun S23 h24 => ?_) rfl
      refine hr_st (S1 := (md_begin S 2)) h24 ?_
      refine hr_iconst (v := 4) C dX4_answer_44 (by decide) ?_
      refine hr_istore_n C [(3, .int 4), (0, .ref (hr_ad E 14 0)), (1, .int (nI r9)), (2, .int x)] dX4_answer_45 rfl (by decide) rfl ?_
      have LP46 : ∀ (n j9 : Nat) , j9 ≤ ((un (S 14 0 18) - 4) / 20) → ((un (S 14 0 18) - 4) / 20) + 1 ≤ j9 + n → hr_G p l e ({ frames := 3, cells := 0, slots := 0, locals := 72 } : Room) s m #[.ref (hr_ad E 14 0), .int (nI r9), .int x] below meth c (MQ below (va_Qv (fun u => u = md_ans S r9 x) (fun u t => hr_P E u o t.heap) (hr_A E)) #[.ref (hr_ad E 14 0), .int (nI r9), .int x] s 0 0 (hr_A E)) E 6 0 0 (md_anL (md_begin S 2) r9 j9) o [(0, .ref (hr_ad E 14 0)), (1, .int (nI r9)), (2, .int x), (3, .int (nI (4 + (20 * j9))))] 46 [] := by
        intro n
        induction n with
        | zero => intro j9  h1 h2; omega
        | succ n ih =>
          intro j9  hv1 hv2
          refine hr_iload_n C dX4_answer_46 rfl 3 rfl ?_
          refine hr_aload_n C dX4_answer_47 rfl 0 rfl ?_
          refine hr_get (k := 14) (i := 0) (fld := 18) C (by decide) rfl rfl (by decide) kU_X4 kF_X4_90 rfl rfl dX4_answer_48 ?_
          refine hr_tp (y := nI (un (S 14 0 18))) (by rw [md_anL_o (by decide) (by decide), md_begin_o (by decide) (by decide)]; exact hc.1) ?_
          refine hr_icmp_ge C 132 dX4_answer_51 (by decide) (fun c51 => ?_) (fun c51 => ?_)
          · skip
            have c51 : (un (S 14 0 18)) ≤ (4 + (20 * j9)) := (nI_leI (a := (un (S 14 0 18))) (b := (4 + (20 * j9))) (by omega) (by omega)).mp c51
            have c51n : ¬ (4 + (20 * j9)) < (un (S 14 0 18)) := Nat.not_lt.mpr c51
            have hmm := (mk_anL (mk_begin S 2) r9 j9 (by omega)).2.1
            refine hr_aload_n C dX4_answer_132 rfl 0 rfl ?_
            refine hr_get (k := 14) (i := 0) (fld := 16) C (by decide) rfl rfl (by decide) kU_X4 kF_X4_56 rfl rfl dX4_answer_133 ?_
            refine hr_tp (y := nI (md_m (md_anL (md_begin S 2) r9 j9))) (mk_anL (mk_begin S 2) r9 j9 (by omega)).1 ?_
            refine hr_iconst (v := 4) C dX4_answer_136 (by decide) ?_
            refine hr_icmp_le C 146 dX4_answer_137 (by decide) (fun c137 => ?_) (fun c137 => ?_)
            · skip
              have c137 : (md_m (md_anL (md_begin S 2) r9 j9)) ≤ 4 := (nI_leI (a := (md_m (md_anL (md_begin S 2) r9 j9))) (b := 4) (by omega) (by omega)).mp c137
              have c137n : ¬ 4 < (md_m (md_anL (md_begin S 2) r9 j9)) := Nat.not_lt.mpr c137
              exact hr_vret C hr dX4_answer_146 (by have e8 : md_ans1 S r9 = md_anL (md_begin S 2) r9 j9 := (by rw [show j9 = (un (S 14 0 18) - 4) / 20 by omega]; rfl); unfold md_ans; rw [if_neg (fun h => c15 h.2.1), e8, if_neg (by omega)])
            · skip
              have c137 : ¬ (md_m (md_anL (md_begin S 2) r9 j9)) ≤ 4 := fun h => c137 ((nI_leI (a := (md_m (md_anL (md_begin S 2) r9 j9))) (b := 4) (by omega) (by omega)).mpr h)
              have c137n : 4 < (md_m (md_anL (md_begin S 2) r9 j9)) := Nat.not_le.mp c137
              refine hr_aload_n C dX4_answer_140 rfl 0 rfl ?_
              refine hr_iload_n C dX4_answer_141 rfl 1 rfl ?_
              refine hr_iload_n C dX4_answer_142 rfl 2 rfl ?_
              refine hr_cVv C (ct_X4_post l E (md_anL (md_begin S 2) r9 j9) o (nI r9) x (MI_anL (MI_begin hI) j9) (mk_nb (B := 164) (mk_up (mk_anL (mk_begin S 2) r9 j9 (by omega)) (by omega)) (by decide))) (cwV 2 C.1.2.2.2.2 (hr_gV kM_X4_79 kI_X4_post kS_X4_post kN_X4 kC_X4_post) rfl rfl rfl (by decide +kernel) ⟨Nat.le_of_ble_eq_true rfl, Nat.le_of_ble_eq_true rfl⟩) (by decide) rfl rfl rfl (Nat.le_of_ble_eq_true rfl) dX4_answer_143 ⟨Nat.le_of_ble_eq_true rfl, Nat.le_of_ble_eq_true rfl⟩ (fun S26 h27 => ?_) rfl
              refine hr_st (S1 := (md_post (md_anL (md_begin S 2) r9 j9) (nI r9) x)) h27 ?_
              exact hr_vret C hr dX4_answer_146 (by have e8 : md_ans1 S r9 = md_anL (md_begin S 2) r9 j9 := (by rw [show j9 = (un (S 14 0 18) - 4) / 20 by omega]; rfl); unfold md_ans; rw [if_neg (fun h => c15 h.2.1), e8, if_pos (by omega)])
          · skip
            have c51 : ¬ (un (S 14 0 18)) ≤ (4 + (20 * j9)) := fun h => c51 ((nI_leI (a := (un (S 14 0 18))) (b := (4 + (20 * j9))) (by omega) (by omega)).mpr h)
            have c51n : (4 + (20 * j9)) < (un (S 14 0 18)) := Nat.not_le.mp c51
            refine hr_aload_n C dX4_answer_54 rfl 0 rfl ?_
            refine hr_iload_n C dX4_answer_55 rfl 3 rfl ?_
            refine hr_cVi C (ct_X4_isSound l E (md_anL (md_begin S 2) r9 j9) o (4 + (20 * j9)) (by omega)) (cwV 1 C.1.2.2.2.2 (hr_gV kM_X4_97 kI_X4_isSound kS_X4_isSound kN_X4 kC_X4_isSound) rfl rfl rfl (by decide +kernel) ⟨Nat.le_of_ble_eq_true rfl, Nat.le_of_ble_eq_true rfl⟩) (by decide) rfl rfl rfl (Nat.le_of_ble_eq_true rfl) dX4_answer_56 ⟨Nat.le_of_ble_eq_true rfl, Nat.le_of_ble_eq_true rfl⟩ (fun r28 S29 h30 => ?_) rfl
            refine hr_tp h30.1 ?_
            refine hr_st (S1 := (md_anL (md_begin S 2) r9 j9)) h30.2 ?_
            refine hr_if_eq C 126 dX4_answer_59 (by decide) (fun c59 => ?_) (fun c59 => ?_)
            · skip
              have c59 := hr_bz.mp c59
              have c59 : ¬ (md_sE (md_anL (md_begin S 2) r9 j9) (4 + (20 * j9))) := c59
              refine hr_iinc (v := nI (4 + (20 * j9) + 20)) C [(3, .int (nI (4 + (20 * j9) + 20))), (0, .ref (hr_ad E 14 0)), (1, .int (nI r9)), (2, .int x)] dX4_answer_126 3 rfl (nI_add (4 + (20 * j9)) 20) (by decide) rfl ?_
              refine hr_goto C 46 dX4_answer_129 (by decide) ?_
              refine hr_sub [1, 2, 3, 0] rfl ?_
              refine hr_lve (lv2 := [(0, .ref (hr_ad E 14 0)), (1, .int (nI r9)), (2, .int x), (3, .int (nI (4 + (20 * (j9 + 1)))))]) (by rw [show 4 + (20 * (j9 + 1)) = 4 + (20 * j9) + 20 by omega]; rfl) ?_
              refine hr_st (S1 := md_anL (md_begin S 2) r9 (j9 + 1)) (by rw [md_anL, if_neg c59]) ?_
              exact ih (j9 + 1)  (by omega) (by omega)
            · skip
              have c59 := hr_bn.mp c59
              have c59 : md_sE (md_anL (md_begin S 2) r9 j9) (4 + (20 * j9)) := c59
              have hd9 := (nb_07 c59.2.1).2
              refine hr_aload_n C dX4_answer_62 rfl 0 rfl ?_
              refine hr_get (k := 14) (i := 0) (fld := 19) C (by decide) rfl rfl (by decide) kU_X4 kF_X4_45 rfl rfl dX4_answer_63 ?_
              refine hr_iload_n C dX4_answer_66 rfl 3 rfl ?_
              refine hr_bipush (v := 6) C dX4_answer_67 (by decide) ?_
              refine hr_iadd (v := nI ((4 + (20 * j9)) + 6)) C dX4_answer_69 (nI_add (4 + (20 * j9)) 6) ?_
              refine hr_iald (k := 26) (i := 0) ((4 + (20 * j9)) + 6) C (by decide) rfl rfl (show (4 + (20 * j9)) + 6 < 164 by omega) (by decide) dX4_answer_70 ?_
              refine hr_tp (y := nI (un ((md_anL (md_begin S 2) r9 j9) 26 0 ((4 + (20 * j9)) + 6)))) (nb_07 c59.2.1).1 ?_
              refine hr_istore C [(4, .int (nI (un ((md_anL (md_begin S 2) r9 j9) 26 0 ((4 + (20 * j9)) + 6))))), (0, .ref (hr_ad E 14 0)), (1, .int (nI r9)), (2, .int x), (3, .int (nI (4 + (20 * j9))))] dX4_answer_71 (by decide) rfl ?_
              refine hr_iload C dX4_answer_73 0 rfl ?_
              refine hr_iload_n C dX4_answer_75 rfl 2 rfl ?_
              refine hr_icmp_ne C 83 dX4_answer_76 (by decide) (fun c76 => ?_) (fun c76 => ?_)
              · skip
                have c76 : ¬ (un ((md_anL (md_begin S 2) r9 j9) 26 0 ((4 + (20 * j9)) + 6))) = r9 := fun h => c76 ((nI_eq (a := (un ((md_anL (md_begin S 2) r9 j9) 26 0 ((4 + (20 * j9)) + 6)))) (b := r9) (by omega) (by omega)).mpr h)
                refine hr_aload_n C dX4_answer_83 rfl 1 rfl ?_
                refine hr_get (k := 14) (i := 0) (fld := 6) C (by decide) rfl rfl (by decide) kU_X4 kF_X4_13 rfl rfl dX4_answer_84 ?_
                refine hr_bipush (v := 8) C dX4_answer_87 (by decide) ?_
                refine hr_iload_n C dX4_answer_89 rfl 2 rfl ?_
                refine hr_imul (v := nI (8 * r9)) C dX4_answer_90 (pk_mul 8 r9) ?_
                refine hr_iload C dX4_answer_91 0 rfl ?_
                refine hr_iadd (v := nI ((8 * r9) + (un ((md_anL (md_begin S 2) r9 j9) 26 0 ((4 + (20 * j9)) + 6))))) C dX4_answer_93 (nI_add (8 * r9) (un ((md_anL (md_begin S 2) r9 j9) 26 0 ((4 + (20 * j9)) + 6)))) ?_
                refine hr_iald (k := 16) (i := 0) ((8 * r9) + (un ((md_anL (md_begin S 2) r9 j9) 26 0 ((4 + (20 * j9)) + 6)))) C (by decide) rfl rfl (show (8 * r9) + (un ((md_anL (md_begin S 2) r9 j9) 26 0 ((4 + (20 * j9)) + 6))) < 64 by omega) (by decide) dX4_answer_94 ?_
                refine hr_if_ne C 103 dX4_answer_95 (by decide) (fun c95 => ?_) (fun c95 => ?_)
                · skip
                  refine hr_aload_n C dX4_answer_103 rfl 1 rfl ?_
                  refine hr_get (k := 14) (i := 0) (fld := 6) C (by decide) rfl rfl (by decide) kU_X4 kF_X4_13 rfl rfl dX4_answer_104 ?_
                  refine hr_bipush (v := 8) C dX4_answer_107 (by decide) ?_
                  refine hr_iload_n C dX4_answer_109 rfl 2 rfl ?_
                  refine hr_imul (v := nI (8 * r9)) C dX4_answer_110 (pk_mul 8 r9) ?_
                  refine hr_iload C dX4_answer_111 0 rfl ?_
                  refine hr_iadd (v := nI ((8 * r9) + (un ((md_anL (md_begin S 2) r9 j9) 26 0 ((4 + (20 * j9)) + 6))))) C dX4_answer_113 (nI_add (8 * r9) (un ((md_anL (md_begin S 2) r9 j9) 26 0 ((4 + (20 * j9)) + 6)))) ?_
                  refine hr_iald (k := 16) (i := 0) ((8 * r9) + (un ((md_anL (md_begin S 2) r9 j9) 26 0 ((4 + (20 * j9)) + 6)))) C (by decide) rfl rfl (show (8 * r9) + (un ((md_anL (md_begin S 2) r9 j9) 26 0 ((4 + (20 * j9)) + 6))) < 64 by omega) (by decide) dX4_answer_114 ?_
                  refine hr_istore C [(5, .int ((md_anL (md_begin S 2) r9 j9) 16 0 ((8 * r9) + (un ((md_anL (md_begin S 2) r9 j9) 26 0 ((4 + (20 * j9)) + 6)))))), (4, .int (nI (un ((md_anL (md_begin S 2) r9 j9) 26 0 ((4 + (20 * j9)) + 6))))), (0, .ref (hr_ad E 14 0)), (1, .int (nI r9)), (2, .int x), (3, .int (nI (4 + (20 * j9))))] dX4_answer_115 (by decide) rfl ?_
                  refine hr_aload_n C dX4_answer_117 rfl 2 rfl ?_
                  refine hr_iconst (v := 2) C dX4_answer_118 (by decide) ?_
                  refine hr_iload C dX4_answer_119 1 rfl ?_
                  refine hr_iload C dX4_answer_121 0 rfl ?_
                  refine hr_cVv C (ct_X4_entry l E (md_anL (md_begin S 2) r9 j9) o 2 (nI (un ((md_anL (md_begin S 2) r9 j9) 26 0 ((4 + (20 * j9)) + 6)))) ((md_anL (md_begin S 2) r9 j9) 16 0 ((8 * r9) + (un ((md_anL (md_begin S 2) r9 j9) 26 0 ((4 + (20 * j9)) + 6))))) (md_m (md_anL (md_begin S 2) r9 j9)) ((mk_anL (mk_begin S 2) r9 j9 (by omega)).1) (by have := (mk_anL (mk_begin S 2) r9 j9 (by omega)).2.1; omega)) (cwV 3 C.1.2.2.2.2 (hr_gV kM_X4_75 kI_X4_entry kS_X4_entry kN_X4 kC_X4_entry) rfl rfl rfl (by decide +kernel) ⟨Nat.le_of_ble_eq_true rfl, Nat.le_of_ble_eq_true rfl⟩) (by decide) rfl rfl rfl (Nat.le_of_ble_eq_true rfl) dX4_answer_123 ⟨Nat.le_of_ble_eq_true rfl, Nat.le_of_ble_eq_true rfl⟩ (fun S32 h33 => ?_) rfl
                  refine hr_st (S1 := (md_entry (md_anL (md_begin S 2) r9 j9) (md_m (md_anL (md_begin S 2) r9 j9)) 2 (nI (un ((md_anL (md_begin S 2) r9 j9) 26 0 ((4 + (20 * j9)) + 6)))) ((md_anL (md_begin S 2) r9 j9) 16 0 ((8 * r9) + (un ((md_anL (md_begin S 2) r9 j9) 26 0 ((4 + (20 * j9)) + 6))))))) h33 ?_
                  refine hr_iinc (v := nI (4 + (20 * j9) + 20)) C [(3, .int (nI (4 + (20 * j9) + 20))), (5, .int ((md_anL (md_begin S 2) r9 j9) 16 0 ((8 * r9) + (un ((md_anL (md_begin S 2) r9 j9) 26 0 ((4 + (20 * j9)) + 6)))))), (4, .int (nI (un ((md_anL (md_begin S 2) r9 j9) 26 0 ((4 + (20 * j9)) + 6))))), (0, .ref (hr_ad E 14 0)), (1, .int (nI r9)), (2, .int x)] dX4_answer_126 5 rfl (nI_add (4 + (20 * j9)) 20) (by decide) rfl ?_
                  refine hr_goto C 46 dX4_answer_129 (by decide) ?_
                  refine hr_sub [3, 4, 5, 0] rfl ?_
                  refine hr_lve (lv2 := [(0, .ref (hr_ad E 14 0)), (1, .int (nI r9)), (2, .int x), (3, .int (nI (4 + (20 * (j9 + 1)))))]) (by rw [show 4 + (20 * (j9 + 1)) = 4 + (20 * j9) + 20 by omega]; rfl) ?_
                  refine hr_st (S1 := md_anL (md_begin S 2) r9 (j9 + 1)) (by rw [md_anL, if_pos c59]; unfold md_mans; rw [if_neg c76, if_neg c95]) ?_
                  exact ih (j9 + 1)  (by omega) (by omega)
                · skip
                  refine hr_bipush (v := 16) C dX4_answer_98 (by decide) ?_
                  refine hr_goto C 115 dX4_answer_100 (by decide) ?_
                  refine hr_istore C [(5, .int 16), (4, .int (nI (un ((md_anL (md_begin S 2) r9 j9) 26 0 ((4 + (20 * j9)) + 6))))), (0, .ref (hr_ad E 14 0)), (1, .int (nI r9)), (2, .int x), (3, .int (nI (4 + (20 * j9))))] dX4_answer_115 (by decide) rfl ?_
                  refine hr_aload_n C dX4_answer_117 rfl 2 rfl ?_
                  refine hr_iconst (v := 2) C dX4_answer_118 (by decide) ?_
                  refine hr_iload C dX4_answer_119 1 rfl ?_
                  refine hr_iload C dX4_answer_121 0 rfl ?_
                  refine hr_cVv C (ct_X4_entry l E (md_anL (md_begin S 2) r9 j9) o 2 (nI (un ((md_anL (md_begin S 2) r9 j9) 26 0 ((4 + (20 * j9)) + 6)))) 16 (md_m (md_anL (md_begin S 2) r9 j9)) ((mk_anL (mk_begin S 2) r9 j9 (by omega)).1) (by have := (mk_anL (mk_begin S 2) r9 j9 (by omega)).2.1; omega)) (cwV 3 C.1.2.2.2.2 (hr_gV kM_X4_75 kI_X4_entry kS_X4_entry kN_X4 kC_X4_entry) rfl rfl rfl (by decide +kernel) ⟨Nat.le_of_ble_eq_true rfl, Nat.le_of_ble_eq_true rfl⟩) (by decide) rfl rfl rfl (Nat.le_of_ble_eq_true rfl) dX4_answer_123 ⟨Nat.le_of_ble_eq_true rfl, Nat.le_of_ble_eq_true rfl⟩ (fun S35 h36 => ?_) rfl
                  refine hr_st (S1 := (md_entry (md_anL (md_begin S 2) r9 j9) (md_m (md_anL (md_begin S 2) r9 j9)) 2 (nI (un ((md_anL (md_begin S 2) r9 j9) 26 0 ((4 + (20 * j9)) + 6)))) 16)) h36 ?_
                  refine hr_iinc (v := nI (4 + (20 * j9) + 20)) C [(3, .int (nI (4 + (20 * j9) + 20))), (5, .int 16), (4, .int (nI (un ((md_anL (md_begin S 2) r9 j9) 26 0 ((4 + (20 * j9)) + 6))))), (0, .ref (hr_ad E 14 0)), (1, .int (nI r9)), (2, .int x)] dX4_answer_126 5 rfl (nI_add (4 + (20 * j9)) 20) (by decide) rfl ?_
                  refine hr_goto C 46 dX4_answer_129 (by decide) ?_
                  refine hr_sub [3, 4, 5, 0] rfl ?_
                  refine hr_lve (lv2 := [(0, .ref (hr_ad E 14 0)), (1, .int (nI r9)), (2, .int x), (3, .int (nI (4 + (20 * (j9 + 1)))))]) (by rw [show 4 + (20 * (j9 + 1)) = 4 + (20 * j9) + 20 by omega]; rfl) ?_
                  refine hr_st (S1 := md_anL (md_begin S 2) r9 (j9 + 1)) (by rw [md_anL, if_pos c59]; unfold md_mans; rw [if_neg c76, if_pos c95]) ?_
                  exact ih (j9 + 1)  (by omega) (by omega)
              · skip
                have c76 : (un ((md_anL (md_begin S 2) r9 j9) 26 0 ((4 + (20 * j9)) + 6))) = r9 := (nI_eq (a := (un ((md_anL (md_begin S 2) r9 j9) 26 0 ((4 + (20 * j9)) + 6)))) (b := r9) (by omega) (by omega)).mp c76
                refine hr_iconst (v := 1) C dX4_answer_79 (by decide) ?_
                refine hr_goto C 115 dX4_answer_80 (by decide) ?_
                refine hr_istore C [(5, .int 1), (4, .int (nI (un ((md_anL (md_begin S 2) r9 j9) 26 0 ((4 + (20 * j9)) + 6))))), (0, .ref (hr_ad E 14 0)), (1, .int (nI r9)), (2, .int x), (3, .int (nI (4 + (20 * j9))))] dX4_answer_115 (by decide) rfl ?_
                refine hr_aload_n C dX4_answer_117 rfl 2 rfl ?_
                refine hr_iconst (v := 2) C dX4_answer_118 (by decide) ?_
                refine hr_iload C dX4_answer_119 1 rfl ?_
                refine hr_iload C dX4_answer_121 0 rfl ?_
                refine hr_cVv C (ct_X4_entry l E (md_anL (md_begin S 2) r9 j9) o 2 (nI (un ((md_anL (md_begin S 2) r9 j9) 26 0 ((4 + (20 * j9)) + 6)))) 1 (md_m (md_anL (md_begin S 2) r9 j9)) ((mk_anL (mk_begin S 2) r9 j9 (by omega)).1) (by have := (mk_anL (mk_begin S 2) r9 j9 (by omega)).2.1; omega)) (cwV 3 C.1.2.2.2.2 (hr_gV kM_X4_75 kI_X4_entry kS_X4_entry kN_X4 kC_X4_entry) rfl rfl rfl (by decide +kernel) ⟨Nat.le_of_ble_eq_true rfl, Nat.le_of_ble_eq_true rfl⟩) (by decide) rfl rfl rfl (Nat.le_of_ble_eq_true rfl) dX4_answer_123 ⟨Nat.le_of_ble_eq_true rfl, Nat.le_of_ble_eq_true rfl⟩ (fun S38 h39 => ?_) rfl
                refine hr_st (S1 := (md_entry (md_anL (md_begin S 2) r9 j9) (md_m (md_anL (md_begin S 2) r9 j9)) 2 (nI (un ((md_anL (md_begin S 2) r9 j9) 26 0 ((4 + (20 * j9)) + 6)))) 1)) h39 ?_
                refine hr_iinc (v := nI (4 + (20 * j9) + 20)) C [(3, .int (nI (4 + (20 * j9) + 20))), (5, .int 1), (4, .int (nI (un ((md_anL (md_begin S 2) r9 j9) 26 0 ((4 + (20 * j9)) + 6))))), (0, .ref (hr_ad E 14 0)), (1, .int (nI r9)), (2, .int x)] dX4_answer_126 5 rfl (nI_add (4 + (20 * j9)) 20) (by decide) rfl ?_
                refine hr_goto C 46 dX4_answer_129 (by decide) ?_
                refine hr_sub [3, 4, 5, 0] rfl ?_
                refine hr_lve (lv2 := [(0, .ref (hr_ad E 14 0)), (1, .int (nI r9)), (2, .int x), (3, .int (nI (4 + (20 * (j9 + 1)))))]) (by rw [show 4 + (20 * (j9 + 1)) = 4 + (20 * j9) + 20 by omega]; rfl) ?_
                refine hr_st (S1 := md_anL (md_begin S 2) r9 (j9 + 1)) (by rw [md_anL, if_pos c59]; unfold md_mans; rw [if_pos c76]) ?_
                exact ih (j9 + 1)  (by omega) (by omega)
      refine hr_sub [1, 2, 3, 0] rfl ?_
      refine hr_lve (lv2 := [(0, .ref (hr_ad E 14 0)), (1, .int (nI r9)), (2, .int x), (3, .int (nI (4 + (20 * 0))))]) rfl ?_
      refine hr_st (S1 := md_anL (md_begin S 2) r9 0) rfl ?_
      exact LP46 (((un (S 14 0 18) - 4) / 20) + 1) 0  (by omega) (by omega)
    · skip
      have c15 := hr_bn.mp c15
      have c15 : md_fb S 4 0 11 = true := c15
      refine hr_aload_n C dX4_answer_18 rfl 0 rfl ?_
      refine hr_get (k := 14) (i := 0) (fld := 19) C (by decide) rfl rfl (by decide) kU_X4 kF_X4_45 rfl rfl dX4_answer_19 ?_
      refine hr_bipush (v := 23) C dX4_answer_22 (by decide) ?_
      refine hr_iald (k := 26) (i := 0) 23 C (by decide) rfl rfl (show 23 < 164 by omega) (by decide) dX4_answer_24 ?_
      refine hr_bipush (v := 16) C dX4_answer_25 (by decide) ?_
      refine hr_icmp_ne C 39 dX4_answer_27 (by decide) (fun c27 => ?_) (fun c27 => ?_)
      · skip
        refine hr_aload_n C dX4_answer_39 rfl 0 rfl ?_
        refine hr_iconst (v := 2) C dX4_answer_40 (by decide) ?_
        refine hr_cVv C (ct_X4_begin l E S o 2) (cwV 1 C.1.2.2.2.2 (hr_gV kM_X4_72 kI_X4_begin kS_X4_begin kN_X4 kC_X4_begin) rfl rfl rfl (by decide +kernel) ⟨Nat.le_of_ble_eq_true rfl, Nat.le_of_ble_eq_true rfl⟩) (by decide) rfl rfl rfl (Nat.le_of_ble_eq_true rfl) dX4_answer_41 ⟨Nat.le_of_ble_eq_true rfl, Nat.le_of_ble_eq_true rfl⟩ (fun S41 h42 => ?_) rfl
        refine hr_st (S1 := (md_begin S 2)) h42 ?_
        refine hr_iconst (v := 4) C dX4_answer_44 (by decide) ?_
        refine hr_istore_n C [(3, .int 4), (0, .ref (hr_ad E 14 0)), (1, .int (nI r9)), (2, .int x)] dX4_answer_45 rfl (by decide) rfl ?_
        have LP46 : ∀ (n j9 : Nat) , j9 ≤ ((un (S 14 0 18) - 4) / 20) → ((un (S 14 0 18) - 4) / 20) + 1 ≤ j9 + n → hr_G p l e ({ frames := 3, cells := 0, slots := 0, locals := 72 } : Room) s m #[.ref (hr_ad E 14 0), .int (nI r9), .int x] below meth c (MQ below (va_Qv (fun u => u = md_ans S r9 x) (fun u t => hr_P E u o t.heap) (hr_A E)) #[.ref (hr_ad E 14 0), .int (nI r9), .int x] s 0 0 (hr_A E)) E 6 0 0 (md_anL (md_begin S 2) r9 j9) o [(0, .ref (hr_ad E 14 0)), (1, .int (nI r9)), (2, .int x), (3, .int (nI (4 + (20 * j9))))] 46 [] := by
          intro n
          induction n with
          | zero => intro j9  h1 h2; omega
          | succ n ih =>
            intro j9  hv1 hv2
            refine hr_iload_n C dX4_answer_46 rfl 3 rfl ?_
            refine hr_aload_n C dX4_answer_47 rfl 0 rfl ?_
            refine hr_get (k := 14) (i := 0) (fld := 18) C (by decide) rfl rfl (by decide) kU_X4 kF_X4_90 rfl rfl dX4_answer_48 ?_
            refine hr_tp (y := nI (un (S 14 0 18))) (by rw [md_anL_o (by decide) (by decide), md_begin_o (by decide) (by decide)]; exact hc.1) ?_
            refine hr_icmp_ge C 132 dX4_answer_51 (by decide) (fun c51 => ?_) (fun c51 => ?_)
            · skip
              have c51 : (un (S 14 0 18)) ≤ (4 + (20 * j9)) := (nI_leI (a := (un (S 14 0 18))) (b := (4 + (20 * j9))) (by omega) (by omega)).mp c51
              have c51n : ¬ (4 + (20 * j9)) < (un (S 14 0 18)) := Nat.not_lt.mpr c51
              have hmm := (mk_anL (mk_begin S 2) r9 j9 (by omega)).2.1
              refine hr_aload_n C dX4_answer_132 rfl 0 rfl ?_
              refine hr_get (k := 14) (i := 0) (fld := 16) C (by decide) rfl rfl (by decide) kU_X4 kF_X4_56 rfl rfl dX4_answer_133 ?_
              refine hr_tp (y := nI (md_m (md_anL (md_begin S 2) r9 j9))) (mk_anL (mk_begin S 2) r9 j9 (by omega)).1 ?_
              refine hr_iconst (v := 4) C dX4_answer_136 (by decide) ?_
              refine hr_icmp_le C 146 dX4_answer_137 (by decide) (fun c137 => ?_) (fun c137 => ?_)
              · skip
                have c137 : (md_m (md_anL (md_begin S 2) r9 j9)) ≤ 4 := (nI_leI (a := (md_m (md_anL (md_begin S 2) r9 j9))) (b := 4) (by omega) (by omega)).mp c137
                have c137n : ¬ 4 < (md_m (md_anL (md_begin S 2) r9 j9)) := Nat.not_lt.mpr c137
                exact hr_vret C hr dX4_answer_146 (by have e8 : md_ans1 S r9 = md_anL (md_begin S 2) r9 j9 := (by rw [show j9 = (un (S 14 0 18) - 4) / 20 by omega]; rfl); unfold md_ans; rw [if_neg (fun h => c27 h.2.2), e8, if_neg (by omega)])
              · skip
                have c137 : ¬ (md_m (md_anL (md_begin S 2) r9 j9)) ≤ 4 := fun h => c137 ((nI_leI (a := (md_m (md_anL (md_begin S 2) r9 j9))) (b := 4) (by omega) (by omega)).mpr h)
                have c137n : 4 < (md_m (md_anL (md_begin S 2) r9 j9)) := Nat.not_le.mp c137
                refine hr_aload_n C dX4_answer_140 rfl 0 rfl ?_
                refine hr_iload_n C dX4_answer_141 rfl 1 rfl ?_
                refine hr_iload_n C dX4_answer_142 rfl 2 rfl ?_
                refine hr_cVv C (ct_X4_post l E (md_anL (md_begin S 2) r9 j9) o (nI r9) x (MI_anL (MI_begin hI) j9) (mk_nb (B := 164) (mk_up (mk_anL (mk_begin S 2) r9 j9 (by omega)) (by omega)) (by decide))) (cwV 2 C.1.2.2.2.2 (hr_gV kM_X4_79 kI_X4_post kS_X4_post kN_X4 kC_X4_post) rfl rfl rfl (by decide +kernel) ⟨Nat.le_of_ble_eq_true rfl, Nat.le_of_ble_eq_true rfl⟩) (by decide) rfl rfl rfl (Nat.le_of_ble_eq_true rfl) dX4_answer_143 ⟨Nat.le_of_ble_eq_true rfl, Nat.le_of_ble_eq_true rfl⟩ (fun S44 h45 => ?_) rfl
                refine hr_st (S1 := (md_post (md_anL (md_begin S 2) r9 j9) (nI r9) x)) h45 ?_
                exact hr_vret C hr dX4_answer_146 (by have e8 : md_ans1 S r9 = md_anL (md_begin S 2) r9 j9 := (by rw [show j9 = (un (S 14 0 18) - 4) / 20 by omega]; rfl); unfold md_ans; rw [if_neg (fun h => c27 h.2.2), e8, if_pos (by omega)])
            · skip
              have c51 : ¬ (un (S 14 0 18)) ≤ (4 + (20 * j9)) := fun h => c51 ((nI_leI (a := (un (S 14 0 18))) (b := (4 + (20 * j9))) (by omega) (by omega)).mpr h)
              have c51n : (4 + (20 * j9)) < (un (S 14 0 18)) := Nat.not_le.mp c51
              refine hr_aload_n C dX4_answer_54 rfl 0 rfl ?_
              refine hr_iload_n C dX4_answer_55 rfl 3 rfl ?_
              refine hr_cVi C (ct_X4_isSound l E (md_anL (md_begin S 2) r9 j9) o (4 + (20 * j9)) (by omega)) (cwV 1 C.1.2.2.2.2 (hr_gV kM_X4_97 kI_X4_isSound kS_X4_isSound kN_X4 kC_X4_isSound) rfl rfl rfl (by decide +kernel) ⟨Nat.le_of_ble_eq_true rfl, Nat.le_of_ble_eq_true rfl⟩) (by decide) rfl rfl rfl (Nat.le_of_ble_eq_true rfl) dX4_answer_56 ⟨Nat.le_of_ble_eq_true rfl, Nat.le_of_ble_eq_true rfl⟩ (fun r46 S47 h48 => ?_) rfl
              refine hr_tp h48.1 ?_
              refine hr_st (S1 := (md_anL (md_begin S 2) r9 j9)) h48.2 ?_
              refine hr_if_eq C 126 dX4_answer_59 (by decide) (fun c59 => ?_) (fun c59 => ?_)
              · skip
                have c59 := hr_bz.mp c59
                have c59 : ¬ (md_sE (md_anL (md_begin S 2) r9 j9) (4 + (20 * j9))) := c59
                refine hr_iinc (v := nI (4 + (20 * j9) + 20)) C [(3, .int (nI (4 + (20 * j9) + 20))), (0, .ref (hr_ad E 14 0)), (1, .int (nI r9)), (2, .int x)] dX4_answer_126 3 rfl (nI_add (4 + (20 * j9)) 20) (by decide) rfl ?_
                refine hr_goto C 46 dX4_answer_129 (by decide) ?_
                refine hr_sub [1, 2, 3, 0] rfl ?_
                refine hr_lve (lv2 := [(0, .ref (hr_ad E 14 0)), (1, .int (nI r9)), (2, .int x), (3, .int (nI (4 + (20 * (j9 + 1)))))]) (by rw [show 4 + (20 * (j9 + 1)) = 4 + (20 * j9) + 20 by omega]; rfl) ?_
                refine hr_st (S1 := md_anL (md_begin S 2) r9 (j9 + 1)) (by rw [md_anL, if_neg c59]) ?_
                exact ih (j9 + 1)  (by omega) (by omega)
              · skip
                have c59 := hr_bn.mp c59
                have c59 : md_sE (md_anL (md_begin S 2) r9 j9) (4 + (20 * j9)) := c59
                have hd9 := (nb_07 c59.2.1).2
                refine hr_aload_n C dX4_answer_62 rfl 0 rfl ?_
                refine hr_get (k := 14) (i := 0) (fld := 19) C (by decide) rfl rfl (by decide) kU_X4 kF_X4_45 rfl rfl dX4_answer_63 ?_
                refine hr_iload_n C dX4_answer_66 rfl 3 rfl ?_
                refine hr_bipush (v := 6) C dX4_answer_67 (by decide) ?_
                refine hr_iadd (v := nI ((4 + (20 * j9)) + 6)) C dX4_answer_69 (nI_add (4 + (20 * j9)) 6) ?_
                refine hr_iald (k := 26) (i := 0) ((4 + (20 * j9)) + 6) C (by decide) rfl rfl (show (4 + (20 * j9)) + 6 < 164 by omega) (by decide) dX4_answer_70 ?_
                refine hr_tp (y := nI (un ((md_anL (md_begin S 2) r9 j9) 26 0 ((4 + (20 * j9)) + 6)))) (nb_07 c59.2.1).1 ?_
                refine hr_istore C [(4, .int (nI (un ((md_anL (md_begin S 2) r9 j9) 26 0 ((4 + (20 * j9)) + 6))))), (0, .ref (hr_ad E 14 0)), (1, .int (nI r9)), (2, .int x), (3, .int (nI (4 + (20 * j9))))] dX4_answer_71 (by decide) rfl ?_
                refine hr_iload C dX4_answer_73 0 rfl ?_
                refine hr_iload_n C dX4_answer_75 rfl 2 rfl ?_
                refine hr_icmp_ne C 83 dX4_answer_76 (by decide) (fun c76 => ?_) (fun c76 => ?_)
                · skip
                  have c76 : ¬ (un ((md_anL (md_begin S 2) r9 j9) 26 0 ((4 + (20 * j9)) + 6))) = r9 := fun h => c76 ((nI_eq (a := (un ((md_anL (md_begin S 2) r9 j9) 26 0 ((4 + (20 * j9)) + 6)))) (b := r9) (by omega) (by omega)).mpr h)
                  refine hr_aload_n C dX4_answer_83 rfl 1 rfl ?_
                  refine hr_get (k := 14) (i := 0) (fld := 6) C (by decide) rfl rfl (by decide) kU_X4 kF_X4_13 rfl rfl dX4_answer_84 ?_
                  refine hr_bipush (v := 8) C dX4_answer_87 (by decide) ?_
                  refine hr_iload_n C dX4_answer_89 rfl 2 rfl ?_
                  refine hr_imul (v := nI (8 * r9)) C dX4_answer_90 (pk_mul 8 r9) ?_
                  refine hr_iload C dX4_answer_91 0 rfl ?_
                  refine hr_iadd (v := nI ((8 * r9) + (un ((md_anL (md_begin S 2) r9 j9) 26 0 ((4 + (20 * j9)) + 6))))) C dX4_answer_93 (nI_add (8 * r9) (un ((md_anL (md_begin S 2) r9 j9) 26 0 ((4 + (20 * j9)) + 6)))) ?_
                  refine hr_iald (k := 16) (i := 0) ((8 * r9) + (un ((md_anL (md_begin S 2) r9 j9) 26 0 ((4 + (20 * j9)) + 6)))) C (by decide) rfl rfl (show (8 * r9) + (un ((md_anL (md_begin S 2) r9 j9) 26 0 ((4 + (20 * j9)) + 6))) < 64 by omega) (by decide) dX4_answer_94 ?_
                  refine hr_if_ne C 103 dX4_answer_95 (by decide) (fun c95 => ?_) (fun c95 => ?_)
                  · skip
                    refine hr_aload_n C dX4_answer_103 rfl 1 rfl ?_
                    refine hr_get (k := 14) (i := 0) (fld := 6) C (by decide) rfl rfl (by decide) kU_X4 kF_X4_13 rfl rfl dX4_answer_104 ?_
                    refine hr_bipush (v := 8) C dX4_answer_107 (by decide) ?_
                    refine hr_iload_n C dX4_answer_109 rfl 2 rfl ?_
                    refine hr_imul (v := nI (8 * r9)) C dX4_answer_110 (pk_mul 8 r9) ?_
                    refine hr_iload C dX4_answer_111 0 rfl ?_
                    refine hr_iadd (v := nI ((8 * r9) + (un ((md_anL (md_begin S 2) r9 j9) 26 0 ((4 + (20 * j9)) + 6))))) C dX4_answer_113 (nI_add (8 * r9) (un ((md_anL (md_begin S 2) r9 j9) 26 0 ((4 + (20 * j9)) + 6)))) ?_
                    refine hr_iald (k := 16) (i := 0) ((8 * r9) + (un ((md_anL (md_begin S 2) r9 j9) 26 0 ((4 + (20 * j9)) + 6)))) C (by decide) rfl rfl (show (8 * r9) + (un ((md_anL (md_begin S 2) r9 j9) 26 0 ((4 + (20 * j9)) + 6))) < 64 by omega) (by decide) dX4_answer_114 ?_
                    refine hr_istore C [(5, .int ((md_anL (md_begin S 2) r9 j9) 16 0 ((8 * r9) + (un ((md_anL (md_begin S 2) r9 j9) 26 0 ((4 + (20 * j9)) + 6)))))), (4, .int (nI (un ((md_anL (md_begin S 2) r9 j9) 26 0 ((4 + (20 * j9)) + 6))))), (0, .ref (hr_ad E 14 0)), (1, .int (nI r9)), (2, .int x), (3, .int (nI (4 + (20 * j9))))] dX4_answer_115 (by decide) rfl ?_
                    refine hr_aload_n C dX4_answer_117 rfl 2 rfl ?_
                    refine hr_iconst (v := 2) C dX4_answer_118 (by decide) ?_
                    refine hr_iload C dX4_answer_119 1 rfl ?_
                    refine hr_iload C dX4_answer_121 0 rfl ?_
                    refine hr_cVv C (ct_X4_entry l E (md_anL (md_begin S 2) r9 j9) o 2 (nI (un ((md_anL (md_begin S 2) r9 j9) 26 0 ((4 + (20 * j9)) + 6)))) ((md_anL (md_begin S 2) r9 j9) 16 0 ((8 * r9) + (un ((md_anL (md_begin S 2) r9 j9) 26 0 ((4 + (20 * j9)) + 6))))) (md_m (md_anL (md_begin S 2) r9 j9)) ((mk_anL (mk_begin S 2) r9 j9 (by omega)).1) (by have := (mk_anL (mk_begin S 2) r9 j9 (by omega)).2.1; omega)) (cwV 3 C.1.2.2.2.2 (hr_gV kM_X4_75 kI_X4_entry kS_X4_entry kN_X4 kC_X4_entry) rfl rfl rfl (by decide +kernel) ⟨Nat.le_of_ble_eq_true rfl, Nat.le_of_ble_eq_true rfl⟩) (by decide) rfl rfl rfl (Nat.le_of_ble_eq_true rfl) dX4_answer_123 ⟨Nat.le_of_ble_eq_true rfl, Nat.le_of_ble_eq_true rfl⟩ (fun S50 h51 => ?_) rfl
                    refine hr_st (S1 := (md_entry (md_anL (md_begin S 2) r9 j9) (md_m (md_anL (md_begin S 2) r9 j9)) 2 (nI (un ((md_anL (md_begin S 2) r9 j9) 26 0 ((4 + (20 * j9)) + 6)))) ((md_anL (md_begin S 2) r9 j9) 16 0 ((8 * r9) + (un ((md_anL (md_begin S 2) r9 j9) 26 0 ((4 + (20 * j9)) + 6))))))) h51 ?_
                    refine hr_iinc (v := nI (4 + (20 * j9) + 20)) C [(3, .int (nI (4 + (20 * j9) + 20))), (5, .int ((md_anL (md_begin S 2) r9 j9) 16 0 ((8 * r9) + (un ((md_anL (md_begin S 2) r9 j9) 26 0 ((4 + (20 * j9)) + 6)))))), (4, .int (nI (un ((md_anL (md_begin S 2) r9 j9) 26 0 ((4 + (20 * j9)) + 6))))), (0, .ref (hr_ad E 14 0)), (1, .int (nI r9)), (2, .int x)] dX4_answer_126 5 rfl (nI_add (4 + (20 * j9)) 20) (by decide) rfl ?_
                    refine hr_goto C 46 dX4_answer_129 (by decide) ?_
                    refine hr_sub [3, 4, 5, 0] rfl ?_
                    refine hr_lve (lv2 := [(0, .ref (hr_ad E 14 0)), (1, .int (nI r9)), (2, .int x), (3, .int (nI (4 + (20 * (j9 + 1)))))]) (by rw [show 4 + (20 * (j9 + 1)) = 4 + (20 * j9) + 20 by omega]; rfl) ?_
                    refine hr_st (S1 := md_anL (md_begin S 2) r9 (j9 + 1)) (by rw [md_anL, if_pos c59]; unfold md_mans; rw [if_neg c76, if_neg c95]) ?_
                    exact ih (j9 + 1)  (by omega) (by omega)
                  · skip
                    refine hr_bipush (v := 16) C dX4_answer_98 (by decide) ?_
                    refine hr_goto C 115 dX4_answer_100 (by decide) ?_
                    refine hr_istore C [(5, .int 16), (4, .int (nI (un ((md_anL (md_begin S 2) r9 j9) 26 0 ((4 + (20 * j9)) + 6))))), (0, .ref (hr_ad E 14 0)), (1, .int (nI r9)), (2, .int x), (3, .int (nI (4 + (20 * j9))))] dX4_answer_115 (by decide) rfl ?_
                    refine hr_aload_n C dX4_answer_117 rfl 2 rfl ?_
                    refine hr_iconst (v := 2) C dX4_answer_118 (by decide) ?_
                    refine hr_iload C dX4_answer_119 1 rfl ?_
                    refine hr_iload C dX4_answer_121 0 rfl ?_
                    refine hr_cVv C (ct_X4_entry l E (md_anL (md_begin S 2) r9 j9) o 2 (nI (un ((md_anL (md_begin S 2) r9 j9) 26 0 ((4 + (20 * j9)) + 6)))) 16 (md_m (md_anL (md_begin S 2) r9 j9)) ((mk_anL (mk_begin S 2) r9 j9 (by omega)).1) (by have := (mk_anL (mk_begin S 2) r9 j9 (by omega)).2.1; omega)) (cwV 3 C.1.2.2.2.2 (hr_gV kM_X4_75 kI_X4_entry kS_X4_entry kN_X4 kC_X4_entry) rfl rfl rfl (by decide +kernel) ⟨Nat.le_of_ble_eq_true rfl, Nat.le_of_ble_eq_true rfl⟩) (by decide) rfl rfl rfl (Nat.le_of_ble_eq_true rfl) dX4_answer_123 ⟨Nat.le_of_ble_eq_true rfl, Nat.le_of_ble_eq_true rfl⟩ (fun S53 h54 => ?_) rfl
                    refine hr_st (S1 := (md_entry (md_anL (md_begin S 2) r9 j9) (md_m (md_anL (md_begin S 2) r9 j9)) 2 (nI (un ((md_anL (md_begin S 2) r9 j9) 26 0 ((4 + (20 * j9)) + 6)))) 16)) h54 ?_
                    refine hr_iinc (v := nI (4 + (20 * j9) + 20)) C [(3, .int (nI (4 + (20 * j9) + 20))), (5, .int 16), (4, .int (nI (un ((md_anL (md_begin S 2) r9 j9) 26 0 ((4 + (20 * j9)) + 6))))), (0, .ref (hr_ad E 14 0)), (1, .int (nI r9)), (2, .int x)] dX4_answer_126 5 rfl (nI_add (4 + (20 * j9)) 20) (by decide) rfl ?_
                    refine hr_goto C 46 dX4_answer_129 (by decide) ?_
                    refine hr_sub [3, 4, 5, 0] rfl ?_
                    refine hr_lve (lv2 := [(0, .ref (hr_ad E 14 0)), (1, .int (nI r9)), (2, .int x), (3, .int (nI (4 + (20 * (j9 + 1)))))]) (by rw [show 4 + (20 * (j9 + 1)) = 4 + (20 * j9) + 20 by omega]; rfl) ?_
                    refine hr_st (S1 := md_anL (md_begin S 2) r9 (j9 + 1)) (by rw [md_anL, if_pos c59]; unfold md_mans; rw [if_neg c76, if_pos c95]) ?_
                    exact ih (j9 + 1)  (by omega) (by omega)
                · skip
                  have c76 : (un ((md_anL (md_begin S 2) r9 j9) 26 0 ((4 + (20 * j9)) + 6))) = r9 := (nI_eq (a := (un ((md_anL (md_begin S 2) r9 j9) 26 0 ((4 + (20 * j9)) + 6)))) (b := r9) (by omega) (by omega)).mp c76
                  refine hr_iconst (v := 1) C dX4_answer_79 (by decide) ?_
                  refine hr_goto C 115 dX4_answer_80 (by decide) ?_
                  refine hr_istore C [(5, .int 1), (4, .int (nI (un ((md_anL (md_begin S 2) r9 j9) 26 0 ((4 + (20 * j9)) + 6))))), (0, .ref (hr_ad E 14 0)), (1, .int (nI r9)), (2, .int x), (3, .int (nI (4 + (20 * j9))))] dX4_answer_115 (by decide) rfl ?_
                  refine hr_aload_n C dX4_answer_117 rfl 2 rfl ?_
                  refine hr_iconst (v := 2) C dX4_answer_118 (by decide) ?_
                  refine hr_iload C dX4_answer_119 1 rfl ?_
                  refine hr_iload C dX4_answer_121 0 rfl ?_
                  refine hr_cVv C (ct_X4_entry l E (md_anL (md_begin S 2) r9 j9) o 2 (nI (un ((md_anL (md_begin S 2) r9 j9) 26 0 ((4 + (20 * j9)) + 6)))) 1 (md_m (md_anL (md_begin S 2) r9 j9)) ((mk_anL (mk_begin S 2) r9 j9 (by omega)).1) (by have := (mk_anL (mk_begin S 2) r9 j9 (by omega)).2.1; omega)) (cwV 3 C.1.2.2.2.2 (hr_gV kM_X4_75 kI_X4_entry kS_X4_entry kN_X4 kC_X4_entry) rfl rfl rfl (by decide +kernel) ⟨Nat.le_of_ble_eq_true rfl, Nat.le_of_ble_eq_true rfl⟩) (by decide) rfl rfl rfl (Nat.le_of_ble_eq_true rfl) dX4_answer_123 ⟨Nat.le_of_ble_eq_true rfl, Nat.le_of_ble_eq_true rfl⟩ (fun S56 h57 => ?_) rfl
                  refine hr_st (S1 := (md_entry (md_anL (md_begin S 2) r9 j9) (md_m (md_anL (md_begin S 2) r9 j9)) 2 (nI (un ((md_anL (md_begin S 2) r9 j9) 26 0 ((4 + (20 * j9)) + 6)))) 1)) h57 ?_
                  refine hr_iinc (v := nI (4 + (20 * j9) + 20)) C [(3, .int (nI (4 + (20 * j9) + 20))), (5, .int 1), (4, .int (nI (un ((md_anL (md_begin S 2) r9 j9) 26 0 ((4 + (20 * j9)) + 6))))), (0, .ref (hr_ad E 14 0)), (1, .int (nI r9)), (2, .int x)] dX4_answer_126 5 rfl (nI_add (4 + (20 * j9)) 20) (by decide) rfl ?_
                  refine hr_goto C 46 dX4_answer_129 (by decide) ?_
                  refine hr_sub [3, 4, 5, 0] rfl ?_
                  refine hr_lve (lv2 := [(0, .ref (hr_ad E 14 0)), (1, .int (nI r9)), (2, .int x), (3, .int (nI (4 + (20 * (j9 + 1)))))]) (by rw [show 4 + (20 * (j9 + 1)) = 4 + (20 * j9) + 20 by omega]; rfl) ?_
                  refine hr_st (S1 := md_anL (md_begin S 2) r9 (j9 + 1)) (by rw [md_anL, if_pos c59]; unfold md_mans; rw [if_pos c76]) ?_
                  exact ih (j9 + 1)  (by omega) (by omega)
        refine hr_sub [1, 2, 3, 0] rfl ?_
        refine hr_lve (lv2 := [(0, .ref (hr_ad E 14 0)), (1, .int (nI r9)), (2, .int x), (3, .int (nI (4 + (20 * 0))))]) rfl ?_
        refine hr_st (S1 := md_anL (md_begin S 2) r9 0) rfl ?_
        exact LP46 (((un (S 14 0 18) - 4) / 20) + 1) 0  (by omega) (by omega)
      · skip
        refine hr_aload_n C dX4_answer_30 rfl 0 rfl ?_
        refine hr_iload_n C dX4_answer_31 rfl 1 rfl ?_
        refine hr_iload_n C dX4_answer_32 rfl 2 rfl ?_
        refine hr_iconst (v := 1) C dX4_answer_33 (by decide) ?_
        refine hr_iconst (v := 1) C dX4_answer_34 (by decide) ?_
        refine hr_cVv C (ct_X4_tell l E S o r9 (by omega) x 1 1 (by omega) (by omega)) (cwV 4 C.1.2.2.2.2 (hr_gV kM_X4_93 kI_X4_tell kS_X4_tell kN_X4 kC_X4_tell) rfl rfl rfl (by decide +kernel) ⟨Nat.le_of_ble_eq_true rfl, Nat.le_of_ble_eq_true rfl⟩) (by decide) rfl rfl rfl (Nat.le_of_ble_eq_true rfl) dX4_answer_35 ⟨Nat.le_of_ble_eq_true rfl, Nat.le_of_ble_eq_true rfl⟩ (fun S59 h60 => ?_) rfl
        refine hr_st (S1 := (md_tell S r9 x 1 1)) h60 ?_
        exact hr_vret C hr dX4_answer_38 (by unfold md_ans; rw [if_pos ⟨c6, c15, c27⟩])
set_option maxHeartbeats 4000000 in
set_option maxRecDepth 100000 in
theorem ct_X4_arrive (l : Launch) (E : hr_E) (S : hr_S) (o : Int64) (k : Nat) (hk : k < un (S 14 0 11)) (hI : hr_MI S) : hr_Mi l E yX4_arrive (Cond.code yX4_arrive cX4_arrive 6 (some .boolean) :: hr_W) ({ frames := 4, cells := 0, slots := 0, locals := 97 } : Room) [.ref (hr_ad E 14 0), .int (nI k)] S o (fun r u => r = (if ¬ (md_come S k) 15 0 ((8 * un (S 21 0 k)) + un (S 22 0 k)) = 0 then 1 else 0) ∧ u = md_arr S k) := by
  refine hr_of (by decide) (Nat.le_of_ble_eq_true rfl) (fun p e s m below meth c C hr => ?_)
  have hn2 := hI.1.2
  have hA2 := (hI.2.1 k (by omega)).1.2
  have hR2 := (hI.2.1 k (by omega)).2.1.2
  have hS2 := (hI.2.1 k (by omega)).2.2.2
  refine hr_aload_n C dX4_arrive_0 rfl 0 rfl ?_
  refine hr_get (k := 14) (i := 0) (fld := 12) C (by decide) rfl rfl (by decide) kU_X4 kF_X4_29 rfl rfl dX4_arrive_1 ?_
  refine hr_iload_n C dX4_arrive_4 rfl 1 rfl ?_
  refine hr_iald (k := 21) (i := 0) k C (by decide) rfl rfl (show k < 200 by omega) (by decide) dX4_arrive_5 ?_
  refine hr_tp (y := nI (un (S 21 0 k))) (hI.2.1 k (by omega)).1.1 ?_
  refine hr_istore_n C [(2, .int (nI (un (S 21 0 k)))), (0, .ref (hr_ad E 14 0)), (1, .int (nI k))] dX4_arrive_6 rfl (by decide) rfl ?_
  refine hr_aload_n C dX4_arrive_7 rfl 1 rfl ?_
  refine hr_get (k := 14) (i := 0) (fld := 13) C (by decide) rfl rfl (by decide) kU_X4 kF_X4_32 rfl rfl dX4_arrive_8 ?_
  refine hr_iload_n C dX4_arrive_11 rfl 2 rfl ?_
  refine hr_iald (k := 22) (i := 0) k C (by decide) rfl rfl (show k < 200 by omega) (by decide) dX4_arrive_12 ?_
  refine hr_tp (y := nI (un (S 22 0 k))) (hI.2.1 k (by omega)).2.1.1 ?_
  refine hr_istore_n C [(3, .int (nI (un (S 22 0 k)))), (2, .int (nI (un (S 21 0 k)))), (0, .ref (hr_ad E 14 0)), (1, .int (nI k))] dX4_arrive_13 rfl (by decide) rfl ?_
  refine hr_aload_n C dX4_arrive_14 rfl 2 rfl ?_
  refine hr_aload_n C dX4_arrive_15 rfl 2 rfl ?_
  refine hr_get (k := 14) (i := 0) (fld := 14) C (by decide) rfl rfl (by decide) kU_X4 kF_X4_35 rfl rfl dX4_arrive_16 ?_
  refine hr_iload_n C dX4_arrive_19 rfl 3 rfl ?_
  refine hr_iald (k := 23) (i := 0) k C (by decide) rfl rfl (show k < 200 by omega) (by decide) dX4_arrive_20 ?_
  refine hr_put (k := 14) (i := 0) (fld := 18) C (by decide) rfl rfl (by decide) kU_X4 kF_X4_90 rfl tyX4 tyX4_ok nmX4 rfl (by decide +kernel) (Nat.le_of_ble_eq_true rfl) (by simp [hr_cell, hr_w, hr_wA, upd]) rfl dX4_arrive_21 ?_
  refine hr_iconst (v := 0) C dX4_arrive_24 (by decide) ?_
  refine hr_istore C [(4, .int 0), (3, .int (nI (un (S 22 0 k)))), (2, .int (nI (un (S 21 0 k)))), (0, .ref (hr_ad E 14 0)), (1, .int (nI k))] dX4_arrive_25 (by decide) rfl ?_
  have LP27 : ∀ (n1 i9 : Nat) , i9 ≤ (un (S 23 0 k)) → (un (S 23 0 k)) + 1 ≤ i9 + n1 → hr_G p l e ({ frames := 4, cells := 0, slots := 0, locals := 97 } : Room) s m #[.ref (hr_ad E 14 0), .int (nI k)] below meth c (MQ below (va_Qi (fun r u => r = (if ¬ (md_come S k) 15 0 ((8 * un (S 21 0 k)) + un (S 22 0 k)) = 0 then 1 else 0) ∧ u = md_arr S k) (fun u t => hr_P E u o t.heap) (hr_A E)) #[.ref (hr_ad E 14 0), .int (nI k)] s 0 0 (hr_A E)) E 6 0 0 (md_cmL (hr_w S 14 0 18 (S 23 0 k)) k i9) o [(0, .ref (hr_ad E 14 0)), (1, .int (nI k)), (2, .int (nI (un (S 21 0 k)))), (3, .int (nI (un (S 22 0 k)))), (4, .int (nI i9))] 27 [] := by
    intro n1
    induction n1 with
    | zero => intro i9  h1 h2; omega
    | succ n1 ihA =>
      intro i9  hv1 hv2
      refine hr_iload C dX4_arrive_27 4 rfl ?_
      refine hr_aload_n C dX4_arrive_29 rfl 0 rfl ?_
      refine hr_get (k := 14) (i := 0) (fld := 18) C (by decide) rfl rfl (by decide) kU_X4 kF_X4_90 rfl rfl dX4_arrive_30 ?_
      refine hr_tp (y := nI (un (S 23 0 k))) (by rw [md_cmL_k _ _ (by decide), hr_w_self]; exact (hI.2.1 k (by omega)).2.2.1) ?_
      refine hr_icmp_ge C 62 dX4_arrive_33 (by decide) (fun c33 => ?_) (fun c33 => ?_)
      · skip
        have c33 : (un (S 23 0 k)) ≤ i9 := (nI_leI (a := (un (S 23 0 k))) (b := i9) (by omega) (by omega)).mp c33
        have c33n : ¬ i9 < (un (S 23 0 k)) := Nat.not_lt.mpr c33
        refine hr_aload_n C dX4_arrive_62 rfl 0 rfl ?_
        refine hr_iload_n C dX4_arrive_63 rfl 1 rfl ?_
        refine hr_cVv C (ct_X4_takeOut l E (md_cmL (hr_w S 14 0 18 (S 23 0 k)) k i9) o k (by rw [md_cmL_k _ _ (by decide)]; exact hk) (MI_cmL (MI_18 hI) i9)) (cwV 1 C.1.2.2.2.2 (hr_gV kM_X4_101 kI_X4_takeOut kS_X4_takeOut kN_X4 kC_X4_takeOut) rfl rfl rfl (by decide +kernel) ⟨Nat.le_of_ble_eq_true rfl, Nat.le_of_ble_eq_true rfl⟩) (by decide) rfl rfl rfl (Nat.le_of_ble_eq_true rfl) dX4_arrive_64 ⟨Nat.le_of_ble_eq_true rfl, Nat.le_of_ble_eq_true rfl⟩ (fun S2 h3 => ?_) rfl
        refine hr_st (S1 := (md_take (md_cmL (hr_w S 14 0 18 (S 23 0 k)) k i9) k)) h3 ?_
        refine hr_st (S1 := md_come S k) (by rw [show i9 = un (S 23 0 k) by omega]; rfl) ?_
        have hT := MI_come hI (show k < md_n S from hk)
        have hC : nb ((md_come S k) 14 0 18) 165 := (by rw [md_come_c]; exact (hI.2.1 k (by omega)).2.2)
        have hC2 := hC.2
        refine hr_aload_n C dX4_arrive_67 rfl 0 rfl ?_
        refine hr_get (k := 14) (i := 0) (fld := 5) C (by decide) rfl rfl (by decide) kU_X4 kF_X4_7 rfl rfl dX4_arrive_68 ?_
        refine hr_bipush (v := 8) C dX4_arrive_71 (by decide) ?_
        refine hr_iload_n C dX4_arrive_73 rfl 2 rfl ?_
        refine hr_imul (v := nI (8 * (un (S 21 0 k)))) C dX4_arrive_74 (pk_mul 8 (un (S 21 0 k))) ?_
        refine hr_iload_n C dX4_arrive_75 rfl 3 rfl ?_
        refine hr_iadd (v := nI ((8 * (un (S 21 0 k))) + (un (S 22 0 k)))) C dX4_arrive_76 (nI_add (8 * (un (S 21 0 k))) (un (S 22 0 k))) ?_
        refine hr_zald (k := 15) (i := 0) ((8 * (un (S 21 0 k))) + (un (S 22 0 k))) C (by decide) rfl rfl (show (8 * (un (S 21 0 k))) + (un (S 22 0 k)) < 64 by omega) (by decide) dX4_arrive_77 ?_
        refine hr_if_ne C 93 dX4_arrive_78 (by decide) (fun c78 => ?_) (fun c78 => ?_)
        · skip
          refine hr_aload_n C dX4_arrive_93 rfl 0 rfl ?_
          refine hr_get (k := 14) (i := 0) (fld := 18) C (by decide) rfl rfl (by decide) kU_X4 kF_X4_90 rfl rfl dX4_arrive_94 ?_
          refine hr_tp (y := nI (un ((md_come S k) 14 0 18))) hC.1 ?_
          refine hr_bipush (v := 24) C dX4_arrive_97 (by decide) ?_
          refine hr_icmp_lt C 160 dX4_arrive_99 (by decide) (fun c99 => ?_) (fun c99 => ?_)
          · skip
            have c99 : (un ((md_come S k) 14 0 18)) < 24 := (nI_ltI (a := (un ((md_come S k) 14 0 18))) (b := 24) (by omega) (by omega)).mp c99
            have c99n : ¬ 24 ≤ (un ((md_come S k) 14 0 18)) := Nat.not_le.mpr c99
            refine hr_iconst (v := 0) C dX4_arrive_160 (by decide) ?_
            refine hr_istore C [(4, .int 0), (0, .ref (hr_ad E 14 0)), (1, .int (nI k)), (2, .int (nI (un (S 21 0 k)))), (3, .int (nI (un (S 22 0 k))))] dX4_arrive_161 (by decide) rfl ?_
            refine hr_iload C dX4_arrive_163 0 rfl ?_
            refine hr_if_ne C 180 dX4_arrive_165 (by decide) (fun c165 => ?_) (fun c165 => ?_)
            · skip
              exact absurd c165 (by decide)
            · skip
              have c165 : 0 = 0 := (nI_eq (a := 0) (b := 0) (by omega) (by omega)).mp c165
              refine hr_aload_n C dX4_arrive_168 rfl 1 rfl ?_
              refine hr_dup C dX4_arrive_169 rfl ?_
              refine hr_get (k := 14) (i := 0) (fld := 4) C (by decide) rfl rfl (by decide) kU_X4 kF_X4_104 rfl rfl dX4_arrive_170 ?_
              refine hr_iconst (v := 1) C dX4_arrive_173 (by decide) ?_
              refine hr_iadd C dX4_arrive_174 rfl ?_
              refine hr_put (k := 14) (i := 0) (fld := 4) C (by decide) rfl rfl (by decide) kU_X4 kF_X4_104 rfl tyX4 tyX4_ok nmX4 rfl (by decide +kernel) (Nat.le_of_ble_eq_true rfl) (by simp [hr_cell, hr_w, hr_wA, upd]) rfl dX4_arrive_175 ?_
              refine hr_iconst (v := 1) C dX4_arrive_178 (by decide) ?_
              exact hr_zret C hr rfl dX4_arrive_179 ⟨by rw [if_pos c78], by unfold md_arr md_in; rw [if_neg c78, if_neg (show ¬ md_snd (md_come S k) from fun h => Nat.not_le.mpr c99 h.1)]; try rfl⟩
          · skip
            have c99 : ¬ (un ((md_come S k) 14 0 18)) < 24 := fun h => c99 ((nI_ltI (a := (un ((md_come S k) 14 0 18))) (b := 24) (by omega) (by omega)).mpr h)
            have c99n : 24 ≤ (un ((md_come S k) 14 0 18)) := Nat.not_lt.mp c99
            refine hr_aload_n C dX4_arrive_102 rfl 0 rfl ?_
            refine hr_get (k := 14) (i := 0) (fld := 18) C (by decide) rfl rfl (by decide) kU_X4 kF_X4_90 rfl rfl dX4_arrive_103 ?_
            refine hr_tp (y := nI (un ((md_come S k) 14 0 18))) hC.1 ?_
            refine hr_iconst (v := 4) C dX4_arrive_106 (by decide) ?_
            refine hr_isub (v := nI ((un ((md_come S k) 14 0 18)) - 4)) C dX4_arrive_107 (pk_sub (a := (un ((md_come S k) 14 0 18))) (b := 4) (by omega)) ?_
            refine hr_bipush (v := 20) C dX4_arrive_108 (by decide) ?_
            refine hr_irem (v := nI (((un ((md_come S k) 14 0 18)) - 4) % 20)) C dX4_arrive_110 (by decide) (pk_rem (a := ((un ((md_come S k) 14 0 18)) - 4)) (d := 20) (by omega) (by omega) (by omega)) ?_
            refine hr_if_ne C 160 dX4_arrive_111 (by decide) (fun c111 => ?_) (fun c111 => ?_)
            · skip
              have c111 : ¬ (((un ((md_come S k) 14 0 18)) - 4) % 20) = 0 := fun h => c111 ((nI_eq (a := (((un ((md_come S k) 14 0 18)) - 4) % 20)) (b := 0) (by omega) (by omega)).mpr h)
              refine hr_iconst (v := 0) C dX4_arrive_160 (by decide) ?_
              refine hr_istore C [(4, .int 0), (0, .ref (hr_ad E 14 0)), (1, .int (nI k)), (2, .int (nI (un (S 21 0 k)))), (3, .int (nI (un (S 22 0 k))))] dX4_arrive_161 (by decide) rfl ?_
              refine hr_iload C dX4_arrive_163 0 rfl ?_
              refine hr_if_ne C 180 dX4_arrive_165 (by decide) (fun c165 => ?_) (fun c165 => ?_)
              · skip
                exact absurd c165 (by decide)
              · skip
                have c165 : 0 = 0 := (nI_eq (a := 0) (b := 0) (by omega) (by omega)).mp c165
                refine hr_aload_n C dX4_arrive_168 rfl 1 rfl ?_
                refine hr_dup C dX4_arrive_169 rfl ?_
                refine hr_get (k := 14) (i := 0) (fld := 4) C (by decide) rfl rfl (by decide) kU_X4 kF_X4_104 rfl rfl dX4_arrive_170 ?_
                refine hr_iconst (v := 1) C dX4_arrive_173 (by decide) ?_
                refine hr_iadd C dX4_arrive_174 rfl ?_
                refine hr_put (k := 14) (i := 0) (fld := 4) C (by decide) rfl rfl (by decide) kU_X4 kF_X4_104 rfl tyX4 tyX4_ok nmX4 rfl (by decide +kernel) (Nat.le_of_ble_eq_true rfl) (by simp [hr_cell, hr_w, hr_wA, upd]) rfl dX4_arrive_175 ?_
                refine hr_iconst (v := 1) C dX4_arrive_178 (by decide) ?_
                exact hr_zret C hr rfl dX4_arrive_179 ⟨by rw [if_pos c78], by unfold md_arr md_in; rw [if_neg c78, if_neg (show ¬ md_snd (md_come S k) from fun h => c111 h.2.1)]; try rfl⟩
            · skip
              have c111 : (((un ((md_come S k) 14 0 18)) - 4) % 20) = 0 := (nI_eq (a := (((un ((md_come S k) 14 0 18)) - 4) % 20)) (b := 0) (by omega) (by omega)).mp c111
              refine hr_aload_n C dX4_arrive_114 rfl 0 rfl ?_
              refine hr_get (k := 14) (i := 0) (fld := 19) C (by decide) rfl rfl (by decide) kU_X4 kF_X4_45 rfl rfl dX4_arrive_115 ?_
              refine hr_iconst (v := 0) C dX4_arrive_118 (by decide) ?_
              refine hr_iald (k := 26) (i := 0) 0 C (by decide) rfl rfl (show 0 < 164 by omega) (by decide) dX4_arrive_119 ?_
              refine hr_iconst (v := 1) C dX4_arrive_120 (by decide) ?_
              refine hr_iconst (v := 2) C dX4_arrive_121 (by decide) ?_
              refine hr_cSi C (ct_X4_in l E (md_come S k) o ((md_come S k) 26 0 0) 1 2) (cwS 3 C.1.2.2.2.2 (hr_gS kM_X4_52 kT_X4_in kN_X4 kC_X4_in) rfl rfl rfl (by decide +kernel) ⟨Nat.le_of_ble_eq_true rfl, Nat.le_of_ble_eq_true rfl⟩) rfl (Nat.le_of_ble_eq_true rfl) dX4_arrive_122 ⟨Nat.le_of_ble_eq_true rfl, Nat.le_of_ble_eq_true rfl⟩ (fun r4 S5 h6 => ?_) rfl
              refine hr_tp h6.1 ?_
              refine hr_st (S1 := (md_come S k)) h6.2 ?_
              refine hr_if_eq C 160 dX4_arrive_125 (by decide) (fun c125 => ?_) (fun c125 => ?_)
              · skip
                have c125 := hr_bz.mp c125
                have c125 : ¬ (1 ≤ ((md_come S k) 26 0 0) ∧ ((md_come S k) 26 0 0) ≤ 2) := c125
                refine hr_iconst (v := 0) C dX4_arrive_160 (by decide) ?_
                refine hr_istore C [(4, .int 0), (0, .ref (hr_ad E 14 0)), (1, .int (nI k)), (2, .int (nI (un (S 21 0 k)))), (3, .int (nI (un (S 22 0 k))))] dX4_arrive_161 (by decide) rfl ?_
                refine hr_iload C dX4_arrive_163 0 rfl ?_
                refine hr_if_ne C 180 dX4_arrive_165 (by decide) (fun c165 => ?_) (fun c165 => ?_)
                · skip
                  exact absurd c165 (by decide)
                · skip
                  have c165 : 0 = 0 := (nI_eq (a := 0) (b := 0) (by omega) (by omega)).mp c165
                  refine hr_aload_n C dX4_arrive_168 rfl 1 rfl ?_
                  refine hr_dup C dX4_arrive_169 rfl ?_
                  refine hr_get (k := 14) (i := 0) (fld := 4) C (by decide) rfl rfl (by decide) kU_X4 kF_X4_104 rfl rfl dX4_arrive_170 ?_
                  refine hr_iconst (v := 1) C dX4_arrive_173 (by decide) ?_
                  refine hr_iadd C dX4_arrive_174 rfl ?_
                  refine hr_put (k := 14) (i := 0) (fld := 4) C (by decide) rfl rfl (by decide) kU_X4 kF_X4_104 rfl tyX4 tyX4_ok nmX4 rfl (by decide +kernel) (Nat.le_of_ble_eq_true rfl) (by simp [hr_cell, hr_w, hr_wA, upd]) rfl dX4_arrive_175 ?_
                  refine hr_iconst (v := 1) C dX4_arrive_178 (by decide) ?_
                  exact hr_zret C hr rfl dX4_arrive_179 ⟨by rw [if_pos c78], by unfold md_arr md_in; rw [if_neg c78, if_neg (show ¬ md_snd (md_come S k) from fun h => c125 h.2.2.1)]; try rfl⟩
              · skip
                have c125 := hr_bn.mp c125
                have c125 : 1 ≤ ((md_come S k) 26 0 0) ∧ ((md_come S k) 26 0 0) ≤ 2 := c125
                refine hr_aload_n C dX4_arrive_128 rfl 0 rfl ?_
                refine hr_get (k := 14) (i := 0) (fld := 19) C (by decide) rfl rfl (by decide) kU_X4 kF_X4_45 rfl rfl dX4_arrive_129 ?_
                refine hr_iconst (v := 1) C dX4_arrive_132 (by decide) ?_
                refine hr_iald (k := 26) (i := 0) 1 C (by decide) rfl rfl (show 1 < 164 by omega) (by decide) dX4_arrive_133 ?_
                refine hr_iconst (v := 2) C dX4_arrive_134 (by decide) ?_
                refine hr_icmp_ne C 160 dX4_arrive_135 (by decide) (fun c135 => ?_) (fun c135 => ?_)
                · skip
                  refine hr_iconst (v := 0) C dX4_arrive_160 (by decide) ?_
                  refine hr_istore C [(4, .int 0), (0, .ref (hr_ad E 14 0)), (1, .int (nI k)), (2, .int (nI (un (S 21 0 k)))), (3, .int (nI (un (S 22 0 k))))] dX4_arrive_161 (by decide) rfl ?_
                  refine hr_iload C dX4_arrive_163 0 rfl ?_
                  refine hr_if_ne C 180 dX4_arrive_165 (by decide) (fun c165 => ?_) (fun c165 => ?_)
                  · skip
                    exact absurd c165 (by decide)
                  · skip
                    have c165 : 0 = 0 := (nI_eq (a := 0) (b := 0) (by omega) (by omega)).mp c165
                    refine hr_aload_n C dX4_arrive_168 rfl 1 rfl ?_
                    refine hr_dup C dX4_arrive_169 rfl ?_
                    refine hr_get (k := 14) (i := 0) (fld := 4) C (by decide) rfl rfl (by decide) kU_X4 kF_X4_104 rfl rfl dX4_arrive_170 ?_
                    refine hr_iconst (v := 1) C dX4_arrive_173 (by decide) ?_
                    refine hr_iadd C dX4_arrive_174 rfl ?_
                    refine hr_put (k := 14) (i := 0) (fld := 4) C (by decide) rfl rfl (by decide) kU_X4 kF_X4_104 rfl tyX4 tyX4_ok nmX4 rfl (by decide +kernel) (Nat.le_of_ble_eq_true rfl) (by simp [hr_cell, hr_w, hr_wA, upd]) rfl dX4_arrive_175 ?_
                    refine hr_iconst (v := 1) C dX4_arrive_178 (by decide) ?_
                    exact hr_zret C hr rfl dX4_arrive_179 ⟨by rw [if_pos c78], by unfold md_arr md_in; rw [if_neg c78, if_neg (show ¬ md_snd (md_come S k) from fun h => c135 h.2.2.2.1)]; try rfl⟩
                · skip
                  refine hr_aload_n C dX4_arrive_138 rfl 0 rfl ?_
                  refine hr_get (k := 14) (i := 0) (fld := 19) C (by decide) rfl rfl (by decide) kU_X4 kF_X4_45 rfl rfl dX4_arrive_139 ?_
                  refine hr_iconst (v := 2) C dX4_arrive_142 (by decide) ?_
                  refine hr_iald (k := 26) (i := 0) 2 C (by decide) rfl rfl (show 2 < 164 by omega) (by decide) dX4_arrive_143 ?_
                  refine hr_if_ne C 160 dX4_arrive_144 (by decide) (fun c144 => ?_) (fun c144 => ?_)
                  · skip
                    refine hr_iconst (v := 0) C dX4_arrive_160 (by decide) ?_
                    refine hr_istore C [(4, .int 0), (0, .ref (hr_ad E 14 0)), (1, .int (nI k)), (2, .int (nI (un (S 21 0 k)))), (3, .int (nI (un (S 22 0 k))))] dX4_arrive_161 (by decide) rfl ?_
                    refine hr_iload C dX4_arrive_163 0 rfl ?_
                    refine hr_if_ne C 180 dX4_arrive_165 (by decide) (fun c165 => ?_) (fun c165 => ?_)
                    · skip
                      exact absurd c165 (by decide)
                    · skip
                      have c165 : 0 = 0 := (nI_eq (a := 0) (b := 0) (by omega) (by omega)).mp c165
                      refine hr_aload_n C dX4_arrive_168 rfl 1 rfl ?_
                      refine hr_dup C dX4_arrive_169 rfl ?_
                      refine hr_get (k := 14) (i := 0) (fld := 4) C (by decide) rfl rfl (by decide) kU_X4 kF_X4_104 rfl rfl dX4_arrive_170 ?_
                      refine hr_iconst (v := 1) C dX4_arrive_173 (by decide) ?_
                      refine hr_iadd C dX4_arrive_174 rfl ?_
                      refine hr_put (k := 14) (i := 0) (fld := 4) C (by decide) rfl rfl (by decide) kU_X4 kF_X4_104 rfl tyX4 tyX4_ok nmX4 rfl (by decide +kernel) (Nat.le_of_ble_eq_true rfl) (by simp [hr_cell, hr_w, hr_wA, upd]) rfl dX4_arrive_175 ?_
                      refine hr_iconst (v := 1) C dX4_arrive_178 (by decide) ?_
                      exact hr_zret C hr rfl dX4_arrive_179 ⟨by rw [if_pos c78], by unfold md_arr md_in; rw [if_neg c78, if_neg (show ¬ md_snd (md_come S k) from fun h => c144 h.2.2.2.2.1)]; try rfl⟩
                  · skip
                    refine hr_aload_n C dX4_arrive_147 rfl 0 rfl ?_
                    refine hr_get (k := 14) (i := 0) (fld := 19) C (by decide) rfl rfl (by decide) kU_X4 kF_X4_45 rfl rfl dX4_arrive_148 ?_
                    refine hr_iconst (v := 3) C dX4_arrive_151 (by decide) ?_
                    refine hr_iald (k := 26) (i := 0) 3 C (by decide) rfl rfl (show 3 < 164 by omega) (by decide) dX4_arrive_152 ?_
                    refine hr_if_ne C 160 dX4_arrive_153 (by decide) (fun c153 => ?_) (fun c153 => ?_)
                    · skip
                      refine hr_iconst (v := 0) C dX4_arrive_160 (by decide) ?_
                      refine hr_istore C [(4, .int 0), (0, .ref (hr_ad E 14 0)), (1, .int (nI k)), (2, .int (nI (un (S 21 0 k)))), (3, .int (nI (un (S 22 0 k))))] dX4_arrive_161 (by decide) rfl ?_
                      refine hr_iload C dX4_arrive_163 0 rfl ?_
                      refine hr_if_ne C 180 dX4_arrive_165 (by decide) (fun c165 => ?_) (fun c165 => ?_)
                      · skip
                        exact absurd c165 (by decide)
                      · skip
                        have c165 : 0 = 0 := (nI_eq (a := 0) (b := 0) (by omega) (by omega)).mp c165
                        refine hr_aload_n C dX4_arrive_168 rfl 1 rfl ?_
                        refine hr_dup C dX4_arrive_169 rfl ?_
                        refine hr_get (k := 14) (i := 0) (fld := 4) C (by decide) rfl rfl (by decide) kU_X4 kF_X4_104 rfl rfl dX4_arrive_170 ?_
                        refine hr_iconst (v := 1) C dX4_arrive_173 (by decide) ?_
                        refine hr_iadd C dX4_arrive_174 rfl ?_
                        refine hr_put (k := 14) (i := 0) (fld := 4) C (by decide) rfl rfl (by decide) kU_X4 kF_X4_104 rfl tyX4 tyX4_ok nmX4 rfl (by decide +kernel) (Nat.le_of_ble_eq_true rfl) (by simp [hr_cell, hr_w, hr_wA, upd]) rfl dX4_arrive_175 ?_
                        refine hr_iconst (v := 1) C dX4_arrive_178 (by decide) ?_
                        exact hr_zret C hr rfl dX4_arrive_179 ⟨by rw [if_pos c78], by unfold md_arr md_in; rw [if_neg c78, if_neg (show ¬ md_snd (md_come S k) from fun h => c153 h.2.2.2.2.2)]; try rfl⟩
                    · skip
                      refine hr_iconst (v := 1) C dX4_arrive_156 (by decide) ?_
                      refine hr_goto C 161 dX4_arrive_157 (by decide) ?_
                      refine hr_istore C [(4, .int 1), (0, .ref (hr_ad E 14 0)), (1, .int (nI k)), (2, .int (nI (un (S 21 0 k)))), (3, .int (nI (un (S 22 0 k))))] dX4_arrive_161 (by decide) rfl ?_
                      refine hr_iload C dX4_arrive_163 0 rfl ?_
                      refine hr_if_ne C 180 dX4_arrive_165 (by decide) (fun c165 => ?_) (fun c165 => ?_)
                      · skip
                        have c165 : ¬ 1 = 0 := fun h => c165 ((nI_eq (a := 1) (b := 0) (by omega) (by omega)).mpr h)
                        refine hr_aload_n C dX4_arrive_180 rfl 1 rfl ?_
                        refine hr_get (k := 14) (i := 0) (fld := 19) C (by decide) rfl rfl (by decide) kU_X4 kF_X4_45 rfl rfl dX4_arrive_181 ?_
                        refine hr_iconst (v := 0) C dX4_arrive_184 (by decide) ?_
                        refine hr_iald (k := 26) (i := 0) 0 C (by decide) rfl rfl (show 0 < 164 by omega) (by decide) dX4_arrive_185 ?_
                        refine hr_iconst (v := 1) C dX4_arrive_186 (by decide) ?_
                        refine hr_icmp_ne C 198 dX4_arrive_187 (by decide) (fun c187 => ?_) (fun c187 => ?_)
                        · skip
                          refine hr_iconst (v := 4) C dX4_arrive_198 (by decide) ?_
                          refine hr_istore C [(5, .int 4), (4, .int 1), (0, .ref (hr_ad E 14 0)), (1, .int (nI k)), (2, .int (nI (un (S 21 0 k)))), (3, .int (nI (un (S 22 0 k))))] dX4_arrive_199 (by decide) rfl ?_
                          have LP201 : ∀ (n2 j9 : Nat) , j9 ≤ ((un ((md_come S k) 14 0 18) - 4) / 20) → ((un ((md_come S k) 14 0 18) - 4) / 20) + 1 ≤ j9 + n2 → hr_G p l e ({ frames := 4, cells := 0, slots := 0, locals := 97 } : Room) s m #[.ref (hr_ad E 14 0), .int (nI k)] below meth c (MQ below (va_Qi (fun r u => r = (if ¬ (md_come S k) 15 0 ((8 * un (S 21 0 k)) + un (S 22 0 k)) = 0 then 1 else 0) ∧ u = md_arr S k) (fun u t => hr_P E u o t.heap) (hr_A E)) #[.ref (hr_ad E 14 0), .int (nI k)] s 0 0 (hr_A E)) E 6 0 0 (md_hrL (md_come S k) (un (S 22 0 k)) (nI (un (S 21 0 k))) j9) o [(0, .ref (hr_ad E 14 0)), (1, .int (nI k)), (2, .int (nI (un (S 21 0 k)))), (3, .int (nI (un (S 22 0 k)))), (5, .int (nI (4 + (20 * j9))))] 201 [] := by
                            intro n2
                            induction n2 with
                            | zero => intro j9  h1 h2; omega
                            | succ n2 ihB =>
                              intro j9  hv1 hv2
                              refine hr_iload C dX4_arrive_201 4 rfl ?_
                              refine hr_aload_n C dX4_arrive_203 rfl 0 rfl ?_
                              refine hr_get (k := 14) (i := 0) (fld := 18) C (by decide) rfl rfl (by decide) kU_X4 kF_X4_90 rfl rfl dX4_arrive_204 ?_
                              refine hr_tp (y := nI (un ((md_come S k) 14 0 18))) (by rw [md_hrL_o (by omega)]; exact hC.1) ?_
                              refine hr_icmp_ge C 265 dX4_arrive_207 (by decide) (fun c207 => ?_) (fun c207 => ?_)
                              · skip
                                have c207 : (un ((md_come S k) 14 0 18)) ≤ (4 + (20 * j9)) := (nI_leI (a := (un ((md_come S k) 14 0 18))) (b := (4 + (20 * j9))) (by omega) (by omega)).mp c207
                                have c207n : ¬ (4 + (20 * j9)) < (un ((md_come S k) 14 0 18)) := Nat.not_lt.mpr c207
                                refine hr_iconst (v := 1) C dX4_arrive_265 (by decide) ?_
                                exact hr_zret C hr rfl dX4_arrive_266 ⟨by rw [if_pos c78], by unfold md_arr md_in; rw [if_neg c78, if_pos (show md_snd (md_come S k) from ⟨c99n, c111, c125, c135, c144, c153⟩), if_neg c187]; unfold md_hr; rw [show j9 = (un ((md_come S k) 14 0 18) - 4) / 20 by omega]; try rfl⟩
                              · skip
                                have c207 : ¬ (un ((md_come S k) 14 0 18)) ≤ (4 + (20 * j9)) := fun h => c207 ((nI_leI (a := (un ((md_come S k) 14 0 18))) (b := (4 + (20 * j9))) (by omega) (by omega)).mpr h)
                                have c207n : (4 + (20 * j9)) < (un ((md_come S k) 14 0 18)) := Nat.not_le.mp c207
                                refine hr_aload_n C dX4_arrive_210 rfl 0 rfl ?_
                                refine hr_iload C dX4_arrive_211 4 rfl ?_
                                refine hr_cVi C (ct_X4_isSound l E (md_hrL (md_come S k) (un (S 22 0 k)) (nI (un (S 21 0 k))) j9) o (4 + (20 * j9)) (by omega)) (cwV 1 C.1.2.2.2.2 (hr_gV kM_X4_97 kI_X4_isSound kS_X4_isSound kN_X4 kC_X4_isSound) rfl rfl rfl (by decide +kernel) ⟨Nat.le_of_ble_eq_true rfl, Nat.le_of_ble_eq_true rfl⟩) (by decide) rfl rfl rfl (Nat.le_of_ble_eq_true rfl) dX4_arrive_213 ⟨Nat.le_of_ble_eq_true rfl, Nat.le_of_ble_eq_true rfl⟩ (fun r7 S8 h9 => ?_) rfl
                                refine hr_tp h9.1 ?_
                                refine hr_st (S1 := (md_hrL (md_come S k) (un (S 22 0 k)) (nI (un (S 21 0 k))) j9)) h9.2 ?_
                                refine hr_if_eq C 259 dX4_arrive_216 (by decide) (fun c216 => ?_) (fun c216 => ?_)
                                · skip
                                  have c216 := hr_bz.mp c216
                                  have c216 : ¬ (md_sE (md_hrL (md_come S k) (un (S 22 0 k)) (nI (un (S 21 0 k))) j9) (4 + (20 * j9))) := c216
                                  refine hr_iinc (v := nI (4 + (20 * j9) + 20)) C [(5, .int (nI (4 + (20 * j9) + 20))), (0, .ref (hr_ad E 14 0)), (1, .int (nI k)), (2, .int (nI (un (S 21 0 k)))), (3, .int (nI (un (S 22 0 k))))] dX4_arrive_259 4 rfl (nI_add (4 + (20 * j9)) 20) (by decide) rfl ?_
                                  refine hr_goto C 201 dX4_arrive_262 (by decide) ?_
                                  refine hr_sub [1, 2, 3, 4, 0] rfl ?_
                                  refine hr_lve (lv2 := [(0, .ref (hr_ad E 14 0)), (1, .int (nI k)), (2, .int (nI (un (S 21 0 k)))), (3, .int (nI (un (S 22 0 k)))), (5, .int (nI (4 + (20 * (j9 + 1)))))]) (by rw [show 4 + (20 * (j9 + 1)) = 4 + (20 * j9) + 20 by omega]; rfl) ?_
                                  refine hr_st (S1 := md_hrL (md_come S k) (un (S 22 0 k)) (nI (un (S 21 0 k))) (j9 + 1)) (by rw [md_hrL, if_neg (fun h => c216 h.1)]) ?_
                                  exact ihB (j9 + 1)  (by omega) (by omega)
                                · skip
                                  have c216 := hr_bn.mp c216
                                  have c216 : md_sE (md_hrL (md_come S k) (un (S 22 0 k)) (nI (un (S 21 0 k))) j9) (4 + (20 * j9)) := c216
                                  have hd9 := (nb_07 c216.2.1).2
                                  refine hr_aload_n C dX4_arrive_219 rfl 0 rfl ?_
                                  refine hr_get (k := 14) (i := 0) (fld := 19) C (by decide) rfl rfl (by decide) kU_X4 kF_X4_45 rfl rfl dX4_arrive_220 ?_
                                  refine hr_iload C dX4_arrive_223 4 rfl ?_
                                  refine hr_bipush (v := 6) C dX4_arrive_225 (by decide) ?_
                                  refine hr_iadd (v := nI ((4 + (20 * j9)) + 6)) C dX4_arrive_227 (nI_add (4 + (20 * j9)) 6) ?_
                                  refine hr_iald (k := 26) (i := 0) ((4 + (20 * j9)) + 6) C (by decide) rfl rfl (show (4 + (20 * j9)) + 6 < 164 by omega) (by decide) dX4_arrive_228 ?_
                                  refine hr_tp (y := nI (un ((md_hrL (md_come S k) (un (S 22 0 k)) (nI (un (S 21 0 k))) j9) 26 0 ((4 + (20 * j9)) + 6)))) (nb_07 c216.2.1).1 ?_
                                  refine hr_iload_n C dX4_arrive_229 rfl 3 rfl ?_
                                  refine hr_icmp_eq C 259 dX4_arrive_230 (by decide) (fun c230 => ?_) (fun c230 => ?_)
                                  · skip
                                    have c230 : (un ((md_hrL (md_come S k) (un (S 22 0 k)) (nI (un (S 21 0 k))) j9) 26 0 ((4 + (20 * j9)) + 6))) = (un (S 22 0 k)) := (nI_eq (a := (un ((md_hrL (md_come S k) (un (S 22 0 k)) (nI (un (S 21 0 k))) j9) 26 0 ((4 + (20 * j9)) + 6)))) (b := (un (S 22 0 k))) (by omega) (by omega)).mp c230
                                    refine hr_iinc (v := nI (4 + (20 * j9) + 20)) C [(5, .int (nI (4 + (20 * j9) + 20))), (0, .ref (hr_ad E 14 0)), (1, .int (nI k)), (2, .int (nI (un (S 21 0 k)))), (3, .int (nI (un (S 22 0 k))))] dX4_arrive_259 4 rfl (nI_add (4 + (20 * j9)) 20) (by decide) rfl ?_
                                    refine hr_goto C 201 dX4_arrive_262 (by decide) ?_
                                    refine hr_sub [1, 2, 3, 4, 0] rfl ?_
                                    refine hr_lve (lv2 := [(0, .ref (hr_ad E 14 0)), (1, .int (nI k)), (2, .int (nI (un (S 21 0 k)))), (3, .int (nI (un (S 22 0 k)))), (5, .int (nI (4 + (20 * (j9 + 1)))))]) (by rw [show 4 + (20 * (j9 + 1)) = 4 + (20 * j9) + 20 by omega]; rfl) ?_
                                    refine hr_st (S1 := md_hrL (md_come S k) (un (S 22 0 k)) (nI (un (S 21 0 k))) (j9 + 1)) (by rw [md_hrL, if_neg (fun h => h.2 ((nb_07 c216.2.1).1.trans (by rw [c230])))]) ?_
                                    exact ihB (j9 + 1)  (by omega) (by omega)
                                  · skip
                                    have c230 : ¬ (un ((md_hrL (md_come S k) (un (S 22 0 k)) (nI (un (S 21 0 k))) j9) 26 0 ((4 + (20 * j9)) + 6))) = (un (S 22 0 k)) := fun h => c230 ((nI_eq (a := (un ((md_hrL (md_come S k) (un (S 22 0 k)) (nI (un (S 21 0 k))) j9) 26 0 ((4 + (20 * j9)) + 6)))) (b := (un (S 22 0 k))) (by omega) (by omega)).mpr h)
                                    refine hr_aload_n C dX4_arrive_233 rfl 0 rfl ?_
                                    refine hr_iload_n C dX4_arrive_234 rfl 3 rfl ?_
                                    refine hr_iload_n C dX4_arrive_235 rfl 2 rfl ?_
                                    refine hr_aload_n C dX4_arrive_236 rfl 0 rfl ?_
                                    refine hr_get (k := 14) (i := 0) (fld := 19) C (by decide) rfl rfl (by decide) kU_X4 kF_X4_45 rfl rfl dX4_arrive_237 ?_
                                    refine hr_iload C dX4_arrive_240 4 rfl ?_
                                    refine hr_bipush (v := 6) C dX4_arrive_242 (by decide) ?_
                                    refine hr_iadd (v := nI ((4 + (20 * j9)) + 6)) C dX4_arrive_244 (nI_add (4 + (20 * j9)) 6) ?_
                                    refine hr_iald (k := 26) (i := 0) ((4 + (20 * j9)) + 6) C (by decide) rfl rfl (show (4 + (20 * j9)) + 6 < 164 by omega) (by decide) dX4_arrive_245 ?_
                                    refine hr_tp (y := nI (un ((md_hrL (md_come S k) (un (S 22 0 k)) (nI (un (S 21 0 k))) j9) 26 0 ((4 + (20 * j9)) + 6)))) (nb_07 c216.2.1).1 ?_
                                    refine hr_aload_n C dX4_arrive_246 rfl 0 rfl ?_
                                    refine hr_get (k := 14) (i := 0) (fld := 19) C (by decide) rfl rfl (by decide) kU_X4 kF_X4_45 rfl rfl dX4_arrive_247 ?_
                                    refine hr_iload C dX4_arrive_250 4 rfl ?_
                                    refine hr_bipush (v := 19) C dX4_arrive_252 (by decide) ?_
                                    refine hr_iadd (v := nI ((4 + (20 * j9)) + 19)) C dX4_arrive_254 (nI_add (4 + (20 * j9)) 19) ?_
                                    refine hr_iald (k := 26) (i := 0) ((4 + (20 * j9)) + 19) C (by decide) rfl rfl (show (4 + (20 * j9)) + 19 < 164 by omega) (by decide) dX4_arrive_255 ?_
                                    refine hr_cVv C (ct_X4_hear l E (md_hrL (md_come S k) (un (S 22 0 k)) (nI (un (S 21 0 k))) j9) o (un (S 22 0 k)) (un ((md_hrL (md_come S k) (un (S 22 0 k)) (nI (un (S 21 0 k))) j9) 26 0 ((4 + (20 * j9)) + 6))) hR2 hd9 (nI (un (S 21 0 k))) ((md_hrL (md_come S k) (un (S 22 0 k)) (nI (un (S 21 0 k))) j9) 26 0 ((4 + (20 * j9)) + 19))) (cwV 4 C.1.2.2.2.2 (hr_gV kM_X4_110 kI_X4_hear kS_X4_hear kN_X4 kC_X4_hear) rfl rfl rfl (by decide +kernel) ⟨Nat.le_of_ble_eq_true rfl, Nat.le_of_ble_eq_true rfl⟩) (by decide) rfl rfl rfl (Nat.le_of_ble_eq_true rfl) dX4_arrive_256 ⟨Nat.le_of_ble_eq_true rfl, Nat.le_of_ble_eq_true rfl⟩ (fun S11 h12 => ?_) rfl
                                    refine hr_st (S1 := (md_hear (md_hrL (md_come S k) (un (S 22 0 k)) (nI (un (S 21 0 k))) j9) ((8 * (un (S 22 0 k))) + (un ((md_hrL (md_come S k) (un (S 22 0 k)) (nI (un (S 21 0 k))) j9) 26 0 ((4 + (20 * j9)) + 6)))) (nI (un (S 21 0 k))) ((md_hrL (md_come S k) (un (S 22 0 k)) (nI (un (S 21 0 k))) j9) 26 0 ((4 + (20 * j9)) + 19)))) h12 ?_
                                    refine hr_iinc (v := nI (4 + (20 * j9) + 20)) C [(5, .int (nI (4 + (20 * j9) + 20))), (0, .ref (hr_ad E 14 0)), (1, .int (nI k)), (2, .int (nI (un (S 21 0 k)))), (3, .int (nI (un (S 22 0 k))))] dX4_arrive_259 4 rfl (nI_add (4 + (20 * j9)) 20) (by decide) rfl ?_
                                    refine hr_goto C 201 dX4_arrive_262 (by decide) ?_
                                    refine hr_sub [1, 2, 3, 4, 0] rfl ?_
                                    refine hr_lve (lv2 := [(0, .ref (hr_ad E 14 0)), (1, .int (nI k)), (2, .int (nI (un (S 21 0 k)))), (3, .int (nI (un (S 22 0 k)))), (5, .int (nI (4 + (20 * (j9 + 1)))))]) (by rw [show 4 + (20 * (j9 + 1)) = 4 + (20 * j9) + 20 by omega]; rfl) ?_
                                    refine hr_st (S1 := md_hrL (md_come S k) (un (S 22 0 k)) (nI (un (S 21 0 k))) (j9 + 1)) (by rw [md_hrL, if_pos ⟨c216, fun h => c230 (by rw [h, un_nI (by omega)])⟩]) ?_
                                    exact ihB (j9 + 1)  (by omega) (by omega)
                          refine hr_sub [2, 3, 4, 5, 0] rfl ?_
                          refine hr_lve (lv2 := [(0, .ref (hr_ad E 14 0)), (1, .int (nI k)), (2, .int (nI (un (S 21 0 k)))), (3, .int (nI (un (S 22 0 k)))), (5, .int (nI (4 + (20 * 0))))]) rfl ?_
                          refine hr_st (S1 := md_hrL (md_come S k) (un (S 22 0 k)) (nI (un (S 21 0 k))) 0) rfl ?_
                          exact LP201 (((un ((md_come S k) 14 0 18) - 4) / 20) + 1) 0  (by omega) (by omega)
                        · skip
                          refine hr_aload_n C dX4_arrive_190 rfl 1 rfl ?_
                          refine hr_iload_n C dX4_arrive_191 rfl 4 rfl ?_
                          refine hr_iload_n C dX4_arrive_192 rfl 3 rfl ?_
                          refine hr_cVv C (ct_X4_answer l E (md_come S k) o (un (S 22 0 k)) hR2 (nI (un (S 21 0 k))) hT (nb_nI hA2 (by decide)) hC c99n c111) (cwV 2 C.1.2.2.2.2 (hr_gV kM_X4_107 kI_X4_answer kS_X4_answer kN_X4 kC_X4_answer) rfl rfl rfl (by decide +kernel) ⟨Nat.le_of_ble_eq_true rfl, Nat.le_of_ble_eq_true rfl⟩) (by decide) rfl rfl rfl (Nat.le_of_ble_eq_true rfl) dX4_arrive_193 ⟨Nat.le_of_ble_eq_true rfl, Nat.le_of_ble_eq_true rfl⟩ (fun S14 h15 => ?_) rfl
                          refine hr_st (S1 := (md_ans (md_come S k) (un (S 22 0 k)) (nI (un (S 21 0 k))))) h15 ?_
                          refine hr_iconst (v := 1) C dX4_arrive_196 (by decide) ?_
                          exact hr_zret C hr rfl dX4_arrive_197 ⟨by rw [if_pos c78], by unfold md_arr md_in; rw [if_neg c78, if_pos (show md_snd (md_come S k) from ⟨c99n, c111, c125, c135, c144, c153⟩), if_pos c187]⟩
                      · skip
                        exact absurd c165 (by decide)
        · skip
          refine hr_aload_n C dX4_arrive_81 rfl 0 rfl ?_
          refine hr_dup C dX4_arrive_82 rfl ?_
          refine hr_get (k := 14) (i := 0) (fld := 2) C (by decide) rfl rfl (by decide) kU_X4 kF_X4_69 rfl rfl dX4_arrive_83 ?_
          refine hr_iconst (v := 1) C dX4_arrive_86 (by decide) ?_
          refine hr_iadd C dX4_arrive_87 rfl ?_
          refine hr_put (k := 14) (i := 0) (fld := 2) C (by decide) rfl rfl (by decide) kU_X4 kF_X4_69 rfl tyX4 tyX4_ok nmX4 rfl (by decide +kernel) (Nat.le_of_ble_eq_true rfl) (by simp [hr_cell, hr_w, hr_wA, upd]) rfl dX4_arrive_88 ?_
          refine hr_iconst (v := 0) C dX4_arrive_91 (by decide) ?_
          exact hr_zret C hr rfl dX4_arrive_92 ⟨by rw [if_neg (not_not_intro c78)], by unfold md_arr md_in; rw [if_pos c78]; try rfl⟩
      · skip
        have c33 : ¬ (un (S 23 0 k)) ≤ i9 := fun h => c33 ((nI_leI (a := (un (S 23 0 k))) (b := i9) (by omega) (by omega)).mpr h)
        have c33n : i9 < (un (S 23 0 k)) := Nat.not_le.mp c33
        refine hr_aload_n C dX4_arrive_36 rfl 0 rfl ?_
        refine hr_get (k := 14) (i := 0) (fld := 19) C (by decide) rfl rfl (by decide) kU_X4 kF_X4_45 rfl rfl dX4_arrive_37 ?_
        refine hr_iload C dX4_arrive_40 4 rfl ?_
        refine hr_aload_n C dX4_arrive_42 rfl 0 rfl ?_
        refine hr_get (k := 14) (i := 0) (fld := 15) C (by decide) rfl rfl (by decide) kU_X4 kF_X4_39 rfl rfl dX4_arrive_43 ?_
        refine hr_sipush (v := 164) C dX4_arrive_46 (by decide) ?_
        refine hr_iload_n C dX4_arrive_49 rfl 1 rfl ?_
        refine hr_imul (v := nI (164 * k)) C dX4_arrive_50 (pk_mul 164 k) ?_
        refine hr_iload C dX4_arrive_51 4 rfl ?_
        refine hr_iadd (v := nI ((164 * k) + i9)) C dX4_arrive_53 (nI_add (164 * k) i9) ?_
        refine hr_iald (k := 24) (i := 0) ((164 * k) + i9) C (by decide) rfl rfl (show (164 * k) + i9 < 32800 by omega) (by decide) dX4_arrive_54 ?_
        refine hr_iast (k := 26) (i := 0) i9 C (by decide) rfl rfl (show i9 < 164 by omega) (by decide) (by simp [hr_cell, hr_wA]) rfl dX4_arrive_55 ?_
        refine hr_iinc (v := nI (i9 + 1)) C [(4, .int (nI (i9 + 1))), (0, .ref (hr_ad E 14 0)), (1, .int (nI k)), (2, .int (nI (un (S 21 0 k)))), (3, .int (nI (un (S 22 0 k))))] dX4_arrive_56 4 rfl (nI_add i9 1) (by decide) rfl ?_
        refine hr_goto C 27 dX4_arrive_59 (by decide) ?_
        refine hr_sub [1, 2, 3, 4, 0] rfl ?_
        refine hr_st (S1 := md_cmL (hr_w S 14 0 18 (S 23 0 k)) k (i9 + 1)) rfl ?_
        exact ihA (i9 + 1)  (by omega) (by omega)
  refine hr_sub [3, 4, 2, 1, 0] rfl ?_
  refine hr_st (S1 := md_cmL (hr_w S 14 0 18 (S 23 0 k)) k 0) rfl ?_
  exact LP27 ((un (S 23 0 k)) + 1) 0  (by omega) (by omega)
